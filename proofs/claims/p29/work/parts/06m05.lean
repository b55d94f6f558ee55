/-! contracts of any state. Laid by a program (wip/tool) -/
abbrev WkX12_setsAs_0_f1_f7 : List (Nat × Nat × Option Nat) := [(0, 0, some 48), (21, 21, some 1)]
set_option maxHeartbeats 4000000 in
set_option maxRecDepth 100000 in
theorem kX12_setsAs_0_f1_f7 (l : Launch) (D : va_G) (ca : Nat → ClassId) (za h : Nat → Nat) (hh : sgH 26 h) (f : sg_F) (L : sg_L) (Q : sg_Q) (hI : sgI loM hiM f) (x1 : Int32) (hf_0_48 : f 0 48 = 1) (hf_0_49 : f 0 49 = 7) (p0 : 1 ≤ (f 0 48).toInt ∧ (f 0 48).toInt ≤ 1) (sz : Nat) : Met l yX12_setsAs gwX12_setsAs { frames := 1, cells := 0, slots := 0, locals := 21 } (sgP D vwCl (tyX ca) 26 h (eM ca h) zcM za f L Q sz [.ref (h 0), .int 0, .int x1]) (sgQi D vwCl 26 h (eM ca h) sz (fun r f1 L1 Q1 => ((sgI loM hiM f1 ∧ sgK WkX12_setsAs_0_f1_f7 f f1 ∧ L1 = L ∧ Q1 = Q) ∧ True ∧ (2 ≤ (f1 0 48).toInt ∧ (f1 0 48).toInt ≤ 2) ∧ (r, f1) = sX12_setsAs_0_f1_f7 x1 f L))) 0 0 (sgA 26 h sz) := by
  refine sg_ofWi (cc := cX12_setsAs) (maxL := 3) RX12 (by decide) rfl rfl (Nat.le_of_ble_eq_true rfl) ?_
  intro p e s m below meth cd Qz ls hx hb hml hown hts hK hZ hP hS hl hret
  have hA := sgY.self (n := 26) (h := h) (sz := s.heap.size)
  have hl : lv_has ls 3 [(0, .ref (h 0)), (1, .int 0), (2, .int x1)] := hl
  obtain ⟨H, hH⟩ : ∃ z : Heap, z = s.heap := ⟨_, rfl⟩
  obtain ⟨locs, hlo⟩ : ∃ z : List Loc, z = [] := ⟨_, rfl⟩
  have hP : va_P D vwCl (sgw 26 h (eM ca h) f L Q) H := by rw [hH]; exact hP
  have hS : va_S (sgA 26 h s.heap.size) s.heap H locs := by rw [hH, hlo]; exact hS
  suffices hgo : W p l e ({ frames := 1, cells := 0, slots := 0, locals := 21 }) s m ([.ref (h 0), .int 0, .int x1] : List Value).toArray below meth cd H locs 0 0 Qz (F0 m 0 ls []) by rw [hH, hlo] at hgo; exact hgo
  clear hH hlo
  obtain ⟨sp, hsp⟩ : ∃ z : Int32 × sg_F, z = sX12_setsAs_0_f1_f7 x1 f L := ⟨_, rfl⟩
  have hs : sp = sX12_setsAs_0_f1_f7 x1 f L := hsp
  have o_1 : (f 0 48).toInt = 1 := (congrArg Int32.toInt (show f 0 48 = 1 from hf_0_48)).trans (by decide)
  have hF : sgK WkX12_setsAs_0_f1_f7 f f := sgK.rf
  refine lv_iload_n hx hb dX12_setsAs_0 rfl (lv_at hl 1 rfl) ?_
  refine lv_iconst (v := 1) hx hb dX12_setsAs_1 ic_1 ?_
  refine lv_icmp_eq (tgt := 16) hx hb dX12_setsAs_2 (by decide) (fun c => absurd c (by decide)) (fun c => ?_)
  refine lv_iload_n hx hb dX12_setsAs_5 rfl (lv_at hl 1 rfl) ?_
  refine lv_iconst (v := 4) hx hb dX12_setsAs_6 ic_4 ?_
  refine lv_icmp_eq (tgt := 16) hx hb dX12_setsAs_7 (by decide) (fun c => absurd c (by decide)) (fun c => ?_)
  refine lv_iload_n hx hb dX12_setsAs_10 rfl (lv_at hl 1 rfl) ?_
  refine lv_bipush (v := 7) hx hb dX12_setsAs_11 bp_7 ?_
  refine lv_icmp_ne (tgt := 31) hx hb dX12_setsAs_13 (by decide) (fun c => ?_) (fun c => absurd c (by decide))
  refine lv_iload_n hx hb dX12_setsAs_31 rfl (lv_at hl 1 rfl) ?_
  refine lv_bipush (v := 6) hx hb dX12_setsAs_32 bp_6 ?_
  refine lv_icmp_ne (tgt := 52) hx hb dX12_setsAs_34 (by decide) (fun c => ?_) (fun c => absurd c (by decide))
  refine lv_aload_n hx hb dX12_setsAs_52 rfl (lv_at hl 0 rfl) ?_
  refine lv_iconst (v := 1) hx hb dX12_setsAs_53 ic_1 ?_
  have q_2 : (f 0 48).toInt = 1 := (congrArg Int32.toInt (show f 0 48 = 1 from hf_0_48)).trans (by decide)
  refine sg_callv (va_runV (As := [.int 1]) (rest := []) ⟨hx, hb, hml, hown, hts⟩ (kX12_begins_1_f1 l D ca za h hh f L Q hI hf_0_48 (by have k0 : (1 : Int32).toInt = 1 := ti_1; omega) H.size) (sl_c12_begins_0_0_0_0_12 hts ⟨Nat.le_of_ble_eq_true rfl, Nat.le_of_ble_eq_true rfl⟩) (sl_vM_0 hA hK hP hS hZ) rfl rfl hl.1 rfl (lv_room (Nat.le_of_ble_eq_true rfl)) dX12_setsAs_54 ⟨Nat.le_refl _, Nat.le_refl _⟩) hA hS (fun f_4 L_5 Q_6 H locs hq hP hS => ?_)
  obtain ⟨⟨hI, hk_f_4, eL9, eQ9⟩, p_7, u_8⟩ := hq
  rw [eL9, eQ9] at hP; clear eL9 eQ9
  have hF : sgK WkX12_setsAs_0_f1_f7 f f_4 := sgK.tr hF hk_f_4 (by decide +kernel)
  obtain ⟨v_9, ev_9⟩ : ∃ z : Int32, z = f_4 0 48 := ⟨_, rfl⟩
  have q_10 : 0 ≤ v_9.toInt ∧ v_9.toInt ≤ 19 := by rw [ev_9]; exact hI 0 48
  have q_11 : (f_4 0 48).toInt = v_9.toInt := (congrArg Int32.toInt (show f_4 0 48 = v_9 from ev_9.symm))
  refine lv_iload_n hx hb dX12_setsAs_57 rfl (lv_at hl 2 rfl) ?_
  refine lv_aload_n hx hb dX12_setsAs_58 rfl (lv_at hl 0 rfl) ?_
  refine sl_gM_0_50_12 (v := (f_4 0 50)) hx hb hts hown hK hP rfl dX12_setsAs_59 ?_
  refine lv_topi (fun v_13 ev_13 => ?_)
  have q_14 : 0 ≤ v_13.toInt ∧ v_13.toInt ≤ 49 := by rw [ev_13]; exact hI 0 50
  refine lv_iadd hx hb dX12_setsAs_62 ?_
  refine lv_topi (fun v_15 ev_15 => ?_)
  exact hret _ _ _ _ (v_15) f_4 L Q dX12_setsAs_63 hP hS ⟨⟨hI, hF, rfl, rfl⟩, trivial, ⟨by omega, by omega⟩, (Eq.trans (Eq.symm (hs.trans ((spl_e u_8 (spl_e ev_9 (spl_e ev_13 (spl_e ev_15 rfl))))))) hsp)⟩

abbrev WkX12_setsAs_7_f0_f7 : List (Nat × Nat × Option Nat) := [(0, 0, some 48), (21, 21, some 0), (21, 21, some 1)]
set_option maxHeartbeats 4000000 in
set_option maxRecDepth 100000 in
theorem kX12_setsAs_7_f0_f7 (l : Launch) (D : va_G) (ca : Nat → ClassId) (za h : Nat → Nat) (hh : sgH 26 h) (f : sg_F) (L : sg_L) (Q : sg_Q) (hI : sgI loM hiM f) (x1 : Int32) (hf_0_48 : f 0 48 = 0) (hf_0_49 : f 0 49 = 7) (p0 : 0 ≤ (f 0 48).toInt ∧ (f 0 48).toInt ≤ 0) (sz : Nat) : Met l yX12_setsAs gwX12_setsAs { frames := 2, cells := 0, slots := 0, locals := 43 } (sgP D vwCl (tyX ca) 26 h (eM ca h) zcM za f L Q sz [.ref (h 0), .int 7, .int x1]) (sgQi D vwCl 26 h (eM ca h) sz (fun r f1 L1 Q1 => ((sgI loM hiM f1 ∧ sgK WkX12_setsAs_7_f0_f7 f f1 ∧ L1 = L ∧ Q1 = Q) ∧ True ∧ (2 ≤ (f1 0 48).toInt ∧ (f1 0 48).toInt ≤ 2) ∧ (r, f1) = sX12_setsAs_7_f0_f7 x1 f L))) 0 0 (sgA 26 h sz) := by
  refine sg_ofWi (cc := cX12_setsAs) (maxL := 3) RX12 (by decide) rfl rfl (Nat.le_of_ble_eq_true rfl) ?_
  intro p e s m below meth cd Qz ls hx hb hml hown hts hK hZ hP hS hl hret
  have hA := sgY.self (n := 26) (h := h) (sz := s.heap.size)
  have hl : lv_has ls 3 [(0, .ref (h 0)), (1, .int 7), (2, .int x1)] := hl
  obtain ⟨H, hH⟩ : ∃ z : Heap, z = s.heap := ⟨_, rfl⟩
  obtain ⟨locs, hlo⟩ : ∃ z : List Loc, z = [] := ⟨_, rfl⟩
  have hP : va_P D vwCl (sgw 26 h (eM ca h) f L Q) H := by rw [hH]; exact hP
  have hS : va_S (sgA 26 h s.heap.size) s.heap H locs := by rw [hH, hlo]; exact hS
  suffices hgo : W p l e ({ frames := 2, cells := 0, slots := 0, locals := 43 }) s m ([.ref (h 0), .int 7, .int x1] : List Value).toArray below meth cd H locs 0 0 Qz (F0 m 0 ls []) by rw [hH, hlo] at hgo; exact hgo
  clear hH hlo
  obtain ⟨sp, hsp⟩ : ∃ z : Int32 × sg_F, z = sX12_setsAs_7_f0_f7 x1 f L := ⟨_, rfl⟩
  have hs : sp = sX12_setsAs_7_f0_f7 x1 f L := hsp
  have o_1 : (f 0 48).toInt = 0 := (congrArg Int32.toInt (show f 0 48 = 0 from hf_0_48)).trans (by decide)
  have hF : sgK WkX12_setsAs_7_f0_f7 f f := sgK.rf
  have blk_16 : ∀ (fp_16 : sg_F) (H : Heap) (locs : List Loc) (ls : Array Slot), sp = sX12_setsAs_7_f0_f7_b16 x1 fp_16 L → 0 ≤ (fp_16 0 48).toInt ∧ (fp_16 0 48).toInt ≤ 0 → 7 ≤ (fp_16 0 49).toInt ∧ (fp_16 0 49).toInt ≤ 7 → sgI loM hiM fp_16 → sgK WkX12_setsAs_7_f0_f7 f fp_16 → va_P D vwCl (sgw 26 h (eM ca h) fp_16 L Q) H → va_S (sgA 26 h s.heap.size) s.heap H locs → lv_has ls 3 [(0, .ref (h 0)), (2, .int x1)] → W p l e ({ frames := 2, cells := 0, slots := 0, locals := 43 }) s m ([.ref (h 0), .int 7, .int x1] : List Value).toArray below meth cd H locs 0 0 Qz (F0 m 16 ls []) := by
    intro fp_16 H locs ls hs hy0_16 hy1_16 hI hF hP hS hl
    obtain ⟨v_2, ev_2⟩ : ∃ z : Int32, z = fp_16 0 48 := ⟨_, rfl⟩
    have q_3 : 0 ≤ v_2.toInt ∧ v_2.toInt ≤ 19 := by rw [ev_2]; exact hI 0 48
    have q_4 : (fp_16 0 48).toInt = v_2.toInt := by rw [ev_2]
    obtain ⟨v_5, ev_5⟩ : ∃ z : Int32, z = fp_16 0 49 := ⟨_, rfl⟩
    have q_6 : 0 ≤ v_5.toInt ∧ v_5.toInt ≤ 7 := by rw [ev_5]; exact hI 0 49
    have q_7 : (fp_16 0 49).toInt = v_5.toInt := by rw [ev_5]
    have m_8 : fp_16 0 49 = 7 := (hF 0 49 (by decide)).trans hf_0_49
    refine lv_aload_n hx hb dX12_setsAs_16 rfl (lv_at hl 0 rfl) ?_
    refine lv_bipush (v := 20) hx hb dX12_setsAs_17 bp_20 ?_
    have c_9 : v_2 = 0 := Int32.toInt_inj.mp (by have k9 : (0 : Int32).toInt = 0 := ti_0; omega)
    have q_10 : (fp_16 0 48).toInt = 0 := (congrArg Int32.toInt (show fp_16 0 48 = 0 from (Eq.trans ev_2.symm c_9))).trans (by decide)
    refine sg_callv (va_runV (As := [.int 20]) (rest := []) ⟨hx, hb, hml, hown, hts⟩ (kX12_begins_20_f0 l D ca za h hh fp_16 L Q hI (Eq.trans ev_2.symm c_9) (by have k0 : (20 : Int32).toInt = 20 := ti_20; omega) H.size) (sl_c12_begins_0_0_0_0_12 hts ⟨Nat.le_of_ble_eq_true rfl, Nat.le_of_ble_eq_true rfl⟩) (sl_vM_0 hA hK hP hS hZ) rfl rfl hl.1 rfl (lv_room (Nat.le_of_ble_eq_true rfl)) dX12_setsAs_19 ⟨Nat.le_refl _, Nat.le_refl _⟩) hA hS (fun f_12 L_13 Q_14 H locs hq hP hS => ?_)
    obtain ⟨⟨hI, hk_f_12, eL9, eQ9⟩, p_15, u_16⟩ := hq
    rw [eL9, eQ9] at hP; clear eL9 eQ9
    have hF : sgK WkX12_setsAs_7_f0_f7 f f_12 := sgK.tr hF hk_f_12 (by decide +kernel)
    obtain ⟨v_17, ev_17⟩ : ∃ z : Int32, z = f_12 0 48 := ⟨_, rfl⟩
    have q_18 : 0 ≤ v_17.toInt ∧ v_17.toInt ≤ 19 := by rw [ev_17]; exact hI 0 48
    have q_19 : (f_12 0 48).toInt = v_17.toInt := (congrArg Int32.toInt (show f_12 0 48 = v_17 from ev_17.symm))
    refine lv_aload_n hx hb dX12_setsAs_22 rfl (lv_at hl 0 rfl) ?_
    refine lv_iconst (v := 0) hx hb dX12_setsAs_23 ic_0 ?_
    refine lv_iload_n hx hb dX12_setsAs_24 rfl (lv_at hl 1 rfl) ?_
    have c_21 : v_17 = 1 := Int32.toInt_inj.mp (by have k9 : (1 : Int32).toInt = 1 := ti_1; omega)
    have q_22 : (f_12 0 48).toInt = 1 := (congrArg Int32.toInt (show f_12 0 48 = 1 from (Eq.trans ev_17.symm c_21))).trans (by decide)
    refine sg_calli (va_runV (As := [.int 0, .int x1]) (rest := []) ⟨hx, hb, hml, hown, hts⟩ (kX12_setsAs_0_f1_f7 l D ca za h hh f_12 L Q hI x1 (Eq.trans ev_17.symm c_21) ((hk_f_12 0 49 (by decide)).trans m_8) (by have k0 : (0 : Int32).toInt = 0 := ti_0; omega) H.size) (sl_c12_setsAs_1_0_0_21_12 hts ⟨Nat.le_of_ble_eq_true rfl, Nat.le_of_ble_eq_true rfl⟩) (sl_vM_0 hA hK hP hS hZ) rfl rfl hl.1 rfl (lv_room (Nat.le_of_ble_eq_true rfl)) dX12_setsAs_25 ⟨Nat.le_refl _, Nat.le_refl _⟩) hA hS (fun r_27 f_24 L_25 Q_26 H locs hq hP hS => ?_)
    obtain ⟨⟨hI, hk_f_24, eL9, eQ9⟩, hq, p_28, u_29⟩ := hq
    rw [eL9, eQ9] at hP; clear eL9 eQ9
    have hF : sgK WkX12_setsAs_7_f0_f7 f f_24 := sgK.tr hF hk_f_24 (by decide +kernel)
    obtain ⟨v_30, ev_30⟩ : ∃ z : Int32, z = f_24 0 48 := ⟨_, rfl⟩
    have q_31 : 0 ≤ v_30.toInt ∧ v_30.toInt ≤ 19 := by rw [ev_30]; exact hI 0 48
    have q_32 : (f_24 0 48).toInt = v_30.toInt := (congrArg Int32.toInt (show f_24 0 48 = v_30 from ev_30.symm))
    have k_34 : (0 : Int32).toInt = 0 := by decide
    refine lv_iconst (v := 3) hx hb dX12_setsAs_28 ic_3 ?_
    refine lv_iadd hx hb dX12_setsAs_29 ?_
    refine lv_topi (fun v_35 ev_35 => ?_)
    exact hret _ _ _ _ (v_35) f_24 L Q dX12_setsAs_30 hP hS ⟨⟨hI, hF, rfl, rfl⟩, trivial, ⟨by omega, by omega⟩, (Eq.trans (Eq.symm (hs.trans ((spl_e ev_2 (spl_e ev_5 (spl_e u_16 (spl_e ev_17 (spl2_e u_29 (spl_e ev_30 (spl_e ev_35 rfl)))))))))) hsp)⟩
  refine lv_iload_n hx hb dX12_setsAs_0 rfl (lv_at hl 1 rfl) ?_
  refine lv_iconst (v := 1) hx hb dX12_setsAs_1 ic_1 ?_
  refine lv_icmp_eq (tgt := 16) hx hb dX12_setsAs_2 (by decide) (fun c => absurd c (by decide)) (fun c => ?_)
  refine lv_iload_n hx hb dX12_setsAs_5 rfl (lv_at hl 1 rfl) ?_
  refine lv_iconst (v := 4) hx hb dX12_setsAs_6 ic_4 ?_
  refine lv_icmp_eq (tgt := 16) hx hb dX12_setsAs_7 (by decide) (fun c => absurd c (by decide)) (fun c => ?_)
  refine lv_iload_n hx hb dX12_setsAs_10 rfl (lv_at hl 1 rfl) ?_
  refine lv_bipush (v := 7) hx hb dX12_setsAs_11 bp_7 ?_
  refine lv_icmp_ne (tgt := 31) hx hb dX12_setsAs_13 (by decide) (fun c => absurd c (by decide)) (fun c => ?_)
  exact blk_16 f _ _ _ hs (by have zz0_48 : (f 0 48).toInt = 0 := (congrArg Int32.toInt (show f 0 48 = 0 from hf_0_48)).trans (by decide); exact ⟨by omega, by omega⟩) (by have zz0_49 : (f 0 49).toInt = 7 := (congrArg Int32.toInt (show f 0 49 = 7 from hf_0_49)).trans (by decide); exact ⟨by omega, by omega⟩) hI hF hP hS (lv_sub hl [0, 2] rfl)

abbrev WkX12_begins_10_f0 : List (Nat × Nat × Option Nat) := [(0, 0, some 48), (21, 21, some 0)]
set_option maxHeartbeats 4000000 in
set_option maxRecDepth 100000 in
theorem kX12_begins_10_f0 (l : Launch) (D : va_G) (ca : Nat → ClassId) (za h : Nat → Nat) (hh : sgH 26 h) (f : sg_F) (L : sg_L) (Q : sg_Q) (hI : sgI loM hiM f) (hf_0_48 : f 0 48 = 0) (p0 : 0 ≤ (f 0 48).toInt ∧ (f 0 48).toInt ≤ 0) (sz : Nat) : Met l yX12_begins gwX12_begins { frames := 0, cells := 0, slots := 0, locals := 0 } (sgP D vwCl (tyX ca) 26 h (eM ca h) zcM za f L Q sz [.ref (h 0), .int 10]) (sgQv D vwCl 26 h (eM ca h) sz (fun f1 L1 Q1 => ((sgI loM hiM f1 ∧ sgK WkX12_begins_10_f0 f f1 ∧ L1 = L ∧ Q1 = Q) ∧ (1 ≤ (f1 0 48).toInt ∧ (f1 0 48).toInt ≤ 1) ∧ (f1) = sX12_begins_10_f0 f L))) 0 0 (sgA 26 h sz) := by
  refine sg_ofWv (cc := cX12_begins) (maxL := 2) RX12 (by decide) rfl rfl (Nat.le_of_ble_eq_true rfl) ?_
  intro p e s m below meth cd Qz ls hx hb hml hown hts hK hZ hP hS hl hret
  have hA := sgY.self (n := 26) (h := h) (sz := s.heap.size)
  have hl : lv_has ls 2 [(0, .ref (h 0)), (1, .int 10)] := hl
  obtain ⟨H, hH⟩ : ∃ z : Heap, z = s.heap := ⟨_, rfl⟩
  obtain ⟨locs, hlo⟩ : ∃ z : List Loc, z = [] := ⟨_, rfl⟩
  have hP : va_P D vwCl (sgw 26 h (eM ca h) f L Q) H := by rw [hH]; exact hP
  have hS : va_S (sgA 26 h s.heap.size) s.heap H locs := by rw [hH, hlo]; exact hS
  suffices hgo : W p l e ({ frames := 0, cells := 0, slots := 0, locals := 0 }) s m ([.ref (h 0), .int 10] : List Value).toArray below meth cd H locs 0 0 Qz (F0 m 0 ls []) by rw [hH, hlo] at hgo; exact hgo
  clear hH hlo
  obtain ⟨sp, hsp⟩ : ∃ z : sg_F, z = sX12_begins_10_f0 f L := ⟨_, rfl⟩
  have hs : sp = sX12_begins_10_f0 f L := hsp
  have o_1 : (f 0 48).toInt = 0 := (congrArg Int32.toInt (show f 0 48 = 0 from hf_0_48)).trans (by decide)
  have hF : sgK WkX12_begins_10_f0 f f := sgK.rf
  have blk_19 : ∀ (fp_19 : sg_F) (H : Heap) (locs : List Loc) (ls : Array Slot), sp = sX12_begins_10_f0_b19 fp_19 L → 0 ≤ (fp_19 0 48).toInt ∧ (fp_19 0 48).toInt ≤ 0 → sgI loM hiM fp_19 → sgK WkX12_begins_10_f0 f fp_19 → va_P D vwCl (sgw 26 h (eM ca h) fp_19 L Q) H → va_S (sgA 26 h s.heap.size) s.heap H locs → lv_has ls 2 [(0, .ref (h 0))] → W p l e ({ frames := 0, cells := 0, slots := 0, locals := 0 }) s m ([.ref (h 0), .int 10] : List Value).toArray below meth cd H locs 0 0 Qz (F0 m 19 ls []) := by
    intro fp_19 H locs ls hs hy0_19 hI hF hP hS hl
    obtain ⟨v_2, ev_2⟩ : ∃ z : Int32, z = fp_19 0 48 := ⟨_, rfl⟩
    have q_3 : 0 ≤ v_2.toInt ∧ v_2.toInt ≤ 19 := by rw [ev_2]; exact hI 0 48
    have q_4 : (fp_19 0 48).toInt = v_2.toInt := by rw [ev_2]
    refine lv_aload_n hx hb dX12_begins_19 rfl (lv_at hl 0 rfl) ?_
    refine lv_dup hx hb dX12_begins_20 rfl ?_
    refine sl_gM_0_48_12 (v := v_2) hx hb hts hown hK hP (show fp_19 0 48 = v_2 from ev_2.symm) dX12_begins_21 ?_
    refine lv_iconst (v := 1) hx hb dX12_begins_24 ic_1 ?_
    refine lv_iadd hx hb dX12_begins_25 ?_
    refine lv_topi (fun v_5 ev_5 => ?_)
    have q_6 : v_5.toInt = v_2.toInt + 1 := by rw [ev_5]; first | exact cm_add ti_1 (by omega) (by omega) | (have k1 : (1 : Int32).toInt = 1 := ti_1; exact (bn_addI (by omega) (by omega)).trans (by omega))
    refine sl_pM_0_48_12 (x := v_5) hx hb hts hown hh hA hK hP hS dX12_begins_26 (fun f_7 H locs ef_7 hP hS => ?_)
    have hI : sgI loM hiM f_7 := by rw [ef_7]; exact sgI.put hI 0 48 (show 0 ≤ (v_5 : Int32).toInt ∧ (v_5 : Int32).toInt ≤ 19 from ⟨by omega, by omega⟩)
    have hF : sgK WkX12_begins_10_f0 f f_7 := sgK.put hF ef_7 (by rfl)
    have q_8 : (f_7 0 48).toInt = v_5.toInt := (congrArg Int32.toInt (show f_7 0 48 = v_5 from (by rw [ef_7, sg_up_s, sgu_s])))
    exact hret _ _ _ _ f_7 L Q dX12_begins_29 hP hS ⟨⟨hI, hF, rfl, rfl⟩, ⟨by omega, by omega⟩, (Eq.trans (Eq.symm (hs.trans ((spl_e ev_2 (spl_e ev_5 (spl_e ef_7 rfl)))))) hsp)⟩
  refine lv_aload_n hx hb dX12_begins_0 rfl (lv_at hl 0 rfl) ?_
  refine sl_gM_0_48_12 (v := 0) hx hb hts hown hK hP (show f 0 48 = 0 from hf_0_48) dX12_begins_1 ?_
  refine lv_bipush (v := 24) hx hb dX12_begins_4 bp_24 ?_
  refine lv_icmp_ge (tgt := 19) hx hb dX12_begins_6 (by decide) (fun c => absurd c (by decide)) (fun c => ?_)
  refine lv_aload_n hx hb dX12_begins_9 rfl (lv_at hl 0 rfl) ?_
  refine sl_gM_0_47_12 hx hb hts hown hK hP dX12_begins_10 ?_
  refine lv_aload_n hx hb dX12_begins_13 rfl (lv_at hl 0 rfl) ?_
  refine sl_gM_0_48_12 (v := 0) hx hb hts hown hK hP (show f 0 48 = 0 from hf_0_48) dX12_begins_14 ?_
  refine lv_iload_n hx hb dX12_begins_17 rfl (lv_at hl 1 rfl) ?_
  refine sg_iast hx hb hh hA hK hP hS 21 (by decide) 0 (fun _ => rfl) rfl (i := 0) (x := 10) (vp_in_iff.mpr (by decide)) dX12_begins_18 (fun f_10 H locs ef_10 hP hS => ?_)
  have ef_10 : f_10 = sg_up f 21 (sgu (f 21) 0 10) := ef_10
  have hI : sgI loM hiM f_10 := by rw [ef_10]; exact sgI.put hI 21 0 (show 0 ≤ (10 : Int32).toInt ∧ (10 : Int32).toInt ≤ 81 from by decide)
  have hF : sgK WkX12_begins_10_f0 f f_10 := sgK.put hF ef_10 (by rfl)
  exact blk_19 f_10 _ _ _ (hs.trans ((spl_e ef_10 rfl))) (by have zz0_48 : (f_10 0 48).toInt = 0 := (congrArg Int32.toInt (show f_10 0 48 = 0 from (by rw [ef_10, sg_up_n (by decide)]; exact hf_0_48))).trans (by decide); exact ⟨by omega, by omega⟩) hI hF hP hS (lv_sub hl [0] rfl)

abbrev WkX12_setsAs_0_f1_f0 : List (Nat × Nat × Option Nat) := [(0, 0, some 48), (21, 21, some 1)]
set_option maxHeartbeats 4000000 in
set_option maxRecDepth 100000 in
theorem kX12_setsAs_0_f1_f0 (l : Launch) (D : va_G) (ca : Nat → ClassId) (za h : Nat → Nat) (hh : sgH 26 h) (f : sg_F) (L : sg_L) (Q : sg_Q) (hI : sgI loM hiM f) (x1 : Int32) (hf_0_48 : f 0 48 = 1) (hf_0_49 : f 0 49 = 0) (p0 : 1 ≤ (f 0 48).toInt ∧ (f 0 48).toInt ≤ 1) (sz : Nat) : Met l yX12_setsAs gwX12_setsAs { frames := 1, cells := 0, slots := 0, locals := 21 } (sgP D vwCl (tyX ca) 26 h (eM ca h) zcM za f L Q sz [.ref (h 0), .int 0, .int x1]) (sgQi D vwCl 26 h (eM ca h) sz (fun r f1 L1 Q1 => ((sgI loM hiM f1 ∧ sgK WkX12_setsAs_0_f1_f0 f f1 ∧ L1 = L ∧ Q1 = Q) ∧ True ∧ (2 ≤ (f1 0 48).toInt ∧ (f1 0 48).toInt ≤ 2) ∧ (r, f1) = sX12_setsAs_0_f1_f0 x1 f L))) 0 0 (sgA 26 h sz) := by
  refine sg_ofWi (cc := cX12_setsAs) (maxL := 3) RX12 (by decide) rfl rfl (Nat.le_of_ble_eq_true rfl) ?_
  intro p e s m below meth cd Qz ls hx hb hml hown hts hK hZ hP hS hl hret
  have hA := sgY.self (n := 26) (h := h) (sz := s.heap.size)
  have hl : lv_has ls 3 [(0, .ref (h 0)), (1, .int 0), (2, .int x1)] := hl
  obtain ⟨H, hH⟩ : ∃ z : Heap, z = s.heap := ⟨_, rfl⟩
  obtain ⟨locs, hlo⟩ : ∃ z : List Loc, z = [] := ⟨_, rfl⟩
  have hP : va_P D vwCl (sgw 26 h (eM ca h) f L Q) H := by rw [hH]; exact hP
  have hS : va_S (sgA 26 h s.heap.size) s.heap H locs := by rw [hH, hlo]; exact hS
  suffices hgo : W p l e ({ frames := 1, cells := 0, slots := 0, locals := 21 }) s m ([.ref (h 0), .int 0, .int x1] : List Value).toArray below meth cd H locs 0 0 Qz (F0 m 0 ls []) by rw [hH, hlo] at hgo; exact hgo
  clear hH hlo
  obtain ⟨sp, hsp⟩ : ∃ z : Int32 × sg_F, z = sX12_setsAs_0_f1_f0 x1 f L := ⟨_, rfl⟩
  have hs : sp = sX12_setsAs_0_f1_f0 x1 f L := hsp
  have o_1 : (f 0 48).toInt = 1 := (congrArg Int32.toInt (show f 0 48 = 1 from hf_0_48)).trans (by decide)
  have hF : sgK WkX12_setsAs_0_f1_f0 f f := sgK.rf
  refine lv_iload_n hx hb dX12_setsAs_0 rfl (lv_at hl 1 rfl) ?_
  refine lv_iconst (v := 1) hx hb dX12_setsAs_1 ic_1 ?_
  refine lv_icmp_eq (tgt := 16) hx hb dX12_setsAs_2 (by decide) (fun c => absurd c (by decide)) (fun c => ?_)
  refine lv_iload_n hx hb dX12_setsAs_5 rfl (lv_at hl 1 rfl) ?_
  refine lv_iconst (v := 4) hx hb dX12_setsAs_6 ic_4 ?_
  refine lv_icmp_eq (tgt := 16) hx hb dX12_setsAs_7 (by decide) (fun c => absurd c (by decide)) (fun c => ?_)
  refine lv_iload_n hx hb dX12_setsAs_10 rfl (lv_at hl 1 rfl) ?_
  refine lv_bipush (v := 7) hx hb dX12_setsAs_11 bp_7 ?_
  refine lv_icmp_ne (tgt := 31) hx hb dX12_setsAs_13 (by decide) (fun c => ?_) (fun c => absurd c (by decide))
  refine lv_iload_n hx hb dX12_setsAs_31 rfl (lv_at hl 1 rfl) ?_
  refine lv_bipush (v := 6) hx hb dX12_setsAs_32 bp_6 ?_
  refine lv_icmp_ne (tgt := 52) hx hb dX12_setsAs_34 (by decide) (fun c => ?_) (fun c => absurd c (by decide))
  refine lv_aload_n hx hb dX12_setsAs_52 rfl (lv_at hl 0 rfl) ?_
  refine lv_iconst (v := 1) hx hb dX12_setsAs_53 ic_1 ?_
  have q_2 : (f 0 48).toInt = 1 := (congrArg Int32.toInt (show f 0 48 = 1 from hf_0_48)).trans (by decide)
  refine sg_callv (va_runV (As := [.int 1]) (rest := []) ⟨hx, hb, hml, hown, hts⟩ (kX12_begins_1_f1 l D ca za h hh f L Q hI hf_0_48 (by have k0 : (1 : Int32).toInt = 1 := ti_1; omega) H.size) (sl_c12_begins_0_0_0_0_12 hts ⟨Nat.le_of_ble_eq_true rfl, Nat.le_of_ble_eq_true rfl⟩) (sl_vM_0 hA hK hP hS hZ) rfl rfl hl.1 rfl (lv_room (Nat.le_of_ble_eq_true rfl)) dX12_setsAs_54 ⟨Nat.le_refl _, Nat.le_refl _⟩) hA hS (fun f_4 L_5 Q_6 H locs hq hP hS => ?_)
  obtain ⟨⟨hI, hk_f_4, eL9, eQ9⟩, p_7, u_8⟩ := hq
  rw [eL9, eQ9] at hP; clear eL9 eQ9
  have hF : sgK WkX12_setsAs_0_f1_f0 f f_4 := sgK.tr hF hk_f_4 (by decide +kernel)
  obtain ⟨v_9, ev_9⟩ : ∃ z : Int32, z = f_4 0 48 := ⟨_, rfl⟩
  have q_10 : 0 ≤ v_9.toInt ∧ v_9.toInt ≤ 19 := by rw [ev_9]; exact hI 0 48
  have q_11 : (f_4 0 48).toInt = v_9.toInt := (congrArg Int32.toInt (show f_4 0 48 = v_9 from ev_9.symm))
  refine lv_iload_n hx hb dX12_setsAs_57 rfl (lv_at hl 2 rfl) ?_
  refine lv_aload_n hx hb dX12_setsAs_58 rfl (lv_at hl 0 rfl) ?_
  refine sl_gM_0_50_12 (v := (f_4 0 50)) hx hb hts hown hK hP rfl dX12_setsAs_59 ?_
  refine lv_topi (fun v_13 ev_13 => ?_)
  have q_14 : 0 ≤ v_13.toInt ∧ v_13.toInt ≤ 49 := by rw [ev_13]; exact hI 0 50
  refine lv_iadd hx hb dX12_setsAs_62 ?_
  refine lv_topi (fun v_15 ev_15 => ?_)
  exact hret _ _ _ _ (v_15) f_4 L Q dX12_setsAs_63 hP hS ⟨⟨hI, hF, rfl, rfl⟩, trivial, ⟨by omega, by omega⟩, (Eq.trans (Eq.symm (hs.trans ((spl_e u_8 (spl_e ev_9 (spl_e ev_13 (spl_e ev_15 rfl))))))) hsp)⟩

abbrev WkX12_sitsAs_0_f0_f0 : List (Nat × Nat × Option Nat) := [(0, 0, some 48), (21, 21, some 0), (21, 21, some 1)]
set_option maxHeartbeats 4000000 in
set_option maxRecDepth 100000 in
theorem kX12_sitsAs_0_f0_f0 (l : Launch) (D : va_G) (ca : Nat → ClassId) (za h : Nat → Nat) (hh : sgH 26 h) (f : sg_F) (L : sg_L) (Q : sg_Q) (hI : sgI loM hiM f) (x1 : Int32) (hf_0_48 : f 0 48 = 0) (hf_0_49 : f 0 49 = 0) (p0 : 0 ≤ (f 0 48).toInt ∧ (f 0 48).toInt ≤ 0) (sz : Nat) : Met l yX12_sitsAs gwX12_sitsAs { frames := 2, cells := 0, slots := 0, locals := 43 } (sgP D vwCl (tyX ca) 26 h (eM ca h) zcM za f L Q sz [.ref (h 0), .int 0, .int x1]) (sgQi D vwCl 26 h (eM ca h) sz (fun r f1 L1 Q1 => ((sgI loM hiM f1 ∧ sgK WkX12_sitsAs_0_f0_f0 f f1 ∧ L1 = L ∧ Q1 = Q) ∧ True ∧ (2 ≤ (f1 0 48).toInt ∧ (f1 0 48).toInt ≤ 2) ∧ (r, f1) = sX12_sitsAs_0_f0_f0 x1 f L))) 0 0 (sgA 26 h sz) := by
  refine sg_ofWi (cc := cX12_sitsAs) (maxL := 4) RX12 (by decide) rfl rfl (Nat.le_of_ble_eq_true rfl) ?_
  intro p e s m below meth cd Qz ls hx hb hml hown hts hK hZ hP hS hl hret
  have hA := sgY.self (n := 26) (h := h) (sz := s.heap.size)
  have hl : lv_has ls 4 [(0, .ref (h 0)), (1, .int 0), (2, .int x1)] := hl
  obtain ⟨H, hH⟩ : ∃ z : Heap, z = s.heap := ⟨_, rfl⟩
  obtain ⟨locs, hlo⟩ : ∃ z : List Loc, z = [] := ⟨_, rfl⟩
  have hP : va_P D vwCl (sgw 26 h (eM ca h) f L Q) H := by rw [hH]; exact hP
  have hS : va_S (sgA 26 h s.heap.size) s.heap H locs := by rw [hH, hlo]; exact hS
  suffices hgo : W p l e ({ frames := 2, cells := 0, slots := 0, locals := 43 }) s m ([.ref (h 0), .int 0, .int x1] : List Value).toArray below meth cd H locs 0 0 Qz (F0 m 0 ls []) by rw [hH, hlo] at hgo; exact hgo
  clear hH hlo
  obtain ⟨sp, hsp⟩ : ∃ z : Int32 × sg_F, z = sX12_sitsAs_0_f0_f0 x1 f L := ⟨_, rfl⟩
  have hs : sp = sX12_sitsAs_0_f0_f0 x1 f L := hsp
  have o_1 : (f 0 48).toInt = 0 := (congrArg Int32.toInt (show f 0 48 = 0 from hf_0_48)).trans (by decide)
  have hF : sgK WkX12_sitsAs_0_f0_f0 f f := sgK.rf
  refine lv_iload_n hx hb dX12_sitsAs_0 rfl (lv_at hl 1 rfl) ?_
  refine lv_iconst (v := 3) hx hb dX12_sitsAs_1 ic_3 ?_
  refine lv_icmp_eq (tgt := 10) hx hb dX12_sitsAs_2 (by decide) (fun c => absurd c (by decide)) (fun c => ?_)
  refine lv_iload_n hx hb dX12_sitsAs_5 rfl (lv_at hl 1 rfl) ?_
  refine lv_iconst (v := 5) hx hb dX12_sitsAs_6 ic_5 ?_
  refine lv_icmp_ne (tgt := 25) hx hb dX12_sitsAs_7 (by decide) (fun c => ?_) (fun c => absurd c (by decide))
  refine lv_iload_n hx hb dX12_sitsAs_25 rfl (lv_at hl 1 rfl) ?_
  refine lv_iconst (v := 2) hx hb dX12_sitsAs_26 ic_2 ?_
  refine lv_icmp_ne (tgt := 44) hx hb dX12_sitsAs_27 (by decide) (fun c => ?_) (fun c => absurd c (by decide))
  refine lv_iload_n hx hb dX12_sitsAs_44 rfl (lv_at hl 1 rfl) ?_
  refine lv_bipush (v := 7) hx hb dX12_sitsAs_45 bp_7 ?_
  refine lv_icmp_ne (tgt := 75) hx hb dX12_sitsAs_47 (by decide) (fun c => ?_) (fun c => absurd c (by decide))
  refine lv_aload_n hx hb dX12_sitsAs_75 rfl (lv_at hl 0 rfl) ?_
  refine lv_bipush (v := 10) hx hb dX12_sitsAs_76 bp_10 ?_
  have q_2 : (f 0 48).toInt = 0 := (congrArg Int32.toInt (show f 0 48 = 0 from hf_0_48)).trans (by decide)
  refine sg_callv (va_runV (As := [.int 10]) (rest := []) ⟨hx, hb, hml, hown, hts⟩ (kX12_begins_10_f0 l D ca za h hh f L Q hI hf_0_48 (by have k0 : (10 : Int32).toInt = 10 := ti_10; omega) H.size) (sl_c12_begins_0_0_0_0_12 hts ⟨Nat.le_of_ble_eq_true rfl, Nat.le_of_ble_eq_true rfl⟩) (sl_vM_0 hA hK hP hS hZ) rfl rfl hl.1 rfl (lv_room (Nat.le_of_ble_eq_true rfl)) dX12_sitsAs_78 ⟨Nat.le_refl _, Nat.le_refl _⟩) hA hS (fun f_4 L_5 Q_6 H locs hq hP hS => ?_)
  obtain ⟨⟨hI, hk_f_4, eL9, eQ9⟩, p_7, u_8⟩ := hq
  rw [eL9, eQ9] at hP; clear eL9 eQ9
  have hF : sgK WkX12_sitsAs_0_f0_f0 f f_4 := sgK.tr hF hk_f_4 (by decide +kernel)
  obtain ⟨v_9, ev_9⟩ : ∃ z : Int32, z = f_4 0 48 := ⟨_, rfl⟩
  have q_10 : 0 ≤ v_9.toInt ∧ v_9.toInt ≤ 19 := by rw [ev_9]; exact hI 0 48
  have q_11 : (f_4 0 48).toInt = v_9.toInt := (congrArg Int32.toInt (show f_4 0 48 = v_9 from ev_9.symm))
  refine lv_aload_n hx hb dX12_sitsAs_81 rfl (lv_at hl 0 rfl) ?_
  refine lv_aload_n hx hb dX12_sitsAs_82 rfl (lv_at hl 0 rfl) ?_
  refine sl_gM_0_49_12 (v := 0) hx hb hts hown hK hP (show f_4 0 49 = 0 from ((hk_f_4 0 49 (by decide)).trans hf_0_49)) dX12_sitsAs_83 ?_
  refine lv_iload_n hx hb dX12_sitsAs_86 rfl (lv_at hl 2 rfl) ?_
  have c_13 : v_9 = 1 := Int32.toInt_inj.mp (by have k9 : (1 : Int32).toInt = 1 := ti_1; omega)
  have q_14 : (f_4 0 48).toInt = 1 := (congrArg Int32.toInt (show f_4 0 48 = 1 from (Eq.trans ev_9.symm c_13))).trans (by decide)
  refine sg_calli (va_runV (As := [.int 0, .int x1]) (rest := []) ⟨hx, hb, hml, hown, hts⟩ (kX12_setsAs_0_f1_f0 l D ca za h hh f_4 L Q hI x1 (Eq.trans ev_9.symm c_13) ((hk_f_4 0 49 (by decide)).trans hf_0_49) (by have k0 : (0 : Int32).toInt = 0 := ti_0; omega) H.size) (sl_c12_setsAs_1_0_0_21_12 hts ⟨Nat.le_of_ble_eq_true rfl, Nat.le_of_ble_eq_true rfl⟩) (sl_vM_0 hA hK hP hS hZ) rfl rfl hl.1 rfl (lv_room (Nat.le_of_ble_eq_true rfl)) dX12_sitsAs_87 ⟨Nat.le_refl _, Nat.le_refl _⟩) hA hS (fun r_19 f_16 L_17 Q_18 H locs hq hP hS => ?_)
  obtain ⟨⟨hI, hk_f_16, eL9, eQ9⟩, hq, p_20, u_21⟩ := hq
  rw [eL9, eQ9] at hP; clear eL9 eQ9
  have hF : sgK WkX12_sitsAs_0_f0_f0 f f_16 := sgK.tr hF hk_f_16 (by decide +kernel)
  obtain ⟨v_22, ev_22⟩ : ∃ z : Int32, z = f_16 0 48 := ⟨_, rfl⟩
  have q_23 : 0 ≤ v_22.toInt ∧ v_22.toInt ≤ 19 := by rw [ev_22]; exact hI 0 48
  have q_24 : (f_16 0 48).toInt = v_22.toInt := (congrArg Int32.toInt (show f_16 0 48 = v_22 from ev_22.symm))
  have k_26 : (0 : Int32).toInt = 0 := by decide
  refine lv_iconst (v := 2) hx hb dX12_sitsAs_90 ic_2 ?_
  refine lv_imul hx hb dX12_sitsAs_91 ?_
  refine lv_topi (fun v_27 ev_27 => ?_)
  exact hret _ _ _ _ (v_27) f_16 L Q dX12_sitsAs_92 hP hS ⟨⟨hI, hF, rfl, rfl⟩, trivial, ⟨by omega, by omega⟩, (Eq.trans (Eq.symm (hs.trans ((spl_e u_8 (spl_e ev_9 (spl2_e u_21 (spl_e ev_22 (spl_e ev_27 rfl)))))))) hsp)⟩

abbrev WkX12_begins_20_f1 : List (Nat × Nat × Option Nat) := [(0, 0, some 48), (21, 21, some 1)]
set_option maxHeartbeats 4000000 in
set_option maxRecDepth 100000 in
theorem kX12_begins_20_f1 (l : Launch) (D : va_G) (ca : Nat → ClassId) (za h : Nat → Nat) (hh : sgH 26 h) (f : sg_F) (L : sg_L) (Q : sg_Q) (hI : sgI loM hiM f) (hf_0_48 : f 0 48 = 1) (p0 : 1 ≤ (f 0 48).toInt ∧ (f 0 48).toInt ≤ 1) (sz : Nat) : Met l yX12_begins gwX12_begins { frames := 0, cells := 0, slots := 0, locals := 0 } (sgP D vwCl (tyX ca) 26 h (eM ca h) zcM za f L Q sz [.ref (h 0), .int 20]) (sgQv D vwCl 26 h (eM ca h) sz (fun f1 L1 Q1 => ((sgI loM hiM f1 ∧ sgK WkX12_begins_20_f1 f f1 ∧ L1 = L ∧ Q1 = Q) ∧ (2 ≤ (f1 0 48).toInt ∧ (f1 0 48).toInt ≤ 2) ∧ (f1) = sX12_begins_20_f1 f L))) 0 0 (sgA 26 h sz) := by
  refine sg_ofWv (cc := cX12_begins) (maxL := 2) RX12 (by decide) rfl rfl (Nat.le_of_ble_eq_true rfl) ?_
  intro p e s m below meth cd Qz ls hx hb hml hown hts hK hZ hP hS hl hret
  have hA := sgY.self (n := 26) (h := h) (sz := s.heap.size)
  have hl : lv_has ls 2 [(0, .ref (h 0)), (1, .int 20)] := hl
  obtain ⟨H, hH⟩ : ∃ z : Heap, z = s.heap := ⟨_, rfl⟩
  obtain ⟨locs, hlo⟩ : ∃ z : List Loc, z = [] := ⟨_, rfl⟩
  have hP : va_P D vwCl (sgw 26 h (eM ca h) f L Q) H := by rw [hH]; exact hP
  have hS : va_S (sgA 26 h s.heap.size) s.heap H locs := by rw [hH, hlo]; exact hS
  suffices hgo : W p l e ({ frames := 0, cells := 0, slots := 0, locals := 0 }) s m ([.ref (h 0), .int 20] : List Value).toArray below meth cd H locs 0 0 Qz (F0 m 0 ls []) by rw [hH, hlo] at hgo; exact hgo
  clear hH hlo
  obtain ⟨sp, hsp⟩ : ∃ z : sg_F, z = sX12_begins_20_f1 f L := ⟨_, rfl⟩
  have hs : sp = sX12_begins_20_f1 f L := hsp
  have o_1 : (f 0 48).toInt = 1 := (congrArg Int32.toInt (show f 0 48 = 1 from hf_0_48)).trans (by decide)
  have hF : sgK WkX12_begins_20_f1 f f := sgK.rf
  have blk_19 : ∀ (fp_19 : sg_F) (H : Heap) (locs : List Loc) (ls : Array Slot), sp = sX12_begins_20_f1_b19 fp_19 L → 1 ≤ (fp_19 0 48).toInt ∧ (fp_19 0 48).toInt ≤ 1 → sgI loM hiM fp_19 → sgK WkX12_begins_20_f1 f fp_19 → va_P D vwCl (sgw 26 h (eM ca h) fp_19 L Q) H → va_S (sgA 26 h s.heap.size) s.heap H locs → lv_has ls 2 [(0, .ref (h 0))] → W p l e ({ frames := 0, cells := 0, slots := 0, locals := 0 }) s m ([.ref (h 0), .int 20] : List Value).toArray below meth cd H locs 0 0 Qz (F0 m 19 ls []) := by
    intro fp_19 H locs ls hs hy0_19 hI hF hP hS hl
    obtain ⟨v_2, ev_2⟩ : ∃ z : Int32, z = fp_19 0 48 := ⟨_, rfl⟩
    have q_3 : 0 ≤ v_2.toInt ∧ v_2.toInt ≤ 19 := by rw [ev_2]; exact hI 0 48
    have q_4 : (fp_19 0 48).toInt = v_2.toInt := by rw [ev_2]
    refine lv_aload_n hx hb dX12_begins_19 rfl (lv_at hl 0 rfl) ?_
    refine lv_dup hx hb dX12_begins_20 rfl ?_
    refine sl_gM_0_48_12 (v := v_2) hx hb hts hown hK hP (show fp_19 0 48 = v_2 from ev_2.symm) dX12_begins_21 ?_
    refine lv_iconst (v := 1) hx hb dX12_begins_24 ic_1 ?_
    refine lv_iadd hx hb dX12_begins_25 ?_
    refine lv_topi (fun v_5 ev_5 => ?_)
    have q_6 : v_5.toInt = v_2.toInt + 1 := by rw [ev_5]; first | exact cm_add ti_1 (by omega) (by omega) | (have k1 : (1 : Int32).toInt = 1 := ti_1; exact (bn_addI (by omega) (by omega)).trans (by omega))
    refine sl_pM_0_48_12 (x := v_5) hx hb hts hown hh hA hK hP hS dX12_begins_26 (fun f_7 H locs ef_7 hP hS => ?_)
    have hI : sgI loM hiM f_7 := by rw [ef_7]; exact sgI.put hI 0 48 (show 0 ≤ (v_5 : Int32).toInt ∧ (v_5 : Int32).toInt ≤ 19 from ⟨by omega, by omega⟩)
    have hF : sgK WkX12_begins_20_f1 f f_7 := sgK.put hF ef_7 (by rfl)
    have q_8 : (f_7 0 48).toInt = v_5.toInt := (congrArg Int32.toInt (show f_7 0 48 = v_5 from (by rw [ef_7, sg_up_s, sgu_s])))
    exact hret _ _ _ _ f_7 L Q dX12_begins_29 hP hS ⟨⟨hI, hF, rfl, rfl⟩, ⟨by omega, by omega⟩, (Eq.trans (Eq.symm (hs.trans ((spl_e ev_2 (spl_e ev_5 (spl_e ef_7 rfl)))))) hsp)⟩
  refine lv_aload_n hx hb dX12_begins_0 rfl (lv_at hl 0 rfl) ?_
  refine sl_gM_0_48_12 (v := 1) hx hb hts hown hK hP (show f 0 48 = 1 from hf_0_48) dX12_begins_1 ?_
  refine lv_bipush (v := 24) hx hb dX12_begins_4 bp_24 ?_
  refine lv_icmp_ge (tgt := 19) hx hb dX12_begins_6 (by decide) (fun c => absurd c (by decide)) (fun c => ?_)
  refine lv_aload_n hx hb dX12_begins_9 rfl (lv_at hl 0 rfl) ?_
  refine sl_gM_0_47_12 hx hb hts hown hK hP dX12_begins_10 ?_
  refine lv_aload_n hx hb dX12_begins_13 rfl (lv_at hl 0 rfl) ?_
  refine sl_gM_0_48_12 (v := 1) hx hb hts hown hK hP (show f 0 48 = 1 from hf_0_48) dX12_begins_14 ?_
  refine lv_iload_n hx hb dX12_begins_17 rfl (lv_at hl 1 rfl) ?_
  refine sg_iast hx hb hh hA hK hP hS 21 (by decide) 0 (fun _ => rfl) rfl (i := 1) (x := 20) (vp_in_iff.mpr (by decide)) dX12_begins_18 (fun f_10 H locs ef_10 hP hS => ?_)
  have ef_10 : f_10 = sg_up f 21 (sgu (f 21) 1 20) := ef_10
  have hI : sgI loM hiM f_10 := by rw [ef_10]; exact sgI.put hI 21 1 (show 0 ≤ (20 : Int32).toInt ∧ (20 : Int32).toInt ≤ 81 from by decide)
  have hF : sgK WkX12_begins_20_f1 f f_10 := sgK.put hF ef_10 (by rfl)
  exact blk_19 f_10 _ _ _ (hs.trans ((spl_e ef_10 rfl))) (by have zz0_48 : (f_10 0 48).toInt = 1 := (congrArg Int32.toInt (show f_10 0 48 = 1 from (by rw [ef_10, sg_up_n (by decide)]; exact hf_0_48))).trans (by decide); exact ⟨by omega, by omega⟩) hI hF hP hS (lv_sub hl [0] rfl)

abbrev WkX12_begins_1_f2 : List (Nat × Nat × Option Nat) := [(0, 0, some 48), (21, 21, some 2)]
set_option maxHeartbeats 4000000 in
set_option maxRecDepth 100000 in
theorem kX12_begins_1_f2 (l : Launch) (D : va_G) (ca : Nat → ClassId) (za h : Nat → Nat) (hh : sgH 26 h) (f : sg_F) (L : sg_L) (Q : sg_Q) (hI : sgI loM hiM f) (hf_0_48 : f 0 48 = 2) (p0 : 2 ≤ (f 0 48).toInt ∧ (f 0 48).toInt ≤ 2) (sz : Nat) : Met l yX12_begins gwX12_begins { frames := 0, cells := 0, slots := 0, locals := 0 } (sgP D vwCl (tyX ca) 26 h (eM ca h) zcM za f L Q sz [.ref (h 0), .int 1]) (sgQv D vwCl 26 h (eM ca h) sz (fun f1 L1 Q1 => ((sgI loM hiM f1 ∧ sgK WkX12_begins_1_f2 f f1 ∧ L1 = L ∧ Q1 = Q) ∧ (3 ≤ (f1 0 48).toInt ∧ (f1 0 48).toInt ≤ 3) ∧ (f1) = sX12_begins_1_f2 f L))) 0 0 (sgA 26 h sz) := by
  refine sg_ofWv (cc := cX12_begins) (maxL := 2) RX12 (by decide) rfl rfl (Nat.le_of_ble_eq_true rfl) ?_
  intro p e s m below meth cd Qz ls hx hb hml hown hts hK hZ hP hS hl hret
  have hA := sgY.self (n := 26) (h := h) (sz := s.heap.size)
  have hl : lv_has ls 2 [(0, .ref (h 0)), (1, .int 1)] := hl
  obtain ⟨H, hH⟩ : ∃ z : Heap, z = s.heap := ⟨_, rfl⟩
  obtain ⟨locs, hlo⟩ : ∃ z : List Loc, z = [] := ⟨_, rfl⟩
  have hP : va_P D vwCl (sgw 26 h (eM ca h) f L Q) H := by rw [hH]; exact hP
  have hS : va_S (sgA 26 h s.heap.size) s.heap H locs := by rw [hH, hlo]; exact hS
  suffices hgo : W p l e ({ frames := 0, cells := 0, slots := 0, locals := 0 }) s m ([.ref (h 0), .int 1] : List Value).toArray below meth cd H locs 0 0 Qz (F0 m 0 ls []) by rw [hH, hlo] at hgo; exact hgo
  clear hH hlo
  obtain ⟨sp, hsp⟩ : ∃ z : sg_F, z = sX12_begins_1_f2 f L := ⟨_, rfl⟩
  have hs : sp = sX12_begins_1_f2 f L := hsp
  have o_1 : (f 0 48).toInt = 2 := (congrArg Int32.toInt (show f 0 48 = 2 from hf_0_48)).trans (by decide)
  have hF : sgK WkX12_begins_1_f2 f f := sgK.rf
  have blk_19 : ∀ (fp_19 : sg_F) (H : Heap) (locs : List Loc) (ls : Array Slot), sp = sX12_begins_1_f2_b19 fp_19 L → 2 ≤ (fp_19 0 48).toInt ∧ (fp_19 0 48).toInt ≤ 2 → sgI loM hiM fp_19 → sgK WkX12_begins_1_f2 f fp_19 → va_P D vwCl (sgw 26 h (eM ca h) fp_19 L Q) H → va_S (sgA 26 h s.heap.size) s.heap H locs → lv_has ls 2 [(0, .ref (h 0))] → W p l e ({ frames := 0, cells := 0, slots := 0, locals := 0 }) s m ([.ref (h 0), .int 1] : List Value).toArray below meth cd H locs 0 0 Qz (F0 m 19 ls []) := by
    intro fp_19 H locs ls hs hy0_19 hI hF hP hS hl
    obtain ⟨v_2, ev_2⟩ : ∃ z : Int32, z = fp_19 0 48 := ⟨_, rfl⟩
    have q_3 : 0 ≤ v_2.toInt ∧ v_2.toInt ≤ 19 := by rw [ev_2]; exact hI 0 48
    have q_4 : (fp_19 0 48).toInt = v_2.toInt := by rw [ev_2]
    refine lv_aload_n hx hb dX12_begins_19 rfl (lv_at hl 0 rfl) ?_
    refine lv_dup hx hb dX12_begins_20 rfl ?_
    refine sl_gM_0_48_12 (v := v_2) hx hb hts hown hK hP (show fp_19 0 48 = v_2 from ev_2.symm) dX12_begins_21 ?_
    refine lv_iconst (v := 1) hx hb dX12_begins_24 ic_1 ?_
    refine lv_iadd hx hb dX12_begins_25 ?_
    refine lv_topi (fun v_5 ev_5 => ?_)
    have q_6 : v_5.toInt = v_2.toInt + 1 := by rw [ev_5]; first | exact cm_add ti_1 (by omega) (by omega) | (have k1 : (1 : Int32).toInt = 1 := ti_1; exact (bn_addI (by omega) (by omega)).trans (by omega))
    refine sl_pM_0_48_12 (x := v_5) hx hb hts hown hh hA hK hP hS dX12_begins_26 (fun f_7 H locs ef_7 hP hS => ?_)
    have hI : sgI loM hiM f_7 := by rw [ef_7]; exact sgI.put hI 0 48 (show 0 ≤ (v_5 : Int32).toInt ∧ (v_5 : Int32).toInt ≤ 19 from ⟨by omega, by omega⟩)
    have hF : sgK WkX12_begins_1_f2 f f_7 := sgK.put hF ef_7 (by rfl)
    have q_8 : (f_7 0 48).toInt = v_5.toInt := (congrArg Int32.toInt (show f_7 0 48 = v_5 from (by rw [ef_7, sg_up_s, sgu_s])))
    exact hret _ _ _ _ f_7 L Q dX12_begins_29 hP hS ⟨⟨hI, hF, rfl, rfl⟩, ⟨by omega, by omega⟩, (Eq.trans (Eq.symm (hs.trans ((spl_e ev_2 (spl_e ev_5 (spl_e ef_7 rfl)))))) hsp)⟩
  refine lv_aload_n hx hb dX12_begins_0 rfl (lv_at hl 0 rfl) ?_
  refine sl_gM_0_48_12 (v := 2) hx hb hts hown hK hP (show f 0 48 = 2 from hf_0_48) dX12_begins_1 ?_
  refine lv_bipush (v := 24) hx hb dX12_begins_4 bp_24 ?_
  refine lv_icmp_ge (tgt := 19) hx hb dX12_begins_6 (by decide) (fun c => absurd c (by decide)) (fun c => ?_)
  refine lv_aload_n hx hb dX12_begins_9 rfl (lv_at hl 0 rfl) ?_
  refine sl_gM_0_47_12 hx hb hts hown hK hP dX12_begins_10 ?_
  refine lv_aload_n hx hb dX12_begins_13 rfl (lv_at hl 0 rfl) ?_
  refine sl_gM_0_48_12 (v := 2) hx hb hts hown hK hP (show f 0 48 = 2 from hf_0_48) dX12_begins_14 ?_
  refine lv_iload_n hx hb dX12_begins_17 rfl (lv_at hl 1 rfl) ?_
  refine sg_iast hx hb hh hA hK hP hS 21 (by decide) 0 (fun _ => rfl) rfl (i := 2) (x := 1) (vp_in_iff.mpr (by decide)) dX12_begins_18 (fun f_10 H locs ef_10 hP hS => ?_)
  have ef_10 : f_10 = sg_up f 21 (sgu (f 21) 2 1) := ef_10
  have hI : sgI loM hiM f_10 := by rw [ef_10]; exact sgI.put hI 21 2 (show 0 ≤ (1 : Int32).toInt ∧ (1 : Int32).toInt ≤ 81 from by decide)
  have hF : sgK WkX12_begins_1_f2 f f_10 := sgK.put hF ef_10 (by rfl)
  exact blk_19 f_10 _ _ _ (hs.trans ((spl_e ef_10 rfl))) (by have zz0_48 : (f_10 0 48).toInt = 2 := (congrArg Int32.toInt (show f_10 0 48 = 2 from (by rw [ef_10, sg_up_n (by decide)]; exact hf_0_48))).trans (by decide); exact ⟨by omega, by omega⟩) hI hF hP hS (lv_sub hl [0] rfl)

abbrev WkX12_setsAs_0_f2_f1 : List (Nat × Nat × Option Nat) := [(0, 0, some 48), (21, 21, some 2)]
set_option maxHeartbeats 4000000 in
set_option maxRecDepth 100000 in
theorem kX12_setsAs_0_f2_f1 (l : Launch) (D : va_G) (ca : Nat → ClassId) (za h : Nat → Nat) (hh : sgH 26 h) (f : sg_F) (L : sg_L) (Q : sg_Q) (hI : sgI loM hiM f) (x1 : Int32) (hf_0_48 : f 0 48 = 2) (hf_0_49 : f 0 49 = 1) (p0 : 2 ≤ (f 0 48).toInt ∧ (f 0 48).toInt ≤ 2) (sz : Nat) : Met l yX12_setsAs gwX12_setsAs { frames := 1, cells := 0, slots := 0, locals := 21 } (sgP D vwCl (tyX ca) 26 h (eM ca h) zcM za f L Q sz [.ref (h 0), .int 0, .int x1]) (sgQi D vwCl 26 h (eM ca h) sz (fun r f1 L1 Q1 => ((sgI loM hiM f1 ∧ sgK WkX12_setsAs_0_f2_f1 f f1 ∧ L1 = L ∧ Q1 = Q) ∧ True ∧ (3 ≤ (f1 0 48).toInt ∧ (f1 0 48).toInt ≤ 3) ∧ (r, f1) = sX12_setsAs_0_f2_f1 x1 f L))) 0 0 (sgA 26 h sz) := by
  refine sg_ofWi (cc := cX12_setsAs) (maxL := 3) RX12 (by decide) rfl rfl (Nat.le_of_ble_eq_true rfl) ?_
  intro p e s m below meth cd Qz ls hx hb hml hown hts hK hZ hP hS hl hret
  have hA := sgY.self (n := 26) (h := h) (sz := s.heap.size)
  have hl : lv_has ls 3 [(0, .ref (h 0)), (1, .int 0), (2, .int x1)] := hl
  obtain ⟨H, hH⟩ : ∃ z : Heap, z = s.heap := ⟨_, rfl⟩
  obtain ⟨locs, hlo⟩ : ∃ z : List Loc, z = [] := ⟨_, rfl⟩
  have hP : va_P D vwCl (sgw 26 h (eM ca h) f L Q) H := by rw [hH]; exact hP
  have hS : va_S (sgA 26 h s.heap.size) s.heap H locs := by rw [hH, hlo]; exact hS
  suffices hgo : W p l e ({ frames := 1, cells := 0, slots := 0, locals := 21 }) s m ([.ref (h 0), .int 0, .int x1] : List Value).toArray below meth cd H locs 0 0 Qz (F0 m 0 ls []) by rw [hH, hlo] at hgo; exact hgo
  clear hH hlo
  obtain ⟨sp, hsp⟩ : ∃ z : Int32 × sg_F, z = sX12_setsAs_0_f2_f1 x1 f L := ⟨_, rfl⟩
  have hs : sp = sX12_setsAs_0_f2_f1 x1 f L := hsp
  have o_1 : (f 0 48).toInt = 2 := (congrArg Int32.toInt (show f 0 48 = 2 from hf_0_48)).trans (by decide)
  have hF : sgK WkX12_setsAs_0_f2_f1 f f := sgK.rf
  refine lv_iload_n hx hb dX12_setsAs_0 rfl (lv_at hl 1 rfl) ?_
  refine lv_iconst (v := 1) hx hb dX12_setsAs_1 ic_1 ?_
  refine lv_icmp_eq (tgt := 16) hx hb dX12_setsAs_2 (by decide) (fun c => absurd c (by decide)) (fun c => ?_)
  refine lv_iload_n hx hb dX12_setsAs_5 rfl (lv_at hl 1 rfl) ?_
  refine lv_iconst (v := 4) hx hb dX12_setsAs_6 ic_4 ?_
  refine lv_icmp_eq (tgt := 16) hx hb dX12_setsAs_7 (by decide) (fun c => absurd c (by decide)) (fun c => ?_)
  refine lv_iload_n hx hb dX12_setsAs_10 rfl (lv_at hl 1 rfl) ?_
  refine lv_bipush (v := 7) hx hb dX12_setsAs_11 bp_7 ?_
  refine lv_icmp_ne (tgt := 31) hx hb dX12_setsAs_13 (by decide) (fun c => ?_) (fun c => absurd c (by decide))
  refine lv_iload_n hx hb dX12_setsAs_31 rfl (lv_at hl 1 rfl) ?_
  refine lv_bipush (v := 6) hx hb dX12_setsAs_32 bp_6 ?_
  refine lv_icmp_ne (tgt := 52) hx hb dX12_setsAs_34 (by decide) (fun c => ?_) (fun c => absurd c (by decide))
  refine lv_aload_n hx hb dX12_setsAs_52 rfl (lv_at hl 0 rfl) ?_
  refine lv_iconst (v := 1) hx hb dX12_setsAs_53 ic_1 ?_
  have q_2 : (f 0 48).toInt = 2 := (congrArg Int32.toInt (show f 0 48 = 2 from hf_0_48)).trans (by decide)
  refine sg_callv (va_runV (As := [.int 1]) (rest := []) ⟨hx, hb, hml, hown, hts⟩ (kX12_begins_1_f2 l D ca za h hh f L Q hI hf_0_48 (by have k0 : (1 : Int32).toInt = 1 := ti_1; omega) H.size) (sl_c12_begins_0_0_0_0_12 hts ⟨Nat.le_of_ble_eq_true rfl, Nat.le_of_ble_eq_true rfl⟩) (sl_vM_0 hA hK hP hS hZ) rfl rfl hl.1 rfl (lv_room (Nat.le_of_ble_eq_true rfl)) dX12_setsAs_54 ⟨Nat.le_refl _, Nat.le_refl _⟩) hA hS (fun f_4 L_5 Q_6 H locs hq hP hS => ?_)
  obtain ⟨⟨hI, hk_f_4, eL9, eQ9⟩, p_7, u_8⟩ := hq
  rw [eL9, eQ9] at hP; clear eL9 eQ9
  have hF : sgK WkX12_setsAs_0_f2_f1 f f_4 := sgK.tr hF hk_f_4 (by decide +kernel)
  obtain ⟨v_9, ev_9⟩ : ∃ z : Int32, z = f_4 0 48 := ⟨_, rfl⟩
  have q_10 : 0 ≤ v_9.toInt ∧ v_9.toInt ≤ 19 := by rw [ev_9]; exact hI 0 48
  have q_11 : (f_4 0 48).toInt = v_9.toInt := (congrArg Int32.toInt (show f_4 0 48 = v_9 from ev_9.symm))
  refine lv_iload_n hx hb dX12_setsAs_57 rfl (lv_at hl 2 rfl) ?_
  refine lv_aload_n hx hb dX12_setsAs_58 rfl (lv_at hl 0 rfl) ?_
  refine sl_gM_0_50_12 (v := (f_4 0 50)) hx hb hts hown hK hP rfl dX12_setsAs_59 ?_
  refine lv_topi (fun v_13 ev_13 => ?_)
  have q_14 : 0 ≤ v_13.toInt ∧ v_13.toInt ≤ 49 := by rw [ev_13]; exact hI 0 50
  refine lv_iadd hx hb dX12_setsAs_62 ?_
  refine lv_topi (fun v_15 ev_15 => ?_)
  exact hret _ _ _ _ (v_15) f_4 L Q dX12_setsAs_63 hP hS ⟨⟨hI, hF, rfl, rfl⟩, trivial, ⟨by omega, by omega⟩, (Eq.trans (Eq.symm (hs.trans ((spl_e u_8 (spl_e ev_9 (spl_e ev_13 (spl_e ev_15 rfl))))))) hsp)⟩

abbrev WkX12_setsAs_1_f1_f1 : List (Nat × Nat × Option Nat) := [(0, 0, some 48), (21, 21, some 1), (21, 21, some 2)]
set_option maxHeartbeats 4000000 in
set_option maxRecDepth 100000 in
theorem kX12_setsAs_1_f1_f1 (l : Launch) (D : va_G) (ca : Nat → ClassId) (za h : Nat → Nat) (hh : sgH 26 h) (f : sg_F) (L : sg_L) (Q : sg_Q) (hI : sgI loM hiM f) (x1 : Int32) (hf_0_48 : f 0 48 = 1) (hf_0_49 : f 0 49 = 1) (p0 : 1 ≤ (f 0 48).toInt ∧ (f 0 48).toInt ≤ 1) (sz : Nat) : Met l yX12_setsAs gwX12_setsAs { frames := 2, cells := 0, slots := 0, locals := 43 } (sgP D vwCl (tyX ca) 26 h (eM ca h) zcM za f L Q sz [.ref (h 0), .int 1, .int x1]) (sgQi D vwCl 26 h (eM ca h) sz (fun r f1 L1 Q1 => ((sgI loM hiM f1 ∧ sgK WkX12_setsAs_1_f1_f1 f f1 ∧ L1 = L ∧ Q1 = Q) ∧ True ∧ (3 ≤ (f1 0 48).toInt ∧ (f1 0 48).toInt ≤ 3) ∧ (r, f1) = sX12_setsAs_1_f1_f1 x1 f L))) 0 0 (sgA 26 h sz) := by
  refine sg_ofWi (cc := cX12_setsAs) (maxL := 3) RX12 (by decide) rfl rfl (Nat.le_of_ble_eq_true rfl) ?_
  intro p e s m below meth cd Qz ls hx hb hml hown hts hK hZ hP hS hl hret
  have hA := sgY.self (n := 26) (h := h) (sz := s.heap.size)
  have hl : lv_has ls 3 [(0, .ref (h 0)), (1, .int 1), (2, .int x1)] := hl
  obtain ⟨H, hH⟩ : ∃ z : Heap, z = s.heap := ⟨_, rfl⟩
  obtain ⟨locs, hlo⟩ : ∃ z : List Loc, z = [] := ⟨_, rfl⟩
  have hP : va_P D vwCl (sgw 26 h (eM ca h) f L Q) H := by rw [hH]; exact hP
  have hS : va_S (sgA 26 h s.heap.size) s.heap H locs := by rw [hH, hlo]; exact hS
  suffices hgo : W p l e ({ frames := 2, cells := 0, slots := 0, locals := 43 }) s m ([.ref (h 0), .int 1, .int x1] : List Value).toArray below meth cd H locs 0 0 Qz (F0 m 0 ls []) by rw [hH, hlo] at hgo; exact hgo
  clear hH hlo
  obtain ⟨sp, hsp⟩ : ∃ z : Int32 × sg_F, z = sX12_setsAs_1_f1_f1 x1 f L := ⟨_, rfl⟩
  have hs : sp = sX12_setsAs_1_f1_f1 x1 f L := hsp
  have o_1 : (f 0 48).toInt = 1 := (congrArg Int32.toInt (show f 0 48 = 1 from hf_0_48)).trans (by decide)
  have hF : sgK WkX12_setsAs_1_f1_f1 f f := sgK.rf
  have blk_16 : ∀ (fp_16 : sg_F) (H : Heap) (locs : List Loc) (ls : Array Slot), sp = sX12_setsAs_1_f1_f1_b16 x1 fp_16 L → 1 ≤ (fp_16 0 48).toInt ∧ (fp_16 0 48).toInt ≤ 1 → 1 ≤ (fp_16 0 49).toInt ∧ (fp_16 0 49).toInt ≤ 1 → sgI loM hiM fp_16 → sgK WkX12_setsAs_1_f1_f1 f fp_16 → va_P D vwCl (sgw 26 h (eM ca h) fp_16 L Q) H → va_S (sgA 26 h s.heap.size) s.heap H locs → lv_has ls 3 [(0, .ref (h 0)), (2, .int x1)] → W p l e ({ frames := 2, cells := 0, slots := 0, locals := 43 }) s m ([.ref (h 0), .int 1, .int x1] : List Value).toArray below meth cd H locs 0 0 Qz (F0 m 16 ls []) := by
    intro fp_16 H locs ls hs hy0_16 hy1_16 hI hF hP hS hl
    obtain ⟨v_2, ev_2⟩ : ∃ z : Int32, z = fp_16 0 48 := ⟨_, rfl⟩
    have q_3 : 0 ≤ v_2.toInt ∧ v_2.toInt ≤ 19 := by rw [ev_2]; exact hI 0 48
    have q_4 : (fp_16 0 48).toInt = v_2.toInt := by rw [ev_2]
    obtain ⟨v_5, ev_5⟩ : ∃ z : Int32, z = fp_16 0 49 := ⟨_, rfl⟩
    have q_6 : 0 ≤ v_5.toInt ∧ v_5.toInt ≤ 7 := by rw [ev_5]; exact hI 0 49
    have q_7 : (fp_16 0 49).toInt = v_5.toInt := by rw [ev_5]
    have m_8 : fp_16 0 49 = 1 := (hF 0 49 (by decide)).trans hf_0_49
    refine lv_aload_n hx hb dX12_setsAs_16 rfl (lv_at hl 0 rfl) ?_
    refine lv_bipush (v := 20) hx hb dX12_setsAs_17 bp_20 ?_
    have c_9 : v_2 = 1 := Int32.toInt_inj.mp (by have k9 : (1 : Int32).toInt = 1 := ti_1; omega)
    have q_10 : (fp_16 0 48).toInt = 1 := (congrArg Int32.toInt (show fp_16 0 48 = 1 from (Eq.trans ev_2.symm c_9))).trans (by decide)
    refine sg_callv (va_runV (As := [.int 20]) (rest := []) ⟨hx, hb, hml, hown, hts⟩ (kX12_begins_20_f1 l D ca za h hh fp_16 L Q hI (Eq.trans ev_2.symm c_9) (by have k0 : (20 : Int32).toInt = 20 := ti_20; omega) H.size) (sl_c12_begins_0_0_0_0_12 hts ⟨Nat.le_of_ble_eq_true rfl, Nat.le_of_ble_eq_true rfl⟩) (sl_vM_0 hA hK hP hS hZ) rfl rfl hl.1 rfl (lv_room (Nat.le_of_ble_eq_true rfl)) dX12_setsAs_19 ⟨Nat.le_refl _, Nat.le_refl _⟩) hA hS (fun f_12 L_13 Q_14 H locs hq hP hS => ?_)
    obtain ⟨⟨hI, hk_f_12, eL9, eQ9⟩, p_15, u_16⟩ := hq
    rw [eL9, eQ9] at hP; clear eL9 eQ9
    have hF : sgK WkX12_setsAs_1_f1_f1 f f_12 := sgK.tr hF hk_f_12 (by decide +kernel)
    obtain ⟨v_17, ev_17⟩ : ∃ z : Int32, z = f_12 0 48 := ⟨_, rfl⟩
    have q_18 : 0 ≤ v_17.toInt ∧ v_17.toInt ≤ 19 := by rw [ev_17]; exact hI 0 48
    have q_19 : (f_12 0 48).toInt = v_17.toInt := (congrArg Int32.toInt (show f_12 0 48 = v_17 from ev_17.symm))
    refine lv_aload_n hx hb dX12_setsAs_22 rfl (lv_at hl 0 rfl) ?_
    refine lv_iconst (v := 0) hx hb dX12_setsAs_23 ic_0 ?_
    refine lv_iload_n hx hb dX12_setsAs_24 rfl (lv_at hl 1 rfl) ?_
    have c_21 : v_17 = 2 := Int32.toInt_inj.mp (by have k9 : (2 : Int32).toInt = 2 := ti_2; omega)
    have q_22 : (f_12 0 48).toInt = 2 := (congrArg Int32.toInt (show f_12 0 48 = 2 from (Eq.trans ev_17.symm c_21))).trans (by decide)
    refine sg_calli (va_runV (As := [.int 0, .int x1]) (rest := []) ⟨hx, hb, hml, hown, hts⟩ (kX12_setsAs_0_f2_f1 l D ca za h hh f_12 L Q hI x1 (Eq.trans ev_17.symm c_21) ((hk_f_12 0 49 (by decide)).trans m_8) (by have k0 : (0 : Int32).toInt = 0 := ti_0; omega) H.size) (sl_c12_setsAs_1_0_0_21_12 hts ⟨Nat.le_of_ble_eq_true rfl, Nat.le_of_ble_eq_true rfl⟩) (sl_vM_0 hA hK hP hS hZ) rfl rfl hl.1 rfl (lv_room (Nat.le_of_ble_eq_true rfl)) dX12_setsAs_25 ⟨Nat.le_refl _, Nat.le_refl _⟩) hA hS (fun r_27 f_24 L_25 Q_26 H locs hq hP hS => ?_)
    obtain ⟨⟨hI, hk_f_24, eL9, eQ9⟩, hq, p_28, u_29⟩ := hq
    rw [eL9, eQ9] at hP; clear eL9 eQ9
    have hF : sgK WkX12_setsAs_1_f1_f1 f f_24 := sgK.tr hF hk_f_24 (by decide +kernel)
    obtain ⟨v_30, ev_30⟩ : ∃ z : Int32, z = f_24 0 48 := ⟨_, rfl⟩
    have q_31 : 0 ≤ v_30.toInt ∧ v_30.toInt ≤ 19 := by rw [ev_30]; exact hI 0 48
    have q_32 : (f_24 0 48).toInt = v_30.toInt := (congrArg Int32.toInt (show f_24 0 48 = v_30 from ev_30.symm))
    have k_34 : (0 : Int32).toInt = 0 := by decide
    refine lv_iconst (v := 3) hx hb dX12_setsAs_28 ic_3 ?_
    refine lv_iadd hx hb dX12_setsAs_29 ?_
    refine lv_topi (fun v_35 ev_35 => ?_)
    exact hret _ _ _ _ (v_35) f_24 L Q dX12_setsAs_30 hP hS ⟨⟨hI, hF, rfl, rfl⟩, trivial, ⟨by omega, by omega⟩, (Eq.trans (Eq.symm (hs.trans ((spl_e ev_2 (spl_e ev_5 (spl_e u_16 (spl_e ev_17 (spl2_e u_29 (spl_e ev_30 (spl_e ev_35 rfl)))))))))) hsp)⟩
  refine lv_iload_n hx hb dX12_setsAs_0 rfl (lv_at hl 1 rfl) ?_
  refine lv_iconst (v := 1) hx hb dX12_setsAs_1 ic_1 ?_
  refine lv_icmp_eq (tgt := 16) hx hb dX12_setsAs_2 (by decide) (fun c => ?_) (fun c => absurd c (by decide))
  exact blk_16 f _ _ _ hs (by have zz0_48 : (f 0 48).toInt = 1 := (congrArg Int32.toInt (show f 0 48 = 1 from hf_0_48)).trans (by decide); exact ⟨by omega, by omega⟩) (by have zz0_49 : (f 0 49).toInt = 1 := (congrArg Int32.toInt (show f 0 49 = 1 from hf_0_49)).trans (by decide); exact ⟨by omega, by omega⟩) hI hF hP hS (lv_sub hl [0, 2] rfl)

abbrev WkX12_sitsAs_1_f0_f1 : List (Nat × Nat × Option Nat) := [(0, 0, some 48), (21, 21, some 0), (21, 21, some 1), (21, 21, some 2)]
set_option maxHeartbeats 4000000 in
set_option maxRecDepth 100000 in
theorem kX12_sitsAs_1_f0_f1 (l : Launch) (D : va_G) (ca : Nat → ClassId) (za h : Nat → Nat) (hh : sgH 26 h) (f : sg_F) (L : sg_L) (Q : sg_Q) (hI : sgI loM hiM f) (x1 : Int32) (hf_0_48 : f 0 48 = 0) (hf_0_49 : f 0 49 = 1) (p0 : 0 ≤ (f 0 48).toInt ∧ (f 0 48).toInt ≤ 0) (sz : Nat) : Met l yX12_sitsAs gwX12_sitsAs { frames := 3, cells := 0, slots := 0, locals := 65 } (sgP D vwCl (tyX ca) 26 h (eM ca h) zcM za f L Q sz [.ref (h 0), .int 1, .int x1]) (sgQi D vwCl 26 h (eM ca h) sz (fun r f1 L1 Q1 => ((sgI loM hiM f1 ∧ sgK WkX12_sitsAs_1_f0_f1 f f1 ∧ L1 = L ∧ Q1 = Q) ∧ True ∧ (3 ≤ (f1 0 48).toInt ∧ (f1 0 48).toInt ≤ 3) ∧ (r, f1) = sX12_sitsAs_1_f0_f1 x1 f L))) 0 0 (sgA 26 h sz) := by
  refine sg_ofWi (cc := cX12_sitsAs) (maxL := 4) RX12 (by decide) rfl rfl (Nat.le_of_ble_eq_true rfl) ?_
  intro p e s m below meth cd Qz ls hx hb hml hown hts hK hZ hP hS hl hret
  have hA := sgY.self (n := 26) (h := h) (sz := s.heap.size)
  have hl : lv_has ls 4 [(0, .ref (h 0)), (1, .int 1), (2, .int x1)] := hl
  obtain ⟨H, hH⟩ : ∃ z : Heap, z = s.heap := ⟨_, rfl⟩
  obtain ⟨locs, hlo⟩ : ∃ z : List Loc, z = [] := ⟨_, rfl⟩
  have hP : va_P D vwCl (sgw 26 h (eM ca h) f L Q) H := by rw [hH]; exact hP
  have hS : va_S (sgA 26 h s.heap.size) s.heap H locs := by rw [hH, hlo]; exact hS
  suffices hgo : W p l e ({ frames := 3, cells := 0, slots := 0, locals := 65 }) s m ([.ref (h 0), .int 1, .int x1] : List Value).toArray below meth cd H locs 0 0 Qz (F0 m 0 ls []) by rw [hH, hlo] at hgo; exact hgo
  clear hH hlo
  obtain ⟨sp, hsp⟩ : ∃ z : Int32 × sg_F, z = sX12_sitsAs_1_f0_f1 x1 f L := ⟨_, rfl⟩
  have hs : sp = sX12_sitsAs_1_f0_f1 x1 f L := hsp
  have o_1 : (f 0 48).toInt = 0 := (congrArg Int32.toInt (show f 0 48 = 0 from hf_0_48)).trans (by decide)
  have hF : sgK WkX12_sitsAs_1_f0_f1 f f := sgK.rf
  refine lv_iload_n hx hb dX12_sitsAs_0 rfl (lv_at hl 1 rfl) ?_
  refine lv_iconst (v := 3) hx hb dX12_sitsAs_1 ic_3 ?_
  refine lv_icmp_eq (tgt := 10) hx hb dX12_sitsAs_2 (by decide) (fun c => absurd c (by decide)) (fun c => ?_)
  refine lv_iload_n hx hb dX12_sitsAs_5 rfl (lv_at hl 1 rfl) ?_
  refine lv_iconst (v := 5) hx hb dX12_sitsAs_6 ic_5 ?_
  refine lv_icmp_ne (tgt := 25) hx hb dX12_sitsAs_7 (by decide) (fun c => ?_) (fun c => absurd c (by decide))
  refine lv_iload_n hx hb dX12_sitsAs_25 rfl (lv_at hl 1 rfl) ?_
  refine lv_iconst (v := 2) hx hb dX12_sitsAs_26 ic_2 ?_
  refine lv_icmp_ne (tgt := 44) hx hb dX12_sitsAs_27 (by decide) (fun c => ?_) (fun c => absurd c (by decide))
  refine lv_iload_n hx hb dX12_sitsAs_44 rfl (lv_at hl 1 rfl) ?_
  refine lv_bipush (v := 7) hx hb dX12_sitsAs_45 bp_7 ?_
  refine lv_icmp_ne (tgt := 75) hx hb dX12_sitsAs_47 (by decide) (fun c => ?_) (fun c => absurd c (by decide))
  refine lv_aload_n hx hb dX12_sitsAs_75 rfl (lv_at hl 0 rfl) ?_
  refine lv_bipush (v := 10) hx hb dX12_sitsAs_76 bp_10 ?_
  have q_2 : (f 0 48).toInt = 0 := (congrArg Int32.toInt (show f 0 48 = 0 from hf_0_48)).trans (by decide)
  refine sg_callv (va_runV (As := [.int 10]) (rest := []) ⟨hx, hb, hml, hown, hts⟩ (kX12_begins_10_f0 l D ca za h hh f L Q hI hf_0_48 (by have k0 : (10 : Int32).toInt = 10 := ti_10; omega) H.size) (sl_c12_begins_0_0_0_0_12 hts ⟨Nat.le_of_ble_eq_true rfl, Nat.le_of_ble_eq_true rfl⟩) (sl_vM_0 hA hK hP hS hZ) rfl rfl hl.1 rfl (lv_room (Nat.le_of_ble_eq_true rfl)) dX12_sitsAs_78 ⟨Nat.le_refl _, Nat.le_refl _⟩) hA hS (fun f_4 L_5 Q_6 H locs hq hP hS => ?_)
  obtain ⟨⟨hI, hk_f_4, eL9, eQ9⟩, p_7, u_8⟩ := hq
  rw [eL9, eQ9] at hP; clear eL9 eQ9
  have hF : sgK WkX12_sitsAs_1_f0_f1 f f_4 := sgK.tr hF hk_f_4 (by decide +kernel)
  obtain ⟨v_9, ev_9⟩ : ∃ z : Int32, z = f_4 0 48 := ⟨_, rfl⟩
  have q_10 : 0 ≤ v_9.toInt ∧ v_9.toInt ≤ 19 := by rw [ev_9]; exact hI 0 48
  have q_11 : (f_4 0 48).toInt = v_9.toInt := (congrArg Int32.toInt (show f_4 0 48 = v_9 from ev_9.symm))
  refine lv_aload_n hx hb dX12_sitsAs_81 rfl (lv_at hl 0 rfl) ?_
  refine lv_aload_n hx hb dX12_sitsAs_82 rfl (lv_at hl 0 rfl) ?_
  refine sl_gM_0_49_12 (v := 1) hx hb hts hown hK hP (show f_4 0 49 = 1 from ((hk_f_4 0 49 (by decide)).trans hf_0_49)) dX12_sitsAs_83 ?_
  refine lv_iload_n hx hb dX12_sitsAs_86 rfl (lv_at hl 2 rfl) ?_
  have c_13 : v_9 = 1 := Int32.toInt_inj.mp (by have k9 : (1 : Int32).toInt = 1 := ti_1; omega)
  have q_14 : (f_4 0 48).toInt = 1 := (congrArg Int32.toInt (show f_4 0 48 = 1 from (Eq.trans ev_9.symm c_13))).trans (by decide)
  refine sg_calli (va_runV (As := [.int 1, .int x1]) (rest := []) ⟨hx, hb, hml, hown, hts⟩ (kX12_setsAs_1_f1_f1 l D ca za h hh f_4 L Q hI x1 (Eq.trans ev_9.symm c_13) ((hk_f_4 0 49 (by decide)).trans hf_0_49) (by have k0 : (1 : Int32).toInt = 1 := ti_1; omega) H.size) (sl_c12_setsAs_2_0_0_43_12 hts ⟨Nat.le_of_ble_eq_true rfl, Nat.le_of_ble_eq_true rfl⟩) (sl_vM_0 hA hK hP hS hZ) rfl rfl hl.1 rfl (lv_room (Nat.le_of_ble_eq_true rfl)) dX12_sitsAs_87 ⟨Nat.le_refl _, Nat.le_refl _⟩) hA hS (fun r_19 f_16 L_17 Q_18 H locs hq hP hS => ?_)
  obtain ⟨⟨hI, hk_f_16, eL9, eQ9⟩, hq, p_20, u_21⟩ := hq
  rw [eL9, eQ9] at hP; clear eL9 eQ9
  have hF : sgK WkX12_sitsAs_1_f0_f1 f f_16 := sgK.tr hF hk_f_16 (by decide +kernel)
  obtain ⟨v_22, ev_22⟩ : ∃ z : Int32, z = f_16 0 48 := ⟨_, rfl⟩
  have q_23 : 0 ≤ v_22.toInt ∧ v_22.toInt ≤ 19 := by rw [ev_22]; exact hI 0 48
  have q_24 : (f_16 0 48).toInt = v_22.toInt := (congrArg Int32.toInt (show f_16 0 48 = v_22 from ev_22.symm))
  have k_26 : (1 : Int32).toInt = 1 := by decide
  refine lv_iconst (v := 2) hx hb dX12_sitsAs_90 ic_2 ?_
  refine lv_imul hx hb dX12_sitsAs_91 ?_
  refine lv_topi (fun v_27 ev_27 => ?_)
  exact hret _ _ _ _ (v_27) f_16 L Q dX12_sitsAs_92 hP hS ⟨⟨hI, hF, rfl, rfl⟩, trivial, ⟨by omega, by omega⟩, (Eq.trans (Eq.symm (hs.trans ((spl_e u_8 (spl_e ev_9 (spl2_e u_21 (spl_e ev_22 (spl_e ev_27 rfl)))))))) hsp)⟩

abbrev WkX12_begins_30_f0 : List (Nat × Nat × Option Nat) := [(0, 0, some 48), (21, 21, some 0)]
set_option maxHeartbeats 4000000 in
set_option maxRecDepth 100000 in
theorem kX12_begins_30_f0 (l : Launch) (D : va_G) (ca : Nat → ClassId) (za h : Nat → Nat) (hh : sgH 26 h) (f : sg_F) (L : sg_L) (Q : sg_Q) (hI : sgI loM hiM f) (hf_0_48 : f 0 48 = 0) (p0 : 0 ≤ (f 0 48).toInt ∧ (f 0 48).toInt ≤ 0) (sz : Nat) : Met l yX12_begins gwX12_begins { frames := 0, cells := 0, slots := 0, locals := 0 } (sgP D vwCl (tyX ca) 26 h (eM ca h) zcM za f L Q sz [.ref (h 0), .int 30]) (sgQv D vwCl 26 h (eM ca h) sz (fun f1 L1 Q1 => ((sgI loM hiM f1 ∧ sgK WkX12_begins_30_f0 f f1 ∧ L1 = L ∧ Q1 = Q) ∧ (1 ≤ (f1 0 48).toInt ∧ (f1 0 48).toInt ≤ 1) ∧ (f1) = sX12_begins_30_f0 f L))) 0 0 (sgA 26 h sz) := by
  refine sg_ofWv (cc := cX12_begins) (maxL := 2) RX12 (by decide) rfl rfl (Nat.le_of_ble_eq_true rfl) ?_
  intro p e s m below meth cd Qz ls hx hb hml hown hts hK hZ hP hS hl hret
  have hA := sgY.self (n := 26) (h := h) (sz := s.heap.size)
  have hl : lv_has ls 2 [(0, .ref (h 0)), (1, .int 30)] := hl
  obtain ⟨H, hH⟩ : ∃ z : Heap, z = s.heap := ⟨_, rfl⟩
  obtain ⟨locs, hlo⟩ : ∃ z : List Loc, z = [] := ⟨_, rfl⟩
  have hP : va_P D vwCl (sgw 26 h (eM ca h) f L Q) H := by rw [hH]; exact hP
  have hS : va_S (sgA 26 h s.heap.size) s.heap H locs := by rw [hH, hlo]; exact hS
  suffices hgo : W p l e ({ frames := 0, cells := 0, slots := 0, locals := 0 }) s m ([.ref (h 0), .int 30] : List Value).toArray below meth cd H locs 0 0 Qz (F0 m 0 ls []) by rw [hH, hlo] at hgo; exact hgo
  clear hH hlo
  obtain ⟨sp, hsp⟩ : ∃ z : sg_F, z = sX12_begins_30_f0 f L := ⟨_, rfl⟩
  have hs : sp = sX12_begins_30_f0 f L := hsp
  have o_1 : (f 0 48).toInt = 0 := (congrArg Int32.toInt (show f 0 48 = 0 from hf_0_48)).trans (by decide)
  have hF : sgK WkX12_begins_30_f0 f f := sgK.rf
  have blk_19 : ∀ (fp_19 : sg_F) (H : Heap) (locs : List Loc) (ls : Array Slot), sp = sX12_begins_30_f0_b19 fp_19 L → 0 ≤ (fp_19 0 48).toInt ∧ (fp_19 0 48).toInt ≤ 0 → sgI loM hiM fp_19 → sgK WkX12_begins_30_f0 f fp_19 → va_P D vwCl (sgw 26 h (eM ca h) fp_19 L Q) H → va_S (sgA 26 h s.heap.size) s.heap H locs → lv_has ls 2 [(0, .ref (h 0))] → W p l e ({ frames := 0, cells := 0, slots := 0, locals := 0 }) s m ([.ref (h 0), .int 30] : List Value).toArray below meth cd H locs 0 0 Qz (F0 m 19 ls []) := by
    intro fp_19 H locs ls hs hy0_19 hI hF hP hS hl
    obtain ⟨v_2, ev_2⟩ : ∃ z : Int32, z = fp_19 0 48 := ⟨_, rfl⟩
    have q_3 : 0 ≤ v_2.toInt ∧ v_2.toInt ≤ 19 := by rw [ev_2]; exact hI 0 48
    have q_4 : (fp_19 0 48).toInt = v_2.toInt := by rw [ev_2]
    refine lv_aload_n hx hb dX12_begins_19 rfl (lv_at hl 0 rfl) ?_
    refine lv_dup hx hb dX12_begins_20 rfl ?_
    refine sl_gM_0_48_12 (v := v_2) hx hb hts hown hK hP (show fp_19 0 48 = v_2 from ev_2.symm) dX12_begins_21 ?_
    refine lv_iconst (v := 1) hx hb dX12_begins_24 ic_1 ?_
    refine lv_iadd hx hb dX12_begins_25 ?_
    refine lv_topi (fun v_5 ev_5 => ?_)
    have q_6 : v_5.toInt = v_2.toInt + 1 := by rw [ev_5]; first | exact cm_add ti_1 (by omega) (by omega) | (have k1 : (1 : Int32).toInt = 1 := ti_1; exact (bn_addI (by omega) (by omega)).trans (by omega))
    refine sl_pM_0_48_12 (x := v_5) hx hb hts hown hh hA hK hP hS dX12_begins_26 (fun f_7 H locs ef_7 hP hS => ?_)
    have hI : sgI loM hiM f_7 := by rw [ef_7]; exact sgI.put hI 0 48 (show 0 ≤ (v_5 : Int32).toInt ∧ (v_5 : Int32).toInt ≤ 19 from ⟨by omega, by omega⟩)
    have hF : sgK WkX12_begins_30_f0 f f_7 := sgK.put hF ef_7 (by rfl)
    have q_8 : (f_7 0 48).toInt = v_5.toInt := (congrArg Int32.toInt (show f_7 0 48 = v_5 from (by rw [ef_7, sg_up_s, sgu_s])))
    exact hret _ _ _ _ f_7 L Q dX12_begins_29 hP hS ⟨⟨hI, hF, rfl, rfl⟩, ⟨by omega, by omega⟩, (Eq.trans (Eq.symm (hs.trans ((spl_e ev_2 (spl_e ev_5 (spl_e ef_7 rfl)))))) hsp)⟩
  refine lv_aload_n hx hb dX12_begins_0 rfl (lv_at hl 0 rfl) ?_
  refine sl_gM_0_48_12 (v := 0) hx hb hts hown hK hP (show f 0 48 = 0 from hf_0_48) dX12_begins_1 ?_
  refine lv_bipush (v := 24) hx hb dX12_begins_4 bp_24 ?_
  refine lv_icmp_ge (tgt := 19) hx hb dX12_begins_6 (by decide) (fun c => absurd c (by decide)) (fun c => ?_)
  refine lv_aload_n hx hb dX12_begins_9 rfl (lv_at hl 0 rfl) ?_
  refine sl_gM_0_47_12 hx hb hts hown hK hP dX12_begins_10 ?_
  refine lv_aload_n hx hb dX12_begins_13 rfl (lv_at hl 0 rfl) ?_
  refine sl_gM_0_48_12 (v := 0) hx hb hts hown hK hP (show f 0 48 = 0 from hf_0_48) dX12_begins_14 ?_
  refine lv_iload_n hx hb dX12_begins_17 rfl (lv_at hl 1 rfl) ?_
  refine sg_iast hx hb hh hA hK hP hS 21 (by decide) 0 (fun _ => rfl) rfl (i := 0) (x := 30) (vp_in_iff.mpr (by decide)) dX12_begins_18 (fun f_10 H locs ef_10 hP hS => ?_)
  have ef_10 : f_10 = sg_up f 21 (sgu (f 21) 0 30) := ef_10
  have hI : sgI loM hiM f_10 := by rw [ef_10]; exact sgI.put hI 21 0 (show 0 ≤ (30 : Int32).toInt ∧ (30 : Int32).toInt ≤ 81 from by decide)
  have hF : sgK WkX12_begins_30_f0 f f_10 := sgK.put hF ef_10 (by rfl)
  exact blk_19 f_10 _ _ _ (hs.trans ((spl_e ef_10 rfl))) (by have zz0_48 : (f_10 0 48).toInt = 0 := (congrArg Int32.toInt (show f_10 0 48 = 0 from (by rw [ef_10, sg_up_n (by decide)]; exact hf_0_48))).trans (by decide); exact ⟨by omega, by omega⟩) hI hF hP hS (lv_sub hl [0] rfl)

abbrev WkX12_begins_10_f1 : List (Nat × Nat × Option Nat) := [(0, 0, some 48), (21, 21, some 1)]
set_option maxHeartbeats 4000000 in
set_option maxRecDepth 100000 in
theorem kX12_begins_10_f1 (l : Launch) (D : va_G) (ca : Nat → ClassId) (za h : Nat → Nat) (hh : sgH 26 h) (f : sg_F) (L : sg_L) (Q : sg_Q) (hI : sgI loM hiM f) (hf_0_48 : f 0 48 = 1) (p0 : 1 ≤ (f 0 48).toInt ∧ (f 0 48).toInt ≤ 1) (sz : Nat) : Met l yX12_begins gwX12_begins { frames := 0, cells := 0, slots := 0, locals := 0 } (sgP D vwCl (tyX ca) 26 h (eM ca h) zcM za f L Q sz [.ref (h 0), .int 10]) (sgQv D vwCl 26 h (eM ca h) sz (fun f1 L1 Q1 => ((sgI loM hiM f1 ∧ sgK WkX12_begins_10_f1 f f1 ∧ L1 = L ∧ Q1 = Q) ∧ (2 ≤ (f1 0 48).toInt ∧ (f1 0 48).toInt ≤ 2) ∧ (f1) = sX12_begins_10_f1 f L))) 0 0 (sgA 26 h sz) := by
  refine sg_ofWv (cc := cX12_begins) (maxL := 2) RX12 (by decide) rfl rfl (Nat.le_of_ble_eq_true rfl) ?_
  intro p e s m below meth cd Qz ls hx hb hml hown hts hK hZ hP hS hl hret
  have hA := sgY.self (n := 26) (h := h) (sz := s.heap.size)
  have hl : lv_has ls 2 [(0, .ref (h 0)), (1, .int 10)] := hl
  obtain ⟨H, hH⟩ : ∃ z : Heap, z = s.heap := ⟨_, rfl⟩
  obtain ⟨locs, hlo⟩ : ∃ z : List Loc, z = [] := ⟨_, rfl⟩
  have hP : va_P D vwCl (sgw 26 h (eM ca h) f L Q) H := by rw [hH]; exact hP
  have hS : va_S (sgA 26 h s.heap.size) s.heap H locs := by rw [hH, hlo]; exact hS
  suffices hgo : W p l e ({ frames := 0, cells := 0, slots := 0, locals := 0 }) s m ([.ref (h 0), .int 10] : List Value).toArray below meth cd H locs 0 0 Qz (F0 m 0 ls []) by rw [hH, hlo] at hgo; exact hgo
  clear hH hlo
  obtain ⟨sp, hsp⟩ : ∃ z : sg_F, z = sX12_begins_10_f1 f L := ⟨_, rfl⟩
  have hs : sp = sX12_begins_10_f1 f L := hsp
  have o_1 : (f 0 48).toInt = 1 := (congrArg Int32.toInt (show f 0 48 = 1 from hf_0_48)).trans (by decide)
  have hF : sgK WkX12_begins_10_f1 f f := sgK.rf
  have blk_19 : ∀ (fp_19 : sg_F) (H : Heap) (locs : List Loc) (ls : Array Slot), sp = sX12_begins_10_f1_b19 fp_19 L → 1 ≤ (fp_19 0 48).toInt ∧ (fp_19 0 48).toInt ≤ 1 → sgI loM hiM fp_19 → sgK WkX12_begins_10_f1 f fp_19 → va_P D vwCl (sgw 26 h (eM ca h) fp_19 L Q) H → va_S (sgA 26 h s.heap.size) s.heap H locs → lv_has ls 2 [(0, .ref (h 0))] → W p l e ({ frames := 0, cells := 0, slots := 0, locals := 0 }) s m ([.ref (h 0), .int 10] : List Value).toArray below meth cd H locs 0 0 Qz (F0 m 19 ls []) := by
    intro fp_19 H locs ls hs hy0_19 hI hF hP hS hl
    obtain ⟨v_2, ev_2⟩ : ∃ z : Int32, z = fp_19 0 48 := ⟨_, rfl⟩
    have q_3 : 0 ≤ v_2.toInt ∧ v_2.toInt ≤ 19 := by rw [ev_2]; exact hI 0 48
    have q_4 : (fp_19 0 48).toInt = v_2.toInt := by rw [ev_2]
    refine lv_aload_n hx hb dX12_begins_19 rfl (lv_at hl 0 rfl) ?_
    refine lv_dup hx hb dX12_begins_20 rfl ?_
    refine sl_gM_0_48_12 (v := v_2) hx hb hts hown hK hP (show fp_19 0 48 = v_2 from ev_2.symm) dX12_begins_21 ?_
    refine lv_iconst (v := 1) hx hb dX12_begins_24 ic_1 ?_
    refine lv_iadd hx hb dX12_begins_25 ?_
    refine lv_topi (fun v_5 ev_5 => ?_)
    have q_6 : v_5.toInt = v_2.toInt + 1 := by rw [ev_5]; first | exact cm_add ti_1 (by omega) (by omega) | (have k1 : (1 : Int32).toInt = 1 := ti_1; exact (bn_addI (by omega) (by omega)).trans (by omega))
    refine sl_pM_0_48_12 (x := v_5) hx hb hts hown hh hA hK hP hS dX12_begins_26 (fun f_7 H locs ef_7 hP hS => ?_)
    have hI : sgI loM hiM f_7 := by rw [ef_7]; exact sgI.put hI 0 48 (show 0 ≤ (v_5 : Int32).toInt ∧ (v_5 : Int32).toInt ≤ 19 from ⟨by omega, by omega⟩)
    have hF : sgK WkX12_begins_10_f1 f f_7 := sgK.put hF ef_7 (by rfl)
    have q_8 : (f_7 0 48).toInt = v_5.toInt := (congrArg Int32.toInt (show f_7 0 48 = v_5 from (by rw [ef_7, sg_up_s, sgu_s])))
    exact hret _ _ _ _ f_7 L Q dX12_begins_29 hP hS ⟨⟨hI, hF, rfl, rfl⟩, ⟨by omega, by omega⟩, (Eq.trans (Eq.symm (hs.trans ((spl_e ev_2 (spl_e ev_5 (spl_e ef_7 rfl)))))) hsp)⟩
  refine lv_aload_n hx hb dX12_begins_0 rfl (lv_at hl 0 rfl) ?_
  refine sl_gM_0_48_12 (v := 1) hx hb hts hown hK hP (show f 0 48 = 1 from hf_0_48) dX12_begins_1 ?_
  refine lv_bipush (v := 24) hx hb dX12_begins_4 bp_24 ?_
  refine lv_icmp_ge (tgt := 19) hx hb dX12_begins_6 (by decide) (fun c => absurd c (by decide)) (fun c => ?_)
  refine lv_aload_n hx hb dX12_begins_9 rfl (lv_at hl 0 rfl) ?_
  refine sl_gM_0_47_12 hx hb hts hown hK hP dX12_begins_10 ?_
  refine lv_aload_n hx hb dX12_begins_13 rfl (lv_at hl 0 rfl) ?_
  refine sl_gM_0_48_12 (v := 1) hx hb hts hown hK hP (show f 0 48 = 1 from hf_0_48) dX12_begins_14 ?_
  refine lv_iload_n hx hb dX12_begins_17 rfl (lv_at hl 1 rfl) ?_
  refine sg_iast hx hb hh hA hK hP hS 21 (by decide) 0 (fun _ => rfl) rfl (i := 1) (x := 10) (vp_in_iff.mpr (by decide)) dX12_begins_18 (fun f_10 H locs ef_10 hP hS => ?_)
  have ef_10 : f_10 = sg_up f 21 (sgu (f 21) 1 10) := ef_10
  have hI : sgI loM hiM f_10 := by rw [ef_10]; exact sgI.put hI 21 1 (show 0 ≤ (10 : Int32).toInt ∧ (10 : Int32).toInt ≤ 81 from by decide)
  have hF : sgK WkX12_begins_10_f1 f f_10 := sgK.put hF ef_10 (by rfl)
  exact blk_19 f_10 _ _ _ (hs.trans ((spl_e ef_10 rfl))) (by have zz0_48 : (f_10 0 48).toInt = 1 := (congrArg Int32.toInt (show f_10 0 48 = 1 from (by rw [ef_10, sg_up_n (by decide)]; exact hf_0_48))).trans (by decide); exact ⟨by omega, by omega⟩) hI hF hP hS (lv_sub hl [0] rfl)

abbrev WkX12_setsAs_2_f2_f2 : List (Nat × Nat × Option Nat) := [(0, 0, some 48), (21, 21, some 2)]
set_option maxHeartbeats 4000000 in
set_option maxRecDepth 100000 in
theorem kX12_setsAs_2_f2_f2 (l : Launch) (D : va_G) (ca : Nat → ClassId) (za h : Nat → Nat) (hh : sgH 26 h) (f : sg_F) (L : sg_L) (Q : sg_Q) (hI : sgI loM hiM f) (x1 : Int32) (hf_0_48 : f 0 48 = 2) (hf_0_49 : f 0 49 = 2) (p0 : 2 ≤ (f 0 48).toInt ∧ (f 0 48).toInt ≤ 2) (sz : Nat) : Met l yX12_setsAs gwX12_setsAs { frames := 1, cells := 0, slots := 0, locals := 21 } (sgP D vwCl (tyX ca) 26 h (eM ca h) zcM za f L Q sz [.ref (h 0), .int 2, .int x1]) (sgQi D vwCl 26 h (eM ca h) sz (fun r f1 L1 Q1 => ((sgI loM hiM f1 ∧ sgK WkX12_setsAs_2_f2_f2 f f1 ∧ L1 = L ∧ Q1 = Q) ∧ True ∧ (3 ≤ (f1 0 48).toInt ∧ (f1 0 48).toInt ≤ 3) ∧ (r, f1) = sX12_setsAs_2_f2_f2 x1 f L))) 0 0 (sgA 26 h sz) := by
  refine sg_ofWi (cc := cX12_setsAs) (maxL := 3) RX12 (by decide) rfl rfl (Nat.le_of_ble_eq_true rfl) ?_
  intro p e s m below meth cd Qz ls hx hb hml hown hts hK hZ hP hS hl hret
  have hA := sgY.self (n := 26) (h := h) (sz := s.heap.size)
  have hl : lv_has ls 3 [(0, .ref (h 0)), (1, .int 2), (2, .int x1)] := hl
  obtain ⟨H, hH⟩ : ∃ z : Heap, z = s.heap := ⟨_, rfl⟩
  obtain ⟨locs, hlo⟩ : ∃ z : List Loc, z = [] := ⟨_, rfl⟩
  have hP : va_P D vwCl (sgw 26 h (eM ca h) f L Q) H := by rw [hH]; exact hP
  have hS : va_S (sgA 26 h s.heap.size) s.heap H locs := by rw [hH, hlo]; exact hS
  suffices hgo : W p l e ({ frames := 1, cells := 0, slots := 0, locals := 21 }) s m ([.ref (h 0), .int 2, .int x1] : List Value).toArray below meth cd H locs 0 0 Qz (F0 m 0 ls []) by rw [hH, hlo] at hgo; exact hgo
  clear hH hlo
  obtain ⟨sp, hsp⟩ : ∃ z : Int32 × sg_F, z = sX12_setsAs_2_f2_f2 x1 f L := ⟨_, rfl⟩
  have hs : sp = sX12_setsAs_2_f2_f2 x1 f L := hsp
  have o_1 : (f 0 48).toInt = 2 := (congrArg Int32.toInt (show f 0 48 = 2 from hf_0_48)).trans (by decide)
  have hF : sgK WkX12_setsAs_2_f2_f2 f f := sgK.rf
  refine lv_iload_n hx hb dX12_setsAs_0 rfl (lv_at hl 1 rfl) ?_
  refine lv_iconst (v := 1) hx hb dX12_setsAs_1 ic_1 ?_
  refine lv_icmp_eq (tgt := 16) hx hb dX12_setsAs_2 (by decide) (fun c => absurd c (by decide)) (fun c => ?_)
  refine lv_iload_n hx hb dX12_setsAs_5 rfl (lv_at hl 1 rfl) ?_
  refine lv_iconst (v := 4) hx hb dX12_setsAs_6 ic_4 ?_
  refine lv_icmp_eq (tgt := 16) hx hb dX12_setsAs_7 (by decide) (fun c => absurd c (by decide)) (fun c => ?_)
  refine lv_iload_n hx hb dX12_setsAs_10 rfl (lv_at hl 1 rfl) ?_
  refine lv_bipush (v := 7) hx hb dX12_setsAs_11 bp_7 ?_
  refine lv_icmp_ne (tgt := 31) hx hb dX12_setsAs_13 (by decide) (fun c => ?_) (fun c => absurd c (by decide))
  refine lv_iload_n hx hb dX12_setsAs_31 rfl (lv_at hl 1 rfl) ?_
  refine lv_bipush (v := 6) hx hb dX12_setsAs_32 bp_6 ?_
  refine lv_icmp_ne (tgt := 52) hx hb dX12_setsAs_34 (by decide) (fun c => ?_) (fun c => absurd c (by decide))
  refine lv_aload_n hx hb dX12_setsAs_52 rfl (lv_at hl 0 rfl) ?_
  refine lv_iconst (v := 1) hx hb dX12_setsAs_53 ic_1 ?_
  have q_2 : (f 0 48).toInt = 2 := (congrArg Int32.toInt (show f 0 48 = 2 from hf_0_48)).trans (by decide)
  refine sg_callv (va_runV (As := [.int 1]) (rest := []) ⟨hx, hb, hml, hown, hts⟩ (kX12_begins_1_f2 l D ca za h hh f L Q hI hf_0_48 (by have k0 : (1 : Int32).toInt = 1 := ti_1; omega) H.size) (sl_c12_begins_0_0_0_0_12 hts ⟨Nat.le_of_ble_eq_true rfl, Nat.le_of_ble_eq_true rfl⟩) (sl_vM_0 hA hK hP hS hZ) rfl rfl hl.1 rfl (lv_room (Nat.le_of_ble_eq_true rfl)) dX12_setsAs_54 ⟨Nat.le_refl _, Nat.le_refl _⟩) hA hS (fun f_4 L_5 Q_6 H locs hq hP hS => ?_)
  obtain ⟨⟨hI, hk_f_4, eL9, eQ9⟩, p_7, u_8⟩ := hq
  rw [eL9, eQ9] at hP; clear eL9 eQ9
  have hF : sgK WkX12_setsAs_2_f2_f2 f f_4 := sgK.tr hF hk_f_4 (by decide +kernel)
  obtain ⟨v_9, ev_9⟩ : ∃ z : Int32, z = f_4 0 48 := ⟨_, rfl⟩
  have q_10 : 0 ≤ v_9.toInt ∧ v_9.toInt ≤ 19 := by rw [ev_9]; exact hI 0 48
  have q_11 : (f_4 0 48).toInt = v_9.toInt := (congrArg Int32.toInt (show f_4 0 48 = v_9 from ev_9.symm))
  refine lv_iload_n hx hb dX12_setsAs_57 rfl (lv_at hl 2 rfl) ?_
  refine lv_aload_n hx hb dX12_setsAs_58 rfl (lv_at hl 0 rfl) ?_
  refine sl_gM_0_50_12 (v := (f_4 0 50)) hx hb hts hown hK hP rfl dX12_setsAs_59 ?_
  refine lv_topi (fun v_13 ev_13 => ?_)
  have q_14 : 0 ≤ v_13.toInt ∧ v_13.toInt ≤ 49 := by rw [ev_13]; exact hI 0 50
  refine lv_iadd hx hb dX12_setsAs_62 ?_
  refine lv_topi (fun v_15 ev_15 => ?_)
  exact hret _ _ _ _ (v_15) f_4 L Q dX12_setsAs_63 hP hS ⟨⟨hI, hF, rfl, rfl⟩, trivial, ⟨by omega, by omega⟩, (Eq.trans (Eq.symm (hs.trans ((spl_e u_8 (spl_e ev_9 (spl_e ev_13 (spl_e ev_15 rfl))))))) hsp)⟩

abbrev WkX12_sitsAs_0_f1_f2 : List (Nat × Nat × Option Nat) := [(0, 0, some 48), (21, 21, some 1), (21, 21, some 2)]
set_option maxHeartbeats 4000000 in
set_option maxRecDepth 100000 in
theorem kX12_sitsAs_0_f1_f2 (l : Launch) (D : va_G) (ca : Nat → ClassId) (za h : Nat → Nat) (hh : sgH 26 h) (f : sg_F) (L : sg_L) (Q : sg_Q) (hI : sgI loM hiM f) (x1 : Int32) (hf_0_48 : f 0 48 = 1) (hf_0_49 : f 0 49 = 2) (p0 : 1 ≤ (f 0 48).toInt ∧ (f 0 48).toInt ≤ 1) (sz : Nat) : Met l yX12_sitsAs gwX12_sitsAs { frames := 2, cells := 0, slots := 0, locals := 43 } (sgP D vwCl (tyX ca) 26 h (eM ca h) zcM za f L Q sz [.ref (h 0), .int 0, .int x1]) (sgQi D vwCl 26 h (eM ca h) sz (fun r f1 L1 Q1 => ((sgI loM hiM f1 ∧ sgK WkX12_sitsAs_0_f1_f2 f f1 ∧ L1 = L ∧ Q1 = Q) ∧ True ∧ (3 ≤ (f1 0 48).toInt ∧ (f1 0 48).toInt ≤ 3) ∧ (r, f1) = sX12_sitsAs_0_f1_f2 x1 f L))) 0 0 (sgA 26 h sz) := by
  refine sg_ofWi (cc := cX12_sitsAs) (maxL := 4) RX12 (by decide) rfl rfl (Nat.le_of_ble_eq_true rfl) ?_
  intro p e s m below meth cd Qz ls hx hb hml hown hts hK hZ hP hS hl hret
  have hA := sgY.self (n := 26) (h := h) (sz := s.heap.size)
  have hl : lv_has ls 4 [(0, .ref (h 0)), (1, .int 0), (2, .int x1)] := hl
  obtain ⟨H, hH⟩ : ∃ z : Heap, z = s.heap := ⟨_, rfl⟩
  obtain ⟨locs, hlo⟩ : ∃ z : List Loc, z = [] := ⟨_, rfl⟩
  have hP : va_P D vwCl (sgw 26 h (eM ca h) f L Q) H := by rw [hH]; exact hP
  have hS : va_S (sgA 26 h s.heap.size) s.heap H locs := by rw [hH, hlo]; exact hS
  suffices hgo : W p l e ({ frames := 2, cells := 0, slots := 0, locals := 43 }) s m ([.ref (h 0), .int 0, .int x1] : List Value).toArray below meth cd H locs 0 0 Qz (F0 m 0 ls []) by rw [hH, hlo] at hgo; exact hgo
  clear hH hlo
  obtain ⟨sp, hsp⟩ : ∃ z : Int32 × sg_F, z = sX12_sitsAs_0_f1_f2 x1 f L := ⟨_, rfl⟩
  have hs : sp = sX12_sitsAs_0_f1_f2 x1 f L := hsp
  have o_1 : (f 0 48).toInt = 1 := (congrArg Int32.toInt (show f 0 48 = 1 from hf_0_48)).trans (by decide)
  have hF : sgK WkX12_sitsAs_0_f1_f2 f f := sgK.rf
  refine lv_iload_n hx hb dX12_sitsAs_0 rfl (lv_at hl 1 rfl) ?_
  refine lv_iconst (v := 3) hx hb dX12_sitsAs_1 ic_3 ?_
  refine lv_icmp_eq (tgt := 10) hx hb dX12_sitsAs_2 (by decide) (fun c => absurd c (by decide)) (fun c => ?_)
  refine lv_iload_n hx hb dX12_sitsAs_5 rfl (lv_at hl 1 rfl) ?_
  refine lv_iconst (v := 5) hx hb dX12_sitsAs_6 ic_5 ?_
  refine lv_icmp_ne (tgt := 25) hx hb dX12_sitsAs_7 (by decide) (fun c => ?_) (fun c => absurd c (by decide))
  refine lv_iload_n hx hb dX12_sitsAs_25 rfl (lv_at hl 1 rfl) ?_
  refine lv_iconst (v := 2) hx hb dX12_sitsAs_26 ic_2 ?_
  refine lv_icmp_ne (tgt := 44) hx hb dX12_sitsAs_27 (by decide) (fun c => ?_) (fun c => absurd c (by decide))
  refine lv_iload_n hx hb dX12_sitsAs_44 rfl (lv_at hl 1 rfl) ?_
  refine lv_bipush (v := 7) hx hb dX12_sitsAs_45 bp_7 ?_
  refine lv_icmp_ne (tgt := 75) hx hb dX12_sitsAs_47 (by decide) (fun c => ?_) (fun c => absurd c (by decide))
  refine lv_aload_n hx hb dX12_sitsAs_75 rfl (lv_at hl 0 rfl) ?_
  refine lv_bipush (v := 10) hx hb dX12_sitsAs_76 bp_10 ?_
  have q_2 : (f 0 48).toInt = 1 := (congrArg Int32.toInt (show f 0 48 = 1 from hf_0_48)).trans (by decide)
  refine sg_callv (va_runV (As := [.int 10]) (rest := []) ⟨hx, hb, hml, hown, hts⟩ (kX12_begins_10_f1 l D ca za h hh f L Q hI hf_0_48 (by have k0 : (10 : Int32).toInt = 10 := ti_10; omega) H.size) (sl_c12_begins_0_0_0_0_12 hts ⟨Nat.le_of_ble_eq_true rfl, Nat.le_of_ble_eq_true rfl⟩) (sl_vM_0 hA hK hP hS hZ) rfl rfl hl.1 rfl (lv_room (Nat.le_of_ble_eq_true rfl)) dX12_sitsAs_78 ⟨Nat.le_refl _, Nat.le_refl _⟩) hA hS (fun f_4 L_5 Q_6 H locs hq hP hS => ?_)
  obtain ⟨⟨hI, hk_f_4, eL9, eQ9⟩, p_7, u_8⟩ := hq
  rw [eL9, eQ9] at hP; clear eL9 eQ9
  have hF : sgK WkX12_sitsAs_0_f1_f2 f f_4 := sgK.tr hF hk_f_4 (by decide +kernel)
  obtain ⟨v_9, ev_9⟩ : ∃ z : Int32, z = f_4 0 48 := ⟨_, rfl⟩
  have q_10 : 0 ≤ v_9.toInt ∧ v_9.toInt ≤ 19 := by rw [ev_9]; exact hI 0 48
  have q_11 : (f_4 0 48).toInt = v_9.toInt := (congrArg Int32.toInt (show f_4 0 48 = v_9 from ev_9.symm))
  refine lv_aload_n hx hb dX12_sitsAs_81 rfl (lv_at hl 0 rfl) ?_
  refine lv_aload_n hx hb dX12_sitsAs_82 rfl (lv_at hl 0 rfl) ?_
  refine sl_gM_0_49_12 (v := 2) hx hb hts hown hK hP (show f_4 0 49 = 2 from ((hk_f_4 0 49 (by decide)).trans hf_0_49)) dX12_sitsAs_83 ?_
  refine lv_iload_n hx hb dX12_sitsAs_86 rfl (lv_at hl 2 rfl) ?_
  have c_13 : v_9 = 2 := Int32.toInt_inj.mp (by have k9 : (2 : Int32).toInt = 2 := ti_2; omega)
  have q_14 : (f_4 0 48).toInt = 2 := (congrArg Int32.toInt (show f_4 0 48 = 2 from (Eq.trans ev_9.symm c_13))).trans (by decide)
  refine sg_calli (va_runV (As := [.int 2, .int x1]) (rest := []) ⟨hx, hb, hml, hown, hts⟩ (kX12_setsAs_2_f2_f2 l D ca za h hh f_4 L Q hI x1 (Eq.trans ev_9.symm c_13) ((hk_f_4 0 49 (by decide)).trans hf_0_49) (by have k0 : (2 : Int32).toInt = 2 := ti_2; omega) H.size) (sl_c12_setsAs_1_0_0_21_12 hts ⟨Nat.le_of_ble_eq_true rfl, Nat.le_of_ble_eq_true rfl⟩) (sl_vM_0 hA hK hP hS hZ) rfl rfl hl.1 rfl (lv_room (Nat.le_of_ble_eq_true rfl)) dX12_sitsAs_87 ⟨Nat.le_refl _, Nat.le_refl _⟩) hA hS (fun r_19 f_16 L_17 Q_18 H locs hq hP hS => ?_)
  obtain ⟨⟨hI, hk_f_16, eL9, eQ9⟩, hq, p_20, u_21⟩ := hq
  rw [eL9, eQ9] at hP; clear eL9 eQ9
  have hF : sgK WkX12_sitsAs_0_f1_f2 f f_16 := sgK.tr hF hk_f_16 (by decide +kernel)
  obtain ⟨v_22, ev_22⟩ : ∃ z : Int32, z = f_16 0 48 := ⟨_, rfl⟩
  have q_23 : 0 ≤ v_22.toInt ∧ v_22.toInt ≤ 19 := by rw [ev_22]; exact hI 0 48
  have q_24 : (f_16 0 48).toInt = v_22.toInt := (congrArg Int32.toInt (show f_16 0 48 = v_22 from ev_22.symm))
  have k_26 : (2 : Int32).toInt = 2 := by decide
  refine lv_iconst (v := 2) hx hb dX12_sitsAs_90 ic_2 ?_
  refine lv_imul hx hb dX12_sitsAs_91 ?_
  refine lv_topi (fun v_27 ev_27 => ?_)
  exact hret _ _ _ _ (v_27) f_16 L Q dX12_sitsAs_92 hP hS ⟨⟨hI, hF, rfl, rfl⟩, trivial, ⟨by omega, by omega⟩, (Eq.trans (Eq.symm (hs.trans ((spl_e u_8 (spl_e ev_9 (spl2_e u_21 (spl_e ev_22 (spl_e ev_27 rfl)))))))) hsp)⟩

abbrev WkX12_sitsAs_2_f0_f2 : List (Nat × Nat × Option Nat) := [(0, 0, some 48), (21, 21, some 0), (21, 21, some 1), (21, 21, some 2)]
set_option maxHeartbeats 4000000 in
set_option maxRecDepth 100000 in
theorem kX12_sitsAs_2_f0_f2 (l : Launch) (D : va_G) (ca : Nat → ClassId) (za h : Nat → Nat) (hh : sgH 26 h) (f : sg_F) (L : sg_L) (Q : sg_Q) (hI : sgI loM hiM f) (x1 : Int32) (hf_0_48 : f 0 48 = 0) (hf_0_49 : f 0 49 = 2) (p0 : 0 ≤ (f 0 48).toInt ∧ (f 0 48).toInt ≤ 0) (sz : Nat) : Met l yX12_sitsAs gwX12_sitsAs { frames := 3, cells := 0, slots := 0, locals := 66 } (sgP D vwCl (tyX ca) 26 h (eM ca h) zcM za f L Q sz [.ref (h 0), .int 2, .int x1]) (sgQi D vwCl 26 h (eM ca h) sz (fun r f1 L1 Q1 => ((sgI loM hiM f1 ∧ sgK WkX12_sitsAs_2_f0_f2 f f1 ∧ L1 = L ∧ Q1 = Q) ∧ True ∧ (3 ≤ (f1 0 48).toInt ∧ (f1 0 48).toInt ≤ 3) ∧ (r, f1) = sX12_sitsAs_2_f0_f2 x1 f L))) 0 0 (sgA 26 h sz) := by
  refine sg_ofWi (cc := cX12_sitsAs) (maxL := 4) RX12 (by decide) rfl rfl (Nat.le_of_ble_eq_true rfl) ?_
  intro p e s m below meth cd Qz ls hx hb hml hown hts hK hZ hP hS hl hret
  have hA := sgY.self (n := 26) (h := h) (sz := s.heap.size)
  have hl : lv_has ls 4 [(0, .ref (h 0)), (1, .int 2), (2, .int x1)] := hl
  obtain ⟨H, hH⟩ : ∃ z : Heap, z = s.heap := ⟨_, rfl⟩
  obtain ⟨locs, hlo⟩ : ∃ z : List Loc, z = [] := ⟨_, rfl⟩
  have hP : va_P D vwCl (sgw 26 h (eM ca h) f L Q) H := by rw [hH]; exact hP
  have hS : va_S (sgA 26 h s.heap.size) s.heap H locs := by rw [hH, hlo]; exact hS
  suffices hgo : W p l e ({ frames := 3, cells := 0, slots := 0, locals := 66 }) s m ([.ref (h 0), .int 2, .int x1] : List Value).toArray below meth cd H locs 0 0 Qz (F0 m 0 ls []) by rw [hH, hlo] at hgo; exact hgo
  clear hH hlo
  obtain ⟨sp, hsp⟩ : ∃ z : Int32 × sg_F, z = sX12_sitsAs_2_f0_f2 x1 f L := ⟨_, rfl⟩
  have hs : sp = sX12_sitsAs_2_f0_f2 x1 f L := hsp
  have o_1 : (f 0 48).toInt = 0 := (congrArg Int32.toInt (show f 0 48 = 0 from hf_0_48)).trans (by decide)
  have hF : sgK WkX12_sitsAs_2_f0_f2 f f := sgK.rf
  refine lv_iload_n hx hb dX12_sitsAs_0 rfl (lv_at hl 1 rfl) ?_
  refine lv_iconst (v := 3) hx hb dX12_sitsAs_1 ic_3 ?_
  refine lv_icmp_eq (tgt := 10) hx hb dX12_sitsAs_2 (by decide) (fun c => absurd c (by decide)) (fun c => ?_)
  refine lv_iload_n hx hb dX12_sitsAs_5 rfl (lv_at hl 1 rfl) ?_
  refine lv_iconst (v := 5) hx hb dX12_sitsAs_6 ic_5 ?_
  refine lv_icmp_ne (tgt := 25) hx hb dX12_sitsAs_7 (by decide) (fun c => ?_) (fun c => absurd c (by decide))
  refine lv_iload_n hx hb dX12_sitsAs_25 rfl (lv_at hl 1 rfl) ?_
  refine lv_iconst (v := 2) hx hb dX12_sitsAs_26 ic_2 ?_
  refine lv_icmp_ne (tgt := 44) hx hb dX12_sitsAs_27 (by decide) (fun c => absurd c (by decide)) (fun c => ?_)
  refine lv_aload_n hx hb dX12_sitsAs_30 rfl (lv_at hl 0 rfl) ?_
  refine lv_bipush (v := 30) hx hb dX12_sitsAs_31 bp_30 ?_
  have q_2 : (f 0 48).toInt = 0 := (congrArg Int32.toInt (show f 0 48 = 0 from hf_0_48)).trans (by decide)
  refine sg_callv (va_runV (As := [.int 30]) (rest := []) ⟨hx, hb, hml, hown, hts⟩ (kX12_begins_30_f0 l D ca za h hh f L Q hI hf_0_48 (by have k0 : (30 : Int32).toInt = 30 := ti_30; omega) H.size) (sl_c12_begins_0_0_0_0_12 hts ⟨Nat.le_of_ble_eq_true rfl, Nat.le_of_ble_eq_true rfl⟩) (sl_vM_0 hA hK hP hS hZ) rfl rfl hl.1 rfl (lv_room (Nat.le_of_ble_eq_true rfl)) dX12_sitsAs_33 ⟨Nat.le_refl _, Nat.le_refl _⟩) hA hS (fun f_4 L_5 Q_6 H locs hq hP hS => ?_)
  obtain ⟨⟨hI, hk_f_4, eL9, eQ9⟩, p_7, u_8⟩ := hq
  rw [eL9, eQ9] at hP; clear eL9 eQ9
  have hF : sgK WkX12_sitsAs_2_f0_f2 f f_4 := sgK.tr hF hk_f_4 (by decide +kernel)
  obtain ⟨v_9, ev_9⟩ : ∃ z : Int32, z = f_4 0 48 := ⟨_, rfl⟩
  have q_10 : 0 ≤ v_9.toInt ∧ v_9.toInt ≤ 19 := by rw [ev_9]; exact hI 0 48
  have q_11 : (f_4 0 48).toInt = v_9.toInt := (congrArg Int32.toInt (show f_4 0 48 = v_9 from ev_9.symm))
  refine lv_aload_n hx hb dX12_sitsAs_36 rfl (lv_at hl 0 rfl) ?_
  refine lv_iconst (v := 0) hx hb dX12_sitsAs_37 ic_0 ?_
  refine lv_iload_n hx hb dX12_sitsAs_38 rfl (lv_at hl 2 rfl) ?_
  have c_13 : v_9 = 1 := Int32.toInt_inj.mp (by have k9 : (1 : Int32).toInt = 1 := ti_1; omega)
  have q_14 : (f_4 0 48).toInt = 1 := (congrArg Int32.toInt (show f_4 0 48 = 1 from (Eq.trans ev_9.symm c_13))).trans (by decide)
  refine sg_calli (va_runV (As := [.int 0, .int x1]) (rest := []) ⟨hx, hb, hml, hown, hts⟩ (kX12_sitsAs_0_f1_f2 l D ca za h hh f_4 L Q hI x1 (Eq.trans ev_9.symm c_13) ((hk_f_4 0 49 (by decide)).trans hf_0_49) (by have k0 : (0 : Int32).toInt = 0 := ti_0; omega) H.size) (sl_c12_sitsAs_2_0_0_43_12 hts ⟨Nat.le_of_ble_eq_true rfl, Nat.le_of_ble_eq_true rfl⟩) (sl_vM_0 hA hK hP hS hZ) rfl rfl hl.1 rfl (lv_room (Nat.le_of_ble_eq_true rfl)) dX12_sitsAs_39 ⟨Nat.le_refl _, Nat.le_refl _⟩) hA hS (fun r_19 f_16 L_17 Q_18 H locs hq hP hS => ?_)
  obtain ⟨⟨hI, hk_f_16, eL9, eQ9⟩, hq, p_20, u_21⟩ := hq
  rw [eL9, eQ9] at hP; clear eL9 eQ9
  have hF : sgK WkX12_sitsAs_2_f0_f2 f f_16 := sgK.tr hF hk_f_16 (by decide +kernel)
  obtain ⟨v_22, ev_22⟩ : ∃ z : Int32, z = f_16 0 48 := ⟨_, rfl⟩
  have q_23 : 0 ≤ v_22.toInt ∧ v_22.toInt ≤ 19 := by rw [ev_22]; exact hI 0 48
  have q_24 : (f_16 0 48).toInt = v_22.toInt := (congrArg Int32.toInt (show f_16 0 48 = v_22 from ev_22.symm))
  have k_26 : (0 : Int32).toInt = 0 := by decide
  refine lv_ineg hx hb dX12_sitsAs_42 ?_
  refine lv_topi (fun v_27 ev_27 => ?_)
  exact hret _ _ _ _ (v_27) f_16 L Q dX12_sitsAs_43 hP hS ⟨⟨hI, hF, rfl, rfl⟩, trivial, ⟨by omega, by omega⟩, (Eq.trans (Eq.symm (hs.trans ((spl_e u_8 (spl_e ev_9 (spl2_e u_21 (spl_e ev_22 (spl_e ev_27 rfl)))))))) hsp)⟩

abbrev WkX12_begins_41_f0 : List (Nat × Nat × Option Nat) := [(0, 0, some 48), (21, 21, some 0)]
set_option maxHeartbeats 4000000 in
set_option maxRecDepth 100000 in
theorem kX12_begins_41_f0 (l : Launch) (D : va_G) (ca : Nat → ClassId) (za h : Nat → Nat) (hh : sgH 26 h) (f : sg_F) (L : sg_L) (Q : sg_Q) (hI : sgI loM hiM f) (hf_0_48 : f 0 48 = 0) (p0 : 0 ≤ (f 0 48).toInt ∧ (f 0 48).toInt ≤ 0) (sz : Nat) : Met l yX12_begins gwX12_begins { frames := 0, cells := 0, slots := 0, locals := 0 } (sgP D vwCl (tyX ca) 26 h (eM ca h) zcM za f L Q sz [.ref (h 0), .int 41]) (sgQv D vwCl 26 h (eM ca h) sz (fun f1 L1 Q1 => ((sgI loM hiM f1 ∧ sgK WkX12_begins_41_f0 f f1 ∧ L1 = L ∧ Q1 = Q) ∧ (1 ≤ (f1 0 48).toInt ∧ (f1 0 48).toInt ≤ 1) ∧ (f1) = sX12_begins_41_f0 f L))) 0 0 (sgA 26 h sz) := by
  refine sg_ofWv (cc := cX12_begins) (maxL := 2) RX12 (by decide) rfl rfl (Nat.le_of_ble_eq_true rfl) ?_
  intro p e s m below meth cd Qz ls hx hb hml hown hts hK hZ hP hS hl hret
  have hA := sgY.self (n := 26) (h := h) (sz := s.heap.size)
  have hl : lv_has ls 2 [(0, .ref (h 0)), (1, .int 41)] := hl
  obtain ⟨H, hH⟩ : ∃ z : Heap, z = s.heap := ⟨_, rfl⟩
  obtain ⟨locs, hlo⟩ : ∃ z : List Loc, z = [] := ⟨_, rfl⟩
  have hP : va_P D vwCl (sgw 26 h (eM ca h) f L Q) H := by rw [hH]; exact hP
  have hS : va_S (sgA 26 h s.heap.size) s.heap H locs := by rw [hH, hlo]; exact hS
  suffices hgo : W p l e ({ frames := 0, cells := 0, slots := 0, locals := 0 }) s m ([.ref (h 0), .int 41] : List Value).toArray below meth cd H locs 0 0 Qz (F0 m 0 ls []) by rw [hH, hlo] at hgo; exact hgo
  clear hH hlo
  obtain ⟨sp, hsp⟩ : ∃ z : sg_F, z = sX12_begins_41_f0 f L := ⟨_, rfl⟩
  have hs : sp = sX12_begins_41_f0 f L := hsp
  have o_1 : (f 0 48).toInt = 0 := (congrArg Int32.toInt (show f 0 48 = 0 from hf_0_48)).trans (by decide)
  have hF : sgK WkX12_begins_41_f0 f f := sgK.rf
  have blk_19 : ∀ (fp_19 : sg_F) (H : Heap) (locs : List Loc) (ls : Array Slot), sp = sX12_begins_41_f0_b19 fp_19 L → 0 ≤ (fp_19 0 48).toInt ∧ (fp_19 0 48).toInt ≤ 0 → sgI loM hiM fp_19 → sgK WkX12_begins_41_f0 f fp_19 → va_P D vwCl (sgw 26 h (eM ca h) fp_19 L Q) H → va_S (sgA 26 h s.heap.size) s.heap H locs → lv_has ls 2 [(0, .ref (h 0))] → W p l e ({ frames := 0, cells := 0, slots := 0, locals := 0 }) s m ([.ref (h 0), .int 41] : List Value).toArray below meth cd H locs 0 0 Qz (F0 m 19 ls []) := by
    intro fp_19 H locs ls hs hy0_19 hI hF hP hS hl
    obtain ⟨v_2, ev_2⟩ : ∃ z : Int32, z = fp_19 0 48 := ⟨_, rfl⟩
    have q_3 : 0 ≤ v_2.toInt ∧ v_2.toInt ≤ 19 := by rw [ev_2]; exact hI 0 48
    have q_4 : (fp_19 0 48).toInt = v_2.toInt := by rw [ev_2]
    refine lv_aload_n hx hb dX12_begins_19 rfl (lv_at hl 0 rfl) ?_
    refine lv_dup hx hb dX12_begins_20 rfl ?_
    refine sl_gM_0_48_12 (v := v_2) hx hb hts hown hK hP (show fp_19 0 48 = v_2 from ev_2.symm) dX12_begins_21 ?_
    refine lv_iconst (v := 1) hx hb dX12_begins_24 ic_1 ?_
    refine lv_iadd hx hb dX12_begins_25 ?_
    refine lv_topi (fun v_5 ev_5 => ?_)
    have q_6 : v_5.toInt = v_2.toInt + 1 := by rw [ev_5]; first | exact cm_add ti_1 (by omega) (by omega) | (have k1 : (1 : Int32).toInt = 1 := ti_1; exact (bn_addI (by omega) (by omega)).trans (by omega))
    refine sl_pM_0_48_12 (x := v_5) hx hb hts hown hh hA hK hP hS dX12_begins_26 (fun f_7 H locs ef_7 hP hS => ?_)
    have hI : sgI loM hiM f_7 := by rw [ef_7]; exact sgI.put hI 0 48 (show 0 ≤ (v_5 : Int32).toInt ∧ (v_5 : Int32).toInt ≤ 19 from ⟨by omega, by omega⟩)
    have hF : sgK WkX12_begins_41_f0 f f_7 := sgK.put hF ef_7 (by rfl)
    have q_8 : (f_7 0 48).toInt = v_5.toInt := (congrArg Int32.toInt (show f_7 0 48 = v_5 from (by rw [ef_7, sg_up_s, sgu_s])))
    exact hret _ _ _ _ f_7 L Q dX12_begins_29 hP hS ⟨⟨hI, hF, rfl, rfl⟩, ⟨by omega, by omega⟩, (Eq.trans (Eq.symm (hs.trans ((spl_e ev_2 (spl_e ev_5 (spl_e ef_7 rfl)))))) hsp)⟩
  refine lv_aload_n hx hb dX12_begins_0 rfl (lv_at hl 0 rfl) ?_
  refine sl_gM_0_48_12 (v := 0) hx hb hts hown hK hP (show f 0 48 = 0 from hf_0_48) dX12_begins_1 ?_
  refine lv_bipush (v := 24) hx hb dX12_begins_4 bp_24 ?_
  refine lv_icmp_ge (tgt := 19) hx hb dX12_begins_6 (by decide) (fun c => absurd c (by decide)) (fun c => ?_)
  refine lv_aload_n hx hb dX12_begins_9 rfl (lv_at hl 0 rfl) ?_
  refine sl_gM_0_47_12 hx hb hts hown hK hP dX12_begins_10 ?_
  refine lv_aload_n hx hb dX12_begins_13 rfl (lv_at hl 0 rfl) ?_
  refine sl_gM_0_48_12 (v := 0) hx hb hts hown hK hP (show f 0 48 = 0 from hf_0_48) dX12_begins_14 ?_
  refine lv_iload_n hx hb dX12_begins_17 rfl (lv_at hl 1 rfl) ?_
  refine sg_iast hx hb hh hA hK hP hS 21 (by decide) 0 (fun _ => rfl) rfl (i := 0) (x := 41) (vp_in_iff.mpr (by decide)) dX12_begins_18 (fun f_10 H locs ef_10 hP hS => ?_)
  have ef_10 : f_10 = sg_up f 21 (sgu (f 21) 0 41) := ef_10
  have hI : sgI loM hiM f_10 := by rw [ef_10]; exact sgI.put hI 21 0 (show 0 ≤ (41 : Int32).toInt ∧ (41 : Int32).toInt ≤ 81 from by decide)
  have hF : sgK WkX12_begins_41_f0 f f_10 := sgK.put hF ef_10 (by rfl)
  exact blk_19 f_10 _ _ _ (hs.trans ((spl_e ef_10 rfl))) (by have zz0_48 : (f_10 0 48).toInt = 0 := (congrArg Int32.toInt (show f_10 0 48 = 0 from (by rw [ef_10, sg_up_n (by decide)]; exact hf_0_48))).trans (by decide); exact ⟨by omega, by omega⟩) hI hF hP hS (lv_sub hl [0] rfl)

abbrev WkX12_begins_30_f1 : List (Nat × Nat × Option Nat) := [(0, 0, some 48), (21, 21, some 1)]
set_option maxHeartbeats 4000000 in
set_option maxRecDepth 100000 in
theorem kX12_begins_30_f1 (l : Launch) (D : va_G) (ca : Nat → ClassId) (za h : Nat → Nat) (hh : sgH 26 h) (f : sg_F) (L : sg_L) (Q : sg_Q) (hI : sgI loM hiM f) (hf_0_48 : f 0 48 = 1) (p0 : 1 ≤ (f 0 48).toInt ∧ (f 0 48).toInt ≤ 1) (sz : Nat) : Met l yX12_begins gwX12_begins { frames := 0, cells := 0, slots := 0, locals := 0 } (sgP D vwCl (tyX ca) 26 h (eM ca h) zcM za f L Q sz [.ref (h 0), .int 30]) (sgQv D vwCl 26 h (eM ca h) sz (fun f1 L1 Q1 => ((sgI loM hiM f1 ∧ sgK WkX12_begins_30_f1 f f1 ∧ L1 = L ∧ Q1 = Q) ∧ (2 ≤ (f1 0 48).toInt ∧ (f1 0 48).toInt ≤ 2) ∧ (f1) = sX12_begins_30_f1 f L))) 0 0 (sgA 26 h sz) := by
  refine sg_ofWv (cc := cX12_begins) (maxL := 2) RX12 (by decide) rfl rfl (Nat.le_of_ble_eq_true rfl) ?_
  intro p e s m below meth cd Qz ls hx hb hml hown hts hK hZ hP hS hl hret
  have hA := sgY.self (n := 26) (h := h) (sz := s.heap.size)
  have hl : lv_has ls 2 [(0, .ref (h 0)), (1, .int 30)] := hl
  obtain ⟨H, hH⟩ : ∃ z : Heap, z = s.heap := ⟨_, rfl⟩
  obtain ⟨locs, hlo⟩ : ∃ z : List Loc, z = [] := ⟨_, rfl⟩
  have hP : va_P D vwCl (sgw 26 h (eM ca h) f L Q) H := by rw [hH]; exact hP
  have hS : va_S (sgA 26 h s.heap.size) s.heap H locs := by rw [hH, hlo]; exact hS
  suffices hgo : W p l e ({ frames := 0, cells := 0, slots := 0, locals := 0 }) s m ([.ref (h 0), .int 30] : List Value).toArray below meth cd H locs 0 0 Qz (F0 m 0 ls []) by rw [hH, hlo] at hgo; exact hgo
  clear hH hlo
  obtain ⟨sp, hsp⟩ : ∃ z : sg_F, z = sX12_begins_30_f1 f L := ⟨_, rfl⟩
  have hs : sp = sX12_begins_30_f1 f L := hsp
  have o_1 : (f 0 48).toInt = 1 := (congrArg Int32.toInt (show f 0 48 = 1 from hf_0_48)).trans (by decide)
  have hF : sgK WkX12_begins_30_f1 f f := sgK.rf
  have blk_19 : ∀ (fp_19 : sg_F) (H : Heap) (locs : List Loc) (ls : Array Slot), sp = sX12_begins_30_f1_b19 fp_19 L → 1 ≤ (fp_19 0 48).toInt ∧ (fp_19 0 48).toInt ≤ 1 → sgI loM hiM fp_19 → sgK WkX12_begins_30_f1 f fp_19 → va_P D vwCl (sgw 26 h (eM ca h) fp_19 L Q) H → va_S (sgA 26 h s.heap.size) s.heap H locs → lv_has ls 2 [(0, .ref (h 0))] → W p l e ({ frames := 0, cells := 0, slots := 0, locals := 0 }) s m ([.ref (h 0), .int 30] : List Value).toArray below meth cd H locs 0 0 Qz (F0 m 19 ls []) := by
    intro fp_19 H locs ls hs hy0_19 hI hF hP hS hl
    obtain ⟨v_2, ev_2⟩ : ∃ z : Int32, z = fp_19 0 48 := ⟨_, rfl⟩
    have q_3 : 0 ≤ v_2.toInt ∧ v_2.toInt ≤ 19 := by rw [ev_2]; exact hI 0 48
    have q_4 : (fp_19 0 48).toInt = v_2.toInt := by rw [ev_2]
    refine lv_aload_n hx hb dX12_begins_19 rfl (lv_at hl 0 rfl) ?_
    refine lv_dup hx hb dX12_begins_20 rfl ?_
    refine sl_gM_0_48_12 (v := v_2) hx hb hts hown hK hP (show fp_19 0 48 = v_2 from ev_2.symm) dX12_begins_21 ?_
    refine lv_iconst (v := 1) hx hb dX12_begins_24 ic_1 ?_
    refine lv_iadd hx hb dX12_begins_25 ?_
    refine lv_topi (fun v_5 ev_5 => ?_)
    have q_6 : v_5.toInt = v_2.toInt + 1 := by rw [ev_5]; first | exact cm_add ti_1 (by omega) (by omega) | (have k1 : (1 : Int32).toInt = 1 := ti_1; exact (bn_addI (by omega) (by omega)).trans (by omega))
    refine sl_pM_0_48_12 (x := v_5) hx hb hts hown hh hA hK hP hS dX12_begins_26 (fun f_7 H locs ef_7 hP hS => ?_)
    have hI : sgI loM hiM f_7 := by rw [ef_7]; exact sgI.put hI 0 48 (show 0 ≤ (v_5 : Int32).toInt ∧ (v_5 : Int32).toInt ≤ 19 from ⟨by omega, by omega⟩)
    have hF : sgK WkX12_begins_30_f1 f f_7 := sgK.put hF ef_7 (by rfl)
    have q_8 : (f_7 0 48).toInt = v_5.toInt := (congrArg Int32.toInt (show f_7 0 48 = v_5 from (by rw [ef_7, sg_up_s, sgu_s])))
    exact hret _ _ _ _ f_7 L Q dX12_begins_29 hP hS ⟨⟨hI, hF, rfl, rfl⟩, ⟨by omega, by omega⟩, (Eq.trans (Eq.symm (hs.trans ((spl_e ev_2 (spl_e ev_5 (spl_e ef_7 rfl)))))) hsp)⟩
  refine lv_aload_n hx hb dX12_begins_0 rfl (lv_at hl 0 rfl) ?_
  refine sl_gM_0_48_12 (v := 1) hx hb hts hown hK hP (show f 0 48 = 1 from hf_0_48) dX12_begins_1 ?_
  refine lv_bipush (v := 24) hx hb dX12_begins_4 bp_24 ?_
  refine lv_icmp_ge (tgt := 19) hx hb dX12_begins_6 (by decide) (fun c => absurd c (by decide)) (fun c => ?_)
  refine lv_aload_n hx hb dX12_begins_9 rfl (lv_at hl 0 rfl) ?_
  refine sl_gM_0_47_12 hx hb hts hown hK hP dX12_begins_10 ?_
  refine lv_aload_n hx hb dX12_begins_13 rfl (lv_at hl 0 rfl) ?_
  refine sl_gM_0_48_12 (v := 1) hx hb hts hown hK hP (show f 0 48 = 1 from hf_0_48) dX12_begins_14 ?_
  refine lv_iload_n hx hb dX12_begins_17 rfl (lv_at hl 1 rfl) ?_
  refine sg_iast hx hb hh hA hK hP hS 21 (by decide) 0 (fun _ => rfl) rfl (i := 1) (x := 30) (vp_in_iff.mpr (by decide)) dX12_begins_18 (fun f_10 H locs ef_10 hP hS => ?_)
  have ef_10 : f_10 = sg_up f 21 (sgu (f 21) 1 30) := ef_10
  have hI : sgI loM hiM f_10 := by rw [ef_10]; exact sgI.put hI 21 1 (show 0 ≤ (30 : Int32).toInt ∧ (30 : Int32).toInt ≤ 81 from by decide)
  have hF : sgK WkX12_begins_30_f1 f f_10 := sgK.put hF ef_10 (by rfl)
  exact blk_19 f_10 _ _ _ (hs.trans ((spl_e ef_10 rfl))) (by have zz0_48 : (f_10 0 48).toInt = 1 := (congrArg Int32.toInt (show f_10 0 48 = 1 from (by rw [ef_10, sg_up_n (by decide)]; exact hf_0_48))).trans (by decide); exact ⟨by omega, by omega⟩) hI hF hP hS (lv_sub hl [0] rfl)

abbrev WkX12_begins_10_f2 : List (Nat × Nat × Option Nat) := [(0, 0, some 48), (21, 21, some 2)]
set_option maxHeartbeats 4000000 in
set_option maxRecDepth 100000 in
theorem kX12_begins_10_f2 (l : Launch) (D : va_G) (ca : Nat → ClassId) (za h : Nat → Nat) (hh : sgH 26 h) (f : sg_F) (L : sg_L) (Q : sg_Q) (hI : sgI loM hiM f) (hf_0_48 : f 0 48 = 2) (p0 : 2 ≤ (f 0 48).toInt ∧ (f 0 48).toInt ≤ 2) (sz : Nat) : Met l yX12_begins gwX12_begins { frames := 0, cells := 0, slots := 0, locals := 0 } (sgP D vwCl (tyX ca) 26 h (eM ca h) zcM za f L Q sz [.ref (h 0), .int 10]) (sgQv D vwCl 26 h (eM ca h) sz (fun f1 L1 Q1 => ((sgI loM hiM f1 ∧ sgK WkX12_begins_10_f2 f f1 ∧ L1 = L ∧ Q1 = Q) ∧ (3 ≤ (f1 0 48).toInt ∧ (f1 0 48).toInt ≤ 3) ∧ (f1) = sX12_begins_10_f2 f L))) 0 0 (sgA 26 h sz) := by
  refine sg_ofWv (cc := cX12_begins) (maxL := 2) RX12 (by decide) rfl rfl (Nat.le_of_ble_eq_true rfl) ?_
  intro p e s m below meth cd Qz ls hx hb hml hown hts hK hZ hP hS hl hret
  have hA := sgY.self (n := 26) (h := h) (sz := s.heap.size)
  have hl : lv_has ls 2 [(0, .ref (h 0)), (1, .int 10)] := hl
  obtain ⟨H, hH⟩ : ∃ z : Heap, z = s.heap := ⟨_, rfl⟩
  obtain ⟨locs, hlo⟩ : ∃ z : List Loc, z = [] := ⟨_, rfl⟩
  have hP : va_P D vwCl (sgw 26 h (eM ca h) f L Q) H := by rw [hH]; exact hP
  have hS : va_S (sgA 26 h s.heap.size) s.heap H locs := by rw [hH, hlo]; exact hS
  suffices hgo : W p l e ({ frames := 0, cells := 0, slots := 0, locals := 0 }) s m ([.ref (h 0), .int 10] : List Value).toArray below meth cd H locs 0 0 Qz (F0 m 0 ls []) by rw [hH, hlo] at hgo; exact hgo
  clear hH hlo
  obtain ⟨sp, hsp⟩ : ∃ z : sg_F, z = sX12_begins_10_f2 f L := ⟨_, rfl⟩
  have hs : sp = sX12_begins_10_f2 f L := hsp
  have o_1 : (f 0 48).toInt = 2 := (congrArg Int32.toInt (show f 0 48 = 2 from hf_0_48)).trans (by decide)
  have hF : sgK WkX12_begins_10_f2 f f := sgK.rf
  have blk_19 : ∀ (fp_19 : sg_F) (H : Heap) (locs : List Loc) (ls : Array Slot), sp = sX12_begins_10_f2_b19 fp_19 L → 2 ≤ (fp_19 0 48).toInt ∧ (fp_19 0 48).toInt ≤ 2 → sgI loM hiM fp_19 → sgK WkX12_begins_10_f2 f fp_19 → va_P D vwCl (sgw 26 h (eM ca h) fp_19 L Q) H → va_S (sgA 26 h s.heap.size) s.heap H locs → lv_has ls 2 [(0, .ref (h 0))] → W p l e ({ frames := 0, cells := 0, slots := 0, locals := 0 }) s m ([.ref (h 0), .int 10] : List Value).toArray below meth cd H locs 0 0 Qz (F0 m 19 ls []) := by
    intro fp_19 H locs ls hs hy0_19 hI hF hP hS hl
    obtain ⟨v_2, ev_2⟩ : ∃ z : Int32, z = fp_19 0 48 := ⟨_, rfl⟩
    have q_3 : 0 ≤ v_2.toInt ∧ v_2.toInt ≤ 19 := by rw [ev_2]; exact hI 0 48
    have q_4 : (fp_19 0 48).toInt = v_2.toInt := by rw [ev_2]
    refine lv_aload_n hx hb dX12_begins_19 rfl (lv_at hl 0 rfl) ?_
    refine lv_dup hx hb dX12_begins_20 rfl ?_
    refine sl_gM_0_48_12 (v := v_2) hx hb hts hown hK hP (show fp_19 0 48 = v_2 from ev_2.symm) dX12_begins_21 ?_
    refine lv_iconst (v := 1) hx hb dX12_begins_24 ic_1 ?_
    refine lv_iadd hx hb dX12_begins_25 ?_
    refine lv_topi (fun v_5 ev_5 => ?_)
    have q_6 : v_5.toInt = v_2.toInt + 1 := by rw [ev_5]; first | exact cm_add ti_1 (by omega) (by omega) | (have k1 : (1 : Int32).toInt = 1 := ti_1; exact (bn_addI (by omega) (by omega)).trans (by omega))
    refine sl_pM_0_48_12 (x := v_5) hx hb hts hown hh hA hK hP hS dX12_begins_26 (fun f_7 H locs ef_7 hP hS => ?_)
    have hI : sgI loM hiM f_7 := by rw [ef_7]; exact sgI.put hI 0 48 (show 0 ≤ (v_5 : Int32).toInt ∧ (v_5 : Int32).toInt ≤ 19 from ⟨by omega, by omega⟩)
    have hF : sgK WkX12_begins_10_f2 f f_7 := sgK.put hF ef_7 (by rfl)
    have q_8 : (f_7 0 48).toInt = v_5.toInt := (congrArg Int32.toInt (show f_7 0 48 = v_5 from (by rw [ef_7, sg_up_s, sgu_s])))
    exact hret _ _ _ _ f_7 L Q dX12_begins_29 hP hS ⟨⟨hI, hF, rfl, rfl⟩, ⟨by omega, by omega⟩, (Eq.trans (Eq.symm (hs.trans ((spl_e ev_2 (spl_e ev_5 (spl_e ef_7 rfl)))))) hsp)⟩
  refine lv_aload_n hx hb dX12_begins_0 rfl (lv_at hl 0 rfl) ?_
  refine sl_gM_0_48_12 (v := 2) hx hb hts hown hK hP (show f 0 48 = 2 from hf_0_48) dX12_begins_1 ?_
  refine lv_bipush (v := 24) hx hb dX12_begins_4 bp_24 ?_
  refine lv_icmp_ge (tgt := 19) hx hb dX12_begins_6 (by decide) (fun c => absurd c (by decide)) (fun c => ?_)
  refine lv_aload_n hx hb dX12_begins_9 rfl (lv_at hl 0 rfl) ?_
  refine sl_gM_0_47_12 hx hb hts hown hK hP dX12_begins_10 ?_
  refine lv_aload_n hx hb dX12_begins_13 rfl (lv_at hl 0 rfl) ?_
  refine sl_gM_0_48_12 (v := 2) hx hb hts hown hK hP (show f 0 48 = 2 from hf_0_48) dX12_begins_14 ?_
  refine lv_iload_n hx hb dX12_begins_17 rfl (lv_at hl 1 rfl) ?_
  refine sg_iast hx hb hh hA hK hP hS 21 (by decide) 0 (fun _ => rfl) rfl (i := 2) (x := 10) (vp_in_iff.mpr (by decide)) dX12_begins_18 (fun f_10 H locs ef_10 hP hS => ?_)
  have ef_10 : f_10 = sg_up f 21 (sgu (f 21) 2 10) := ef_10
  have hI : sgI loM hiM f_10 := by rw [ef_10]; exact sgI.put hI 21 2 (show 0 ≤ (10 : Int32).toInt ∧ (10 : Int32).toInt ≤ 81 from by decide)
  have hF : sgK WkX12_begins_10_f2 f f_10 := sgK.put hF ef_10 (by rfl)
  exact blk_19 f_10 _ _ _ (hs.trans ((spl_e ef_10 rfl))) (by have zz0_48 : (f_10 0 48).toInt = 2 := (congrArg Int32.toInt (show f_10 0 48 = 2 from (by rw [ef_10, sg_up_n (by decide)]; exact hf_0_48))).trans (by decide); exact ⟨by omega, by omega⟩) hI hF hP hS (lv_sub hl [0] rfl)

abbrev WkX12_begins_1_f3 : List (Nat × Nat × Option Nat) := [(0, 0, some 48), (21, 21, some 3)]
set_option maxHeartbeats 4000000 in
set_option maxRecDepth 100000 in
theorem kX12_begins_1_f3 (l : Launch) (D : va_G) (ca : Nat → ClassId) (za h : Nat → Nat) (hh : sgH 26 h) (f : sg_F) (L : sg_L) (Q : sg_Q) (hI : sgI loM hiM f) (hf_0_48 : f 0 48 = 3) (p0 : 3 ≤ (f 0 48).toInt ∧ (f 0 48).toInt ≤ 3) (sz : Nat) : Met l yX12_begins gwX12_begins { frames := 0, cells := 0, slots := 0, locals := 0 } (sgP D vwCl (tyX ca) 26 h (eM ca h) zcM za f L Q sz [.ref (h 0), .int 1]) (sgQv D vwCl 26 h (eM ca h) sz (fun f1 L1 Q1 => ((sgI loM hiM f1 ∧ sgK WkX12_begins_1_f3 f f1 ∧ L1 = L ∧ Q1 = Q) ∧ (4 ≤ (f1 0 48).toInt ∧ (f1 0 48).toInt ≤ 4) ∧ (f1) = sX12_begins_1_f3 f L))) 0 0 (sgA 26 h sz) := by
  refine sg_ofWv (cc := cX12_begins) (maxL := 2) RX12 (by decide) rfl rfl (Nat.le_of_ble_eq_true rfl) ?_
  intro p e s m below meth cd Qz ls hx hb hml hown hts hK hZ hP hS hl hret
  have hA := sgY.self (n := 26) (h := h) (sz := s.heap.size)
  have hl : lv_has ls 2 [(0, .ref (h 0)), (1, .int 1)] := hl
  obtain ⟨H, hH⟩ : ∃ z : Heap, z = s.heap := ⟨_, rfl⟩
  obtain ⟨locs, hlo⟩ : ∃ z : List Loc, z = [] := ⟨_, rfl⟩
  have hP : va_P D vwCl (sgw 26 h (eM ca h) f L Q) H := by rw [hH]; exact hP
  have hS : va_S (sgA 26 h s.heap.size) s.heap H locs := by rw [hH, hlo]; exact hS
  suffices hgo : W p l e ({ frames := 0, cells := 0, slots := 0, locals := 0 }) s m ([.ref (h 0), .int 1] : List Value).toArray below meth cd H locs 0 0 Qz (F0 m 0 ls []) by rw [hH, hlo] at hgo; exact hgo
  clear hH hlo
  obtain ⟨sp, hsp⟩ : ∃ z : sg_F, z = sX12_begins_1_f3 f L := ⟨_, rfl⟩
  have hs : sp = sX12_begins_1_f3 f L := hsp
  have o_1 : (f 0 48).toInt = 3 := (congrArg Int32.toInt (show f 0 48 = 3 from hf_0_48)).trans (by decide)
  have hF : sgK WkX12_begins_1_f3 f f := sgK.rf
  have blk_19 : ∀ (fp_19 : sg_F) (H : Heap) (locs : List Loc) (ls : Array Slot), sp = sX12_begins_1_f3_b19 fp_19 L → 3 ≤ (fp_19 0 48).toInt ∧ (fp_19 0 48).toInt ≤ 3 → sgI loM hiM fp_19 → sgK WkX12_begins_1_f3 f fp_19 → va_P D vwCl (sgw 26 h (eM ca h) fp_19 L Q) H → va_S (sgA 26 h s.heap.size) s.heap H locs → lv_has ls 2 [(0, .ref (h 0))] → W p l e ({ frames := 0, cells := 0, slots := 0, locals := 0 }) s m ([.ref (h 0), .int 1] : List Value).toArray below meth cd H locs 0 0 Qz (F0 m 19 ls []) := by
    intro fp_19 H locs ls hs hy0_19 hI hF hP hS hl
    obtain ⟨v_2, ev_2⟩ : ∃ z : Int32, z = fp_19 0 48 := ⟨_, rfl⟩
    have q_3 : 0 ≤ v_2.toInt ∧ v_2.toInt ≤ 19 := by rw [ev_2]; exact hI 0 48
    have q_4 : (fp_19 0 48).toInt = v_2.toInt := by rw [ev_2]
    refine lv_aload_n hx hb dX12_begins_19 rfl (lv_at hl 0 rfl) ?_
    refine lv_dup hx hb dX12_begins_20 rfl ?_
    refine sl_gM_0_48_12 (v := v_2) hx hb hts hown hK hP (show fp_19 0 48 = v_2 from ev_2.symm) dX12_begins_21 ?_
    refine lv_iconst (v := 1) hx hb dX12_begins_24 ic_1 ?_
    refine lv_iadd hx hb dX12_begins_25 ?_
    refine lv_topi (fun v_5 ev_5 => ?_)
    have q_6 : v_5.toInt = v_2.toInt + 1 := by rw [ev_5]; first | exact cm_add ti_1 (by omega) (by omega) | (have k1 : (1 : Int32).toInt = 1 := ti_1; exact (bn_addI (by omega) (by omega)).trans (by omega))
    refine sl_pM_0_48_12 (x := v_5) hx hb hts hown hh hA hK hP hS dX12_begins_26 (fun f_7 H locs ef_7 hP hS => ?_)
    have hI : sgI loM hiM f_7 := by rw [ef_7]; exact sgI.put hI 0 48 (show 0 ≤ (v_5 : Int32).toInt ∧ (v_5 : Int32).toInt ≤ 19 from ⟨by omega, by omega⟩)
    have hF : sgK WkX12_begins_1_f3 f f_7 := sgK.put hF ef_7 (by rfl)
    have q_8 : (f_7 0 48).toInt = v_5.toInt := (congrArg Int32.toInt (show f_7 0 48 = v_5 from (by rw [ef_7, sg_up_s, sgu_s])))
    exact hret _ _ _ _ f_7 L Q dX12_begins_29 hP hS ⟨⟨hI, hF, rfl, rfl⟩, ⟨by omega, by omega⟩, (Eq.trans (Eq.symm (hs.trans ((spl_e ev_2 (spl_e ev_5 (spl_e ef_7 rfl)))))) hsp)⟩
  refine lv_aload_n hx hb dX12_begins_0 rfl (lv_at hl 0 rfl) ?_
  refine sl_gM_0_48_12 (v := 3) hx hb hts hown hK hP (show f 0 48 = 3 from hf_0_48) dX12_begins_1 ?_
  refine lv_bipush (v := 24) hx hb dX12_begins_4 bp_24 ?_
  refine lv_icmp_ge (tgt := 19) hx hb dX12_begins_6 (by decide) (fun c => absurd c (by decide)) (fun c => ?_)
  refine lv_aload_n hx hb dX12_begins_9 rfl (lv_at hl 0 rfl) ?_
  refine sl_gM_0_47_12 hx hb hts hown hK hP dX12_begins_10 ?_
  refine lv_aload_n hx hb dX12_begins_13 rfl (lv_at hl 0 rfl) ?_
  refine sl_gM_0_48_12 (v := 3) hx hb hts hown hK hP (show f 0 48 = 3 from hf_0_48) dX12_begins_14 ?_
  refine lv_iload_n hx hb dX12_begins_17 rfl (lv_at hl 1 rfl) ?_
  refine sg_iast hx hb hh hA hK hP hS 21 (by decide) 0 (fun _ => rfl) rfl (i := 3) (x := 1) (vp_in_iff.mpr (by decide)) dX12_begins_18 (fun f_10 H locs ef_10 hP hS => ?_)
  have ef_10 : f_10 = sg_up f 21 (sgu (f 21) 3 1) := ef_10
  have hI : sgI loM hiM f_10 := by rw [ef_10]; exact sgI.put hI 21 3 (show 0 ≤ (1 : Int32).toInt ∧ (1 : Int32).toInt ≤ 81 from by decide)
  have hF : sgK WkX12_begins_1_f3 f f_10 := sgK.put hF ef_10 (by rfl)
  exact blk_19 f_10 _ _ _ (hs.trans ((spl_e ef_10 rfl))) (by have zz0_48 : (f_10 0 48).toInt = 3 := (congrArg Int32.toInt (show f_10 0 48 = 3 from (by rw [ef_10, sg_up_n (by decide)]; exact hf_0_48))).trans (by decide); exact ⟨by omega, by omega⟩) hI hF hP hS (lv_sub hl [0] rfl)

abbrev WkX12_setsAs_3_f3_f3 : List (Nat × Nat × Option Nat) := [(0, 0, some 48), (21, 21, some 3)]
set_option maxHeartbeats 4000000 in
set_option maxRecDepth 100000 in
theorem kX12_setsAs_3_f3_f3 (l : Launch) (D : va_G) (ca : Nat → ClassId) (za h : Nat → Nat) (hh : sgH 26 h) (f : sg_F) (L : sg_L) (Q : sg_Q) (hI : sgI loM hiM f) (x1 : Int32) (hf_0_48 : f 0 48 = 3) (hf_0_49 : f 0 49 = 3) (p0 : 3 ≤ (f 0 48).toInt ∧ (f 0 48).toInt ≤ 3) (sz : Nat) : Met l yX12_setsAs gwX12_setsAs { frames := 1, cells := 0, slots := 0, locals := 21 } (sgP D vwCl (tyX ca) 26 h (eM ca h) zcM za f L Q sz [.ref (h 0), .int 3, .int x1]) (sgQi D vwCl 26 h (eM ca h) sz (fun r f1 L1 Q1 => ((sgI loM hiM f1 ∧ sgK WkX12_setsAs_3_f3_f3 f f1 ∧ L1 = L ∧ Q1 = Q) ∧ True ∧ (4 ≤ (f1 0 48).toInt ∧ (f1 0 48).toInt ≤ 4) ∧ (r, f1) = sX12_setsAs_3_f3_f3 x1 f L))) 0 0 (sgA 26 h sz) := by
  refine sg_ofWi (cc := cX12_setsAs) (maxL := 3) RX12 (by decide) rfl rfl (Nat.le_of_ble_eq_true rfl) ?_
  intro p e s m below meth cd Qz ls hx hb hml hown hts hK hZ hP hS hl hret
  have hA := sgY.self (n := 26) (h := h) (sz := s.heap.size)
  have hl : lv_has ls 3 [(0, .ref (h 0)), (1, .int 3), (2, .int x1)] := hl
  obtain ⟨H, hH⟩ : ∃ z : Heap, z = s.heap := ⟨_, rfl⟩
  obtain ⟨locs, hlo⟩ : ∃ z : List Loc, z = [] := ⟨_, rfl⟩
  have hP : va_P D vwCl (sgw 26 h (eM ca h) f L Q) H := by rw [hH]; exact hP
  have hS : va_S (sgA 26 h s.heap.size) s.heap H locs := by rw [hH, hlo]; exact hS
  suffices hgo : W p l e ({ frames := 1, cells := 0, slots := 0, locals := 21 }) s m ([.ref (h 0), .int 3, .int x1] : List Value).toArray below meth cd H locs 0 0 Qz (F0 m 0 ls []) by rw [hH, hlo] at hgo; exact hgo
  clear hH hlo
  obtain ⟨sp, hsp⟩ : ∃ z : Int32 × sg_F, z = sX12_setsAs_3_f3_f3 x1 f L := ⟨_, rfl⟩
  have hs : sp = sX12_setsAs_3_f3_f3 x1 f L := hsp
  have o_1 : (f 0 48).toInt = 3 := (congrArg Int32.toInt (show f 0 48 = 3 from hf_0_48)).trans (by decide)
  have hF : sgK WkX12_setsAs_3_f3_f3 f f := sgK.rf
  refine lv_iload_n hx hb dX12_setsAs_0 rfl (lv_at hl 1 rfl) ?_
  refine lv_iconst (v := 1) hx hb dX12_setsAs_1 ic_1 ?_
  refine lv_icmp_eq (tgt := 16) hx hb dX12_setsAs_2 (by decide) (fun c => absurd c (by decide)) (fun c => ?_)
  refine lv_iload_n hx hb dX12_setsAs_5 rfl (lv_at hl 1 rfl) ?_
  refine lv_iconst (v := 4) hx hb dX12_setsAs_6 ic_4 ?_
  refine lv_icmp_eq (tgt := 16) hx hb dX12_setsAs_7 (by decide) (fun c => absurd c (by decide)) (fun c => ?_)
  refine lv_iload_n hx hb dX12_setsAs_10 rfl (lv_at hl 1 rfl) ?_
  refine lv_bipush (v := 7) hx hb dX12_setsAs_11 bp_7 ?_
  refine lv_icmp_ne (tgt := 31) hx hb dX12_setsAs_13 (by decide) (fun c => ?_) (fun c => absurd c (by decide))
  refine lv_iload_n hx hb dX12_setsAs_31 rfl (lv_at hl 1 rfl) ?_
  refine lv_bipush (v := 6) hx hb dX12_setsAs_32 bp_6 ?_
  refine lv_icmp_ne (tgt := 52) hx hb dX12_setsAs_34 (by decide) (fun c => ?_) (fun c => absurd c (by decide))
  refine lv_aload_n hx hb dX12_setsAs_52 rfl (lv_at hl 0 rfl) ?_
  refine lv_iconst (v := 1) hx hb dX12_setsAs_53 ic_1 ?_
  have q_2 : (f 0 48).toInt = 3 := (congrArg Int32.toInt (show f 0 48 = 3 from hf_0_48)).trans (by decide)
  refine sg_callv (va_runV (As := [.int 1]) (rest := []) ⟨hx, hb, hml, hown, hts⟩ (kX12_begins_1_f3 l D ca za h hh f L Q hI hf_0_48 (by have k0 : (1 : Int32).toInt = 1 := ti_1; omega) H.size) (sl_c12_begins_0_0_0_0_12 hts ⟨Nat.le_of_ble_eq_true rfl, Nat.le_of_ble_eq_true rfl⟩) (sl_vM_0 hA hK hP hS hZ) rfl rfl hl.1 rfl (lv_room (Nat.le_of_ble_eq_true rfl)) dX12_setsAs_54 ⟨Nat.le_refl _, Nat.le_refl _⟩) hA hS (fun f_4 L_5 Q_6 H locs hq hP hS => ?_)
  obtain ⟨⟨hI, hk_f_4, eL9, eQ9⟩, p_7, u_8⟩ := hq
  rw [eL9, eQ9] at hP; clear eL9 eQ9
  have hF : sgK WkX12_setsAs_3_f3_f3 f f_4 := sgK.tr hF hk_f_4 (by decide +kernel)
  obtain ⟨v_9, ev_9⟩ : ∃ z : Int32, z = f_4 0 48 := ⟨_, rfl⟩
  have q_10 : 0 ≤ v_9.toInt ∧ v_9.toInt ≤ 19 := by rw [ev_9]; exact hI 0 48
  have q_11 : (f_4 0 48).toInt = v_9.toInt := (congrArg Int32.toInt (show f_4 0 48 = v_9 from ev_9.symm))
  refine lv_iload_n hx hb dX12_setsAs_57 rfl (lv_at hl 2 rfl) ?_
  refine lv_aload_n hx hb dX12_setsAs_58 rfl (lv_at hl 0 rfl) ?_
  refine sl_gM_0_50_12 (v := (f_4 0 50)) hx hb hts hown hK hP rfl dX12_setsAs_59 ?_
  refine lv_topi (fun v_13 ev_13 => ?_)
  have q_14 : 0 ≤ v_13.toInt ∧ v_13.toInt ≤ 49 := by rw [ev_13]; exact hI 0 50
  refine lv_iadd hx hb dX12_setsAs_62 ?_
  refine lv_topi (fun v_15 ev_15 => ?_)
  exact hret _ _ _ _ (v_15) f_4 L Q dX12_setsAs_63 hP hS ⟨⟨hI, hF, rfl, rfl⟩, trivial, ⟨by omega, by omega⟩, (Eq.trans (Eq.symm (hs.trans ((spl_e u_8 (spl_e ev_9 (spl_e ev_13 (spl_e ev_15 rfl))))))) hsp)⟩

abbrev WkX12_sitsAs_0_f2_f3 : List (Nat × Nat × Option Nat) := [(0, 0, some 48), (21, 21, some 2), (21, 21, some 3)]
set_option maxHeartbeats 4000000 in
set_option maxRecDepth 100000 in
theorem kX12_sitsAs_0_f2_f3 (l : Launch) (D : va_G) (ca : Nat → ClassId) (za h : Nat → Nat) (hh : sgH 26 h) (f : sg_F) (L : sg_L) (Q : sg_Q) (hI : sgI loM hiM f) (x1 : Int32) (hf_0_48 : f 0 48 = 2) (hf_0_49 : f 0 49 = 3) (p0 : 2 ≤ (f 0 48).toInt ∧ (f 0 48).toInt ≤ 2) (sz : Nat) : Met l yX12_sitsAs gwX12_sitsAs { frames := 2, cells := 0, slots := 0, locals := 43 } (sgP D vwCl (tyX ca) 26 h (eM ca h) zcM za f L Q sz [.ref (h 0), .int 0, .int x1]) (sgQi D vwCl 26 h (eM ca h) sz (fun r f1 L1 Q1 => ((sgI loM hiM f1 ∧ sgK WkX12_sitsAs_0_f2_f3 f f1 ∧ L1 = L ∧ Q1 = Q) ∧ True ∧ (4 ≤ (f1 0 48).toInt ∧ (f1 0 48).toInt ≤ 4) ∧ (r, f1) = sX12_sitsAs_0_f2_f3 x1 f L))) 0 0 (sgA 26 h sz) := by
  refine sg_ofWi (cc := cX12_sitsAs) (maxL := 4) RX12 (by decide) rfl rfl (Nat.le_of_ble_eq_true rfl) ?_
  intro p e s m below meth cd Qz ls hx hb hml hown hts hK hZ hP hS hl hret
  have hA := sgY.self (n := 26) (h := h) (sz := s.heap.size)
  have hl : lv_has ls 4 [(0, .ref (h 0)), (1, .int 0), (2, .int x1)] := hl
  obtain ⟨H, hH⟩ : ∃ z : Heap, z = s.heap := ⟨_, rfl⟩
  obtain ⟨locs, hlo⟩ : ∃ z : List Loc, z = [] := ⟨_, rfl⟩
  have hP : va_P D vwCl (sgw 26 h (eM ca h) f L Q) H := by rw [hH]; exact hP
  have hS : va_S (sgA 26 h s.heap.size) s.heap H locs := by rw [hH, hlo]; exact hS
  suffices hgo : W p l e ({ frames := 2, cells := 0, slots := 0, locals := 43 }) s m ([.ref (h 0), .int 0, .int x1] : List Value).toArray below meth cd H locs 0 0 Qz (F0 m 0 ls []) by rw [hH, hlo] at hgo; exact hgo
  clear hH hlo
  obtain ⟨sp, hsp⟩ : ∃ z : Int32 × sg_F, z = sX12_sitsAs_0_f2_f3 x1 f L := ⟨_, rfl⟩
  have hs : sp = sX12_sitsAs_0_f2_f3 x1 f L := hsp
  have o_1 : (f 0 48).toInt = 2 := (congrArg Int32.toInt (show f 0 48 = 2 from hf_0_48)).trans (by decide)
  have hF : sgK WkX12_sitsAs_0_f2_f3 f f := sgK.rf
  refine lv_iload_n hx hb dX12_sitsAs_0 rfl (lv_at hl 1 rfl) ?_
  refine lv_iconst (v := 3) hx hb dX12_sitsAs_1 ic_3 ?_
  refine lv_icmp_eq (tgt := 10) hx hb dX12_sitsAs_2 (by decide) (fun c => absurd c (by decide)) (fun c => ?_)
  refine lv_iload_n hx hb dX12_sitsAs_5 rfl (lv_at hl 1 rfl) ?_
  refine lv_iconst (v := 5) hx hb dX12_sitsAs_6 ic_5 ?_
  refine lv_icmp_ne (tgt := 25) hx hb dX12_sitsAs_7 (by decide) (fun c => ?_) (fun c => absurd c (by decide))
  refine lv_iload_n hx hb dX12_sitsAs_25 rfl (lv_at hl 1 rfl) ?_
  refine lv_iconst (v := 2) hx hb dX12_sitsAs_26 ic_2 ?_
  refine lv_icmp_ne (tgt := 44) hx hb dX12_sitsAs_27 (by decide) (fun c => ?_) (fun c => absurd c (by decide))
  refine lv_iload_n hx hb dX12_sitsAs_44 rfl (lv_at hl 1 rfl) ?_
  refine lv_bipush (v := 7) hx hb dX12_sitsAs_45 bp_7 ?_
  refine lv_icmp_ne (tgt := 75) hx hb dX12_sitsAs_47 (by decide) (fun c => ?_) (fun c => absurd c (by decide))
  refine lv_aload_n hx hb dX12_sitsAs_75 rfl (lv_at hl 0 rfl) ?_
  refine lv_bipush (v := 10) hx hb dX12_sitsAs_76 bp_10 ?_
  have q_2 : (f 0 48).toInt = 2 := (congrArg Int32.toInt (show f 0 48 = 2 from hf_0_48)).trans (by decide)
  refine sg_callv (va_runV (As := [.int 10]) (rest := []) ⟨hx, hb, hml, hown, hts⟩ (kX12_begins_10_f2 l D ca za h hh f L Q hI hf_0_48 (by have k0 : (10 : Int32).toInt = 10 := ti_10; omega) H.size) (sl_c12_begins_0_0_0_0_12 hts ⟨Nat.le_of_ble_eq_true rfl, Nat.le_of_ble_eq_true rfl⟩) (sl_vM_0 hA hK hP hS hZ) rfl rfl hl.1 rfl (lv_room (Nat.le_of_ble_eq_true rfl)) dX12_sitsAs_78 ⟨Nat.le_refl _, Nat.le_refl _⟩) hA hS (fun f_4 L_5 Q_6 H locs hq hP hS => ?_)
  obtain ⟨⟨hI, hk_f_4, eL9, eQ9⟩, p_7, u_8⟩ := hq
  rw [eL9, eQ9] at hP; clear eL9 eQ9
  have hF : sgK WkX12_sitsAs_0_f2_f3 f f_4 := sgK.tr hF hk_f_4 (by decide +kernel)
  obtain ⟨v_9, ev_9⟩ : ∃ z : Int32, z = f_4 0 48 := ⟨_, rfl⟩
  have q_10 : 0 ≤ v_9.toInt ∧ v_9.toInt ≤ 19 := by rw [ev_9]; exact hI 0 48
  have q_11 : (f_4 0 48).toInt = v_9.toInt := (congrArg Int32.toInt (show f_4 0 48 = v_9 from ev_9.symm))
  refine lv_aload_n hx hb dX12_sitsAs_81 rfl (lv_at hl 0 rfl) ?_
  refine lv_aload_n hx hb dX12_sitsAs_82 rfl (lv_at hl 0 rfl) ?_
  refine sl_gM_0_49_12 (v := 3) hx hb hts hown hK hP (show f_4 0 49 = 3 from ((hk_f_4 0 49 (by decide)).trans hf_0_49)) dX12_sitsAs_83 ?_
  refine lv_iload_n hx hb dX12_sitsAs_86 rfl (lv_at hl 2 rfl) ?_
  have c_13 : v_9 = 3 := Int32.toInt_inj.mp (by have k9 : (3 : Int32).toInt = 3 := ti_3; omega)
  have q_14 : (f_4 0 48).toInt = 3 := (congrArg Int32.toInt (show f_4 0 48 = 3 from (Eq.trans ev_9.symm c_13))).trans (by decide)
  refine sg_calli (va_runV (As := [.int 3, .int x1]) (rest := []) ⟨hx, hb, hml, hown, hts⟩ (kX12_setsAs_3_f3_f3 l D ca za h hh f_4 L Q hI x1 (Eq.trans ev_9.symm c_13) ((hk_f_4 0 49 (by decide)).trans hf_0_49) (by have k0 : (3 : Int32).toInt = 3 := ti_3; omega) H.size) (sl_c12_setsAs_1_0_0_21_12 hts ⟨Nat.le_of_ble_eq_true rfl, Nat.le_of_ble_eq_true rfl⟩) (sl_vM_0 hA hK hP hS hZ) rfl rfl hl.1 rfl (lv_room (Nat.le_of_ble_eq_true rfl)) dX12_sitsAs_87 ⟨Nat.le_refl _, Nat.le_refl _⟩) hA hS (fun r_19 f_16 L_17 Q_18 H locs hq hP hS => ?_)
  obtain ⟨⟨hI, hk_f_16, eL9, eQ9⟩, hq, p_20, u_21⟩ := hq
  rw [eL9, eQ9] at hP; clear eL9 eQ9
  have hF : sgK WkX12_sitsAs_0_f2_f3 f f_16 := sgK.tr hF hk_f_16 (by decide +kernel)
  obtain ⟨v_22, ev_22⟩ : ∃ z : Int32, z = f_16 0 48 := ⟨_, rfl⟩
  have q_23 : 0 ≤ v_22.toInt ∧ v_22.toInt ≤ 19 := by rw [ev_22]; exact hI 0 48
  have q_24 : (f_16 0 48).toInt = v_22.toInt := (congrArg Int32.toInt (show f_16 0 48 = v_22 from ev_22.symm))
  have k_26 : (3 : Int32).toInt = 3 := by decide
  refine lv_iconst (v := 2) hx hb dX12_sitsAs_90 ic_2 ?_
  refine lv_imul hx hb dX12_sitsAs_91 ?_
  refine lv_topi (fun v_27 ev_27 => ?_)
  exact hret _ _ _ _ (v_27) f_16 L Q dX12_sitsAs_92 hP hS ⟨⟨hI, hF, rfl, rfl⟩, trivial, ⟨by omega, by omega⟩, (Eq.trans (Eq.symm (hs.trans ((spl_e u_8 (spl_e ev_9 (spl2_e u_21 (spl_e ev_22 (spl_e ev_27 rfl)))))))) hsp)⟩

abbrev WkX12_sitsAs_2_f1_f3 : List (Nat × Nat × Option Nat) := [(0, 0, some 48), (21, 21, some 1), (21, 21, some 2), (21, 21, some 3)]
set_option maxHeartbeats 4000000 in
set_option maxRecDepth 100000 in
theorem kX12_sitsAs_2_f1_f3 (l : Launch) (D : va_G) (ca : Nat → ClassId) (za h : Nat → Nat) (hh : sgH 26 h) (f : sg_F) (L : sg_L) (Q : sg_Q) (hI : sgI loM hiM f) (x1 : Int32) (hf_0_48 : f 0 48 = 1) (hf_0_49 : f 0 49 = 3) (p0 : 1 ≤ (f 0 48).toInt ∧ (f 0 48).toInt ≤ 1) (sz : Nat) : Met l yX12_sitsAs gwX12_sitsAs { frames := 3, cells := 0, slots := 0, locals := 66 } (sgP D vwCl (tyX ca) 26 h (eM ca h) zcM za f L Q sz [.ref (h 0), .int 2, .int x1]) (sgQi D vwCl 26 h (eM ca h) sz (fun r f1 L1 Q1 => ((sgI loM hiM f1 ∧ sgK WkX12_sitsAs_2_f1_f3 f f1 ∧ L1 = L ∧ Q1 = Q) ∧ True ∧ (4 ≤ (f1 0 48).toInt ∧ (f1 0 48).toInt ≤ 4) ∧ (r, f1) = sX12_sitsAs_2_f1_f3 x1 f L))) 0 0 (sgA 26 h sz) := by
  refine sg_ofWi (cc := cX12_sitsAs) (maxL := 4) RX12 (by decide) rfl rfl (Nat.le_of_ble_eq_true rfl) ?_
  intro p e s m below meth cd Qz ls hx hb hml hown hts hK hZ hP hS hl hret
  have hA := sgY.self (n := 26) (h := h) (sz := s.heap.size)
  have hl : lv_has ls 4 [(0, .ref (h 0)), (1, .int 2), (2, .int x1)] := hl
  obtain ⟨H, hH⟩ : ∃ z : Heap, z = s.heap := ⟨_, rfl⟩
  obtain ⟨locs, hlo⟩ : ∃ z : List Loc, z = [] := ⟨_, rfl⟩
  have hP : va_P D vwCl (sgw 26 h (eM ca h) f L Q) H := by rw [hH]; exact hP
  have hS : va_S (sgA 26 h s.heap.size) s.heap H locs := by rw [hH, hlo]; exact hS
  suffices hgo : W p l e ({ frames := 3, cells := 0, slots := 0, locals := 66 }) s m ([.ref (h 0), .int 2, .int x1] : List Value).toArray below meth cd H locs 0 0 Qz (F0 m 0 ls []) by rw [hH, hlo] at hgo; exact hgo
  clear hH hlo
  obtain ⟨sp, hsp⟩ : ∃ z : Int32 × sg_F, z = sX12_sitsAs_2_f1_f3 x1 f L := ⟨_, rfl⟩
  have hs : sp = sX12_sitsAs_2_f1_f3 x1 f L := hsp
  have o_1 : (f 0 48).toInt = 1 := (congrArg Int32.toInt (show f 0 48 = 1 from hf_0_48)).trans (by decide)
  have hF : sgK WkX12_sitsAs_2_f1_f3 f f := sgK.rf
  refine lv_iload_n hx hb dX12_sitsAs_0 rfl (lv_at hl 1 rfl) ?_
  refine lv_iconst (v := 3) hx hb dX12_sitsAs_1 ic_3 ?_
  refine lv_icmp_eq (tgt := 10) hx hb dX12_sitsAs_2 (by decide) (fun c => absurd c (by decide)) (fun c => ?_)
  refine lv_iload_n hx hb dX12_sitsAs_5 rfl (lv_at hl 1 rfl) ?_
  refine lv_iconst (v := 5) hx hb dX12_sitsAs_6 ic_5 ?_
  refine lv_icmp_ne (tgt := 25) hx hb dX12_sitsAs_7 (by decide) (fun c => ?_) (fun c => absurd c (by decide))
  refine lv_iload_n hx hb dX12_sitsAs_25 rfl (lv_at hl 1 rfl) ?_
  refine lv_iconst (v := 2) hx hb dX12_sitsAs_26 ic_2 ?_
  refine lv_icmp_ne (tgt := 44) hx hb dX12_sitsAs_27 (by decide) (fun c => absurd c (by decide)) (fun c => ?_)
  refine lv_aload_n hx hb dX12_sitsAs_30 rfl (lv_at hl 0 rfl) ?_
  refine lv_bipush (v := 30) hx hb dX12_sitsAs_31 bp_30 ?_
  have q_2 : (f 0 48).toInt = 1 := (congrArg Int32.toInt (show f 0 48 = 1 from hf_0_48)).trans (by decide)
  refine sg_callv (va_runV (As := [.int 30]) (rest := []) ⟨hx, hb, hml, hown, hts⟩ (kX12_begins_30_f1 l D ca za h hh f L Q hI hf_0_48 (by have k0 : (30 : Int32).toInt = 30 := ti_30; omega) H.size) (sl_c12_begins_0_0_0_0_12 hts ⟨Nat.le_of_ble_eq_true rfl, Nat.le_of_ble_eq_true rfl⟩) (sl_vM_0 hA hK hP hS hZ) rfl rfl hl.1 rfl (lv_room (Nat.le_of_ble_eq_true rfl)) dX12_sitsAs_33 ⟨Nat.le_refl _, Nat.le_refl _⟩) hA hS (fun f_4 L_5 Q_6 H locs hq hP hS => ?_)
  obtain ⟨⟨hI, hk_f_4, eL9, eQ9⟩, p_7, u_8⟩ := hq
  rw [eL9, eQ9] at hP; clear eL9 eQ9
  have hF : sgK WkX12_sitsAs_2_f1_f3 f f_4 := sgK.tr hF hk_f_4 (by decide +kernel)
  obtain ⟨v_9, ev_9⟩ : ∃ z : Int32, z = f_4 0 48 := ⟨_, rfl⟩
  have q_10 : 0 ≤ v_9.toInt ∧ v_9.toInt ≤ 19 := by rw [ev_9]; exact hI 0 48
  have q_11 : (f_4 0 48).toInt = v_9.toInt := (congrArg Int32.toInt (show f_4 0 48 = v_9 from ev_9.symm))
  refine lv_aload_n hx hb dX12_sitsAs_36 rfl (lv_at hl 0 rfl) ?_
  refine lv_iconst (v := 0) hx hb dX12_sitsAs_37 ic_0 ?_
  refine lv_iload_n hx hb dX12_sitsAs_38 rfl (lv_at hl 2 rfl) ?_
  have c_13 : v_9 = 2 := Int32.toInt_inj.mp (by have k9 : (2 : Int32).toInt = 2 := ti_2; omega)
  have q_14 : (f_4 0 48).toInt = 2 := (congrArg Int32.toInt (show f_4 0 48 = 2 from (Eq.trans ev_9.symm c_13))).trans (by decide)
  refine sg_calli (va_runV (As := [.int 0, .int x1]) (rest := []) ⟨hx, hb, hml, hown, hts⟩ (kX12_sitsAs_0_f2_f3 l D ca za h hh f_4 L Q hI x1 (Eq.trans ev_9.symm c_13) ((hk_f_4 0 49 (by decide)).trans hf_0_49) (by have k0 : (0 : Int32).toInt = 0 := ti_0; omega) H.size) (sl_c12_sitsAs_2_0_0_43_12 hts ⟨Nat.le_of_ble_eq_true rfl, Nat.le_of_ble_eq_true rfl⟩) (sl_vM_0 hA hK hP hS hZ) rfl rfl hl.1 rfl (lv_room (Nat.le_of_ble_eq_true rfl)) dX12_sitsAs_39 ⟨Nat.le_refl _, Nat.le_refl _⟩) hA hS (fun r_19 f_16 L_17 Q_18 H locs hq hP hS => ?_)
  obtain ⟨⟨hI, hk_f_16, eL9, eQ9⟩, hq, p_20, u_21⟩ := hq
  rw [eL9, eQ9] at hP; clear eL9 eQ9
  have hF : sgK WkX12_sitsAs_2_f1_f3 f f_16 := sgK.tr hF hk_f_16 (by decide +kernel)
  obtain ⟨v_22, ev_22⟩ : ∃ z : Int32, z = f_16 0 48 := ⟨_, rfl⟩
  have q_23 : 0 ≤ v_22.toInt ∧ v_22.toInt ≤ 19 := by rw [ev_22]; exact hI 0 48
  have q_24 : (f_16 0 48).toInt = v_22.toInt := (congrArg Int32.toInt (show f_16 0 48 = v_22 from ev_22.symm))
  have k_26 : (0 : Int32).toInt = 0 := by decide
  refine lv_ineg hx hb dX12_sitsAs_42 ?_
  refine lv_topi (fun v_27 ev_27 => ?_)
  exact hret _ _ _ _ (v_27) f_16 L Q dX12_sitsAs_43 hP hS ⟨⟨hI, hF, rfl, rfl⟩, trivial, ⟨by omega, by omega⟩, (Eq.trans (Eq.symm (hs.trans ((spl_e u_8 (spl_e ev_9 (spl2_e u_21 (spl_e ev_22 (spl_e ev_27 rfl)))))))) hsp)⟩

abbrev WkX12_sitsAs_3_f0_f3 : List (Nat × Nat × Option Nat) := [(0, 0, some 48), (21, 21, some 0), (21, 21, some 1), (21, 21, some 2), (21, 21, some 3)]
set_option maxHeartbeats 4000000 in
set_option maxRecDepth 100000 in
theorem kX12_sitsAs_3_f0_f3 (l : Launch) (D : va_G) (ca : Nat → ClassId) (za h : Nat → Nat) (hh : sgH 26 h) (f : sg_F) (L : sg_L) (Q : sg_Q) (hI : sgI loM hiM f) (x1 : Int32) (hf_0_48 : f 0 48 = 0) (hf_0_49 : f 0 49 = 3) (p0 : 0 ≤ (f 0 48).toInt ∧ (f 0 48).toInt ≤ 0) (sz : Nat) : Met l yX12_sitsAs gwX12_sitsAs { frames := 4, cells := 0, slots := 0, locals := 89 } (sgP D vwCl (tyX ca) 26 h (eM ca h) zcM za f L Q sz [.ref (h 0), .int 3, .int x1]) (sgQi D vwCl 26 h (eM ca h) sz (fun r f1 L1 Q1 => ((sgI loM hiM f1 ∧ sgK WkX12_sitsAs_3_f0_f3 f f1 ∧ L1 = L ∧ Q1 = Q) ∧ True ∧ (4 ≤ (f1 0 48).toInt ∧ (f1 0 48).toInt ≤ 4) ∧ (r, f1) = sX12_sitsAs_3_f0_f3 x1 f L))) 0 0 (sgA 26 h sz) := by
  refine sg_ofWi (cc := cX12_sitsAs) (maxL := 4) RX12 (by decide) rfl rfl (Nat.le_of_ble_eq_true rfl) ?_
  intro p e s m below meth cd Qz ls hx hb hml hown hts hK hZ hP hS hl hret
  have hA := sgY.self (n := 26) (h := h) (sz := s.heap.size)
  have hl : lv_has ls 4 [(0, .ref (h 0)), (1, .int 3), (2, .int x1)] := hl
  obtain ⟨H, hH⟩ : ∃ z : Heap, z = s.heap := ⟨_, rfl⟩
  obtain ⟨locs, hlo⟩ : ∃ z : List Loc, z = [] := ⟨_, rfl⟩
  have hP : va_P D vwCl (sgw 26 h (eM ca h) f L Q) H := by rw [hH]; exact hP
  have hS : va_S (sgA 26 h s.heap.size) s.heap H locs := by rw [hH, hlo]; exact hS
  suffices hgo : W p l e ({ frames := 4, cells := 0, slots := 0, locals := 89 }) s m ([.ref (h 0), .int 3, .int x1] : List Value).toArray below meth cd H locs 0 0 Qz (F0 m 0 ls []) by rw [hH, hlo] at hgo; exact hgo
  clear hH hlo
  obtain ⟨sp, hsp⟩ : ∃ z : Int32 × sg_F, z = sX12_sitsAs_3_f0_f3 x1 f L := ⟨_, rfl⟩
  have hs : sp = sX12_sitsAs_3_f0_f3 x1 f L := hsp
  have o_1 : (f 0 48).toInt = 0 := (congrArg Int32.toInt (show f 0 48 = 0 from hf_0_48)).trans (by decide)
  have hF : sgK WkX12_sitsAs_3_f0_f3 f f := sgK.rf
  have blk_10 : ∀ (fp_10 : sg_F) (H : Heap) (locs : List Loc) (ls : Array Slot), sp = sX12_sitsAs_3_f0_f3_b10 x1 fp_10 L → 0 ≤ (fp_10 0 48).toInt ∧ (fp_10 0 48).toInt ≤ 0 → 3 ≤ (fp_10 0 49).toInt ∧ (fp_10 0 49).toInt ≤ 3 → sgI loM hiM fp_10 → sgK WkX12_sitsAs_3_f0_f3 f fp_10 → va_P D vwCl (sgw 26 h (eM ca h) fp_10 L Q) H → va_S (sgA 26 h s.heap.size) s.heap H locs → lv_has ls 4 [(0, .ref (h 0)), (2, .int x1)] → W p l e ({ frames := 4, cells := 0, slots := 0, locals := 89 }) s m ([.ref (h 0), .int 3, .int x1] : List Value).toArray below meth cd H locs 0 0 Qz (F0 m 10 ls []) := by
    intro fp_10 H locs ls hs hy0_10 hy1_10 hI hF hP hS hl
    obtain ⟨v_2, ev_2⟩ : ∃ z : Int32, z = fp_10 0 48 := ⟨_, rfl⟩
    have q_3 : 0 ≤ v_2.toInt ∧ v_2.toInt ≤ 19 := by rw [ev_2]; exact hI 0 48
    have q_4 : (fp_10 0 48).toInt = v_2.toInt := by rw [ev_2]
    obtain ⟨v_5, ev_5⟩ : ∃ z : Int32, z = fp_10 0 49 := ⟨_, rfl⟩
    have q_6 : 0 ≤ v_5.toInt ∧ v_5.toInt ≤ 7 := by rw [ev_5]; exact hI 0 49
    have q_7 : (fp_10 0 49).toInt = v_5.toInt := by rw [ev_5]
    have m_8 : fp_10 0 49 = 3 := (hF 0 49 (by decide)).trans hf_0_49
    refine lv_aload_n hx hb dX12_sitsAs_10 rfl (lv_at hl 0 rfl) ?_
    refine lv_bipush (v := 41) hx hb dX12_sitsAs_11 bp_41 ?_
    have c_9 : v_2 = 0 := Int32.toInt_inj.mp (by have k9 : (0 : Int32).toInt = 0 := ti_0; omega)
    have q_10 : (fp_10 0 48).toInt = 0 := (congrArg Int32.toInt (show fp_10 0 48 = 0 from (Eq.trans ev_2.symm c_9))).trans (by decide)
    refine sg_callv (va_runV (As := [.int 41]) (rest := []) ⟨hx, hb, hml, hown, hts⟩ (kX12_begins_41_f0 l D ca za h hh fp_10 L Q hI (Eq.trans ev_2.symm c_9) (by have k0 : (41 : Int32).toInt = 41 := ti_41; omega) H.size) (sl_c12_begins_0_0_0_0_12 hts ⟨Nat.le_of_ble_eq_true rfl, Nat.le_of_ble_eq_true rfl⟩) (sl_vM_0 hA hK hP hS hZ) rfl rfl hl.1 rfl (lv_room (Nat.le_of_ble_eq_true rfl)) dX12_sitsAs_13 ⟨Nat.le_refl _, Nat.le_refl _⟩) hA hS (fun f_12 L_13 Q_14 H locs hq hP hS => ?_)
    obtain ⟨⟨hI, hk_f_12, eL9, eQ9⟩, p_15, u_16⟩ := hq
    rw [eL9, eQ9] at hP; clear eL9 eQ9
    have hF : sgK WkX12_sitsAs_3_f0_f3 f f_12 := sgK.tr hF hk_f_12 (by decide +kernel)
    obtain ⟨v_17, ev_17⟩ : ∃ z : Int32, z = f_12 0 48 := ⟨_, rfl⟩
    have q_18 : 0 ≤ v_17.toInt ∧ v_17.toInt ≤ 19 := by rw [ev_17]; exact hI 0 48
    have q_19 : (f_12 0 48).toInt = v_17.toInt := (congrArg Int32.toInt (show f_12 0 48 = v_17 from ev_17.symm))
    refine lv_aload_n hx hb dX12_sitsAs_16 rfl (lv_at hl 0 rfl) ?_
    refine lv_iconst (v := 2) hx hb dX12_sitsAs_17 ic_2 ?_
    refine lv_iload_n hx hb dX12_sitsAs_18 rfl (lv_at hl 1 rfl) ?_
    refine lv_iconst (v := 1) hx hb dX12_sitsAs_19 ic_1 ?_
    refine lv_iadd hx hb dX12_sitsAs_20 ?_
    refine lv_topi (fun v_21 ev_21 => ?_)
    have c_22 : v_17 = 1 := Int32.toInt_inj.mp (by have k9 : (1 : Int32).toInt = 1 := ti_1; omega)
    have q_23 : (f_12 0 48).toInt = 1 := (congrArg Int32.toInt (show f_12 0 48 = 1 from (Eq.trans ev_17.symm c_22))).trans (by decide)
    refine sg_calli (va_runV (As := [.int 2, .int v_21]) (rest := []) ⟨hx, hb, hml, hown, hts⟩ (kX12_sitsAs_2_f1_f3 l D ca za h hh f_12 L Q hI v_21 (Eq.trans ev_17.symm c_22) ((hk_f_12 0 49 (by decide)).trans m_8) (by have k0 : (2 : Int32).toInt = 2 := ti_2; omega) H.size) (sl_c12_sitsAs_3_0_0_66_12 hts ⟨Nat.le_of_ble_eq_true rfl, Nat.le_of_ble_eq_true rfl⟩) (sl_vM_0 hA hK hP hS hZ) rfl rfl hl.1 rfl (lv_room (Nat.le_of_ble_eq_true rfl)) dX12_sitsAs_21 ⟨Nat.le_refl _, Nat.le_refl _⟩) hA hS (fun r_28 f_25 L_26 Q_27 H locs hq hP hS => ?_)
    obtain ⟨⟨hI, hk_f_25, eL9, eQ9⟩, hq, p_29, u_30⟩ := hq
    rw [eL9, eQ9] at hP; clear eL9 eQ9
    have hF : sgK WkX12_sitsAs_3_f0_f3 f f_25 := sgK.tr hF hk_f_25 (by decide +kernel)
    obtain ⟨v_31, ev_31⟩ : ∃ z : Int32, z = f_25 0 48 := ⟨_, rfl⟩
    have q_32 : 0 ≤ v_31.toInt ∧ v_31.toInt ≤ 19 := by rw [ev_31]; exact hI 0 48
    have q_33 : (f_25 0 48).toInt = v_31.toInt := (congrArg Int32.toInt (show f_25 0 48 = v_31 from ev_31.symm))
    have k_35 : (2 : Int32).toInt = 2 := by decide
    exact hret _ _ _ _ (r_28) f_25 L Q dX12_sitsAs_24 hP hS ⟨⟨hI, hF, rfl, rfl⟩, trivial, ⟨by omega, by omega⟩, (Eq.trans (Eq.symm (hs.trans ((spl_e ev_2 (spl_e ev_5 (spl_e u_16 (spl_e ev_17 (spl_e ev_21 (spl2_e u_30 (spl_e ev_31 rfl)))))))))) hsp)⟩
  refine lv_iload_n hx hb dX12_sitsAs_0 rfl (lv_at hl 1 rfl) ?_
  refine lv_iconst (v := 3) hx hb dX12_sitsAs_1 ic_3 ?_
  refine lv_icmp_eq (tgt := 10) hx hb dX12_sitsAs_2 (by decide) (fun c => ?_) (fun c => absurd c (by decide))
  exact blk_10 f _ _ _ hs (by have zz0_48 : (f 0 48).toInt = 0 := (congrArg Int32.toInt (show f 0 48 = 0 from hf_0_48)).trans (by decide); exact ⟨by omega, by omega⟩) (by have zz0_49 : (f 0 49).toInt = 3 := (congrArg Int32.toInt (show f 0 49 = 3 from hf_0_49)).trans (by decide); exact ⟨by omega, by omega⟩) hI hF hP hS (lv_sub hl [0, 2] rfl)

abbrev WkX12_setsAs_0_f2_f4 : List (Nat × Nat × Option Nat) := [(0, 0, some 48), (21, 21, some 2)]
set_option maxHeartbeats 4000000 in
set_option maxRecDepth 100000 in
theorem kX12_setsAs_0_f2_f4 (l : Launch) (D : va_G) (ca : Nat → ClassId) (za h : Nat → Nat) (hh : sgH 26 h) (f : sg_F) (L : sg_L) (Q : sg_Q) (hI : sgI loM hiM f) (x1 : Int32) (hf_0_48 : f 0 48 = 2) (hf_0_49 : f 0 49 = 4) (p0 : 2 ≤ (f 0 48).toInt ∧ (f 0 48).toInt ≤ 2) (sz : Nat) : Met l yX12_setsAs gwX12_setsAs { frames := 1, cells := 0, slots := 0, locals := 21 } (sgP D vwCl (tyX ca) 26 h (eM ca h) zcM za f L Q sz [.ref (h 0), .int 0, .int x1]) (sgQi D vwCl 26 h (eM ca h) sz (fun r f1 L1 Q1 => ((sgI loM hiM f1 ∧ sgK WkX12_setsAs_0_f2_f4 f f1 ∧ L1 = L ∧ Q1 = Q) ∧ True ∧ (3 ≤ (f1 0 48).toInt ∧ (f1 0 48).toInt ≤ 3) ∧ (r, f1) = sX12_setsAs_0_f2_f4 x1 f L))) 0 0 (sgA 26 h sz) := by
  refine sg_ofWi (cc := cX12_setsAs) (maxL := 3) RX12 (by decide) rfl rfl (Nat.le_of_ble_eq_true rfl) ?_
  intro p e s m below meth cd Qz ls hx hb hml hown hts hK hZ hP hS hl hret
  have hA := sgY.self (n := 26) (h := h) (sz := s.heap.size)
  have hl : lv_has ls 3 [(0, .ref (h 0)), (1, .int 0), (2, .int x1)] := hl
  obtain ⟨H, hH⟩ : ∃ z : Heap, z = s.heap := ⟨_, rfl⟩
  obtain ⟨locs, hlo⟩ : ∃ z : List Loc, z = [] := ⟨_, rfl⟩
  have hP : va_P D vwCl (sgw 26 h (eM ca h) f L Q) H := by rw [hH]; exact hP
  have hS : va_S (sgA 26 h s.heap.size) s.heap H locs := by rw [hH, hlo]; exact hS
  suffices hgo : W p l e ({ frames := 1, cells := 0, slots := 0, locals := 21 }) s m ([.ref (h 0), .int 0, .int x1] : List Value).toArray below meth cd H locs 0 0 Qz (F0 m 0 ls []) by rw [hH, hlo] at hgo; exact hgo
  clear hH hlo
  obtain ⟨sp, hsp⟩ : ∃ z : Int32 × sg_F, z = sX12_setsAs_0_f2_f4 x1 f L := ⟨_, rfl⟩
  have hs : sp = sX12_setsAs_0_f2_f4 x1 f L := hsp
  have o_1 : (f 0 48).toInt = 2 := (congrArg Int32.toInt (show f 0 48 = 2 from hf_0_48)).trans (by decide)
  have hF : sgK WkX12_setsAs_0_f2_f4 f f := sgK.rf
  refine lv_iload_n hx hb dX12_setsAs_0 rfl (lv_at hl 1 rfl) ?_
  refine lv_iconst (v := 1) hx hb dX12_setsAs_1 ic_1 ?_
  refine lv_icmp_eq (tgt := 16) hx hb dX12_setsAs_2 (by decide) (fun c => absurd c (by decide)) (fun c => ?_)
  refine lv_iload_n hx hb dX12_setsAs_5 rfl (lv_at hl 1 rfl) ?_
  refine lv_iconst (v := 4) hx hb dX12_setsAs_6 ic_4 ?_
  refine lv_icmp_eq (tgt := 16) hx hb dX12_setsAs_7 (by decide) (fun c => absurd c (by decide)) (fun c => ?_)
  refine lv_iload_n hx hb dX12_setsAs_10 rfl (lv_at hl 1 rfl) ?_
  refine lv_bipush (v := 7) hx hb dX12_setsAs_11 bp_7 ?_
  refine lv_icmp_ne (tgt := 31) hx hb dX12_setsAs_13 (by decide) (fun c => ?_) (fun c => absurd c (by decide))
  refine lv_iload_n hx hb dX12_setsAs_31 rfl (lv_at hl 1 rfl) ?_
  refine lv_bipush (v := 6) hx hb dX12_setsAs_32 bp_6 ?_
  refine lv_icmp_ne (tgt := 52) hx hb dX12_setsAs_34 (by decide) (fun c => ?_) (fun c => absurd c (by decide))
  refine lv_aload_n hx hb dX12_setsAs_52 rfl (lv_at hl 0 rfl) ?_
  refine lv_iconst (v := 1) hx hb dX12_setsAs_53 ic_1 ?_
  have q_2 : (f 0 48).toInt = 2 := (congrArg Int32.toInt (show f 0 48 = 2 from hf_0_48)).trans (by decide)
  refine sg_callv (va_runV (As := [.int 1]) (rest := []) ⟨hx, hb, hml, hown, hts⟩ (kX12_begins_1_f2 l D ca za h hh f L Q hI hf_0_48 (by have k0 : (1 : Int32).toInt = 1 := ti_1; omega) H.size) (sl_c12_begins_0_0_0_0_12 hts ⟨Nat.le_of_ble_eq_true rfl, Nat.le_of_ble_eq_true rfl⟩) (sl_vM_0 hA hK hP hS hZ) rfl rfl hl.1 rfl (lv_room (Nat.le_of_ble_eq_true rfl)) dX12_setsAs_54 ⟨Nat.le_refl _, Nat.le_refl _⟩) hA hS (fun f_4 L_5 Q_6 H locs hq hP hS => ?_)
  obtain ⟨⟨hI, hk_f_4, eL9, eQ9⟩, p_7, u_8⟩ := hq
  rw [eL9, eQ9] at hP; clear eL9 eQ9
  have hF : sgK WkX12_setsAs_0_f2_f4 f f_4 := sgK.tr hF hk_f_4 (by decide +kernel)
  obtain ⟨v_9, ev_9⟩ : ∃ z : Int32, z = f_4 0 48 := ⟨_, rfl⟩
  have q_10 : 0 ≤ v_9.toInt ∧ v_9.toInt ≤ 19 := by rw [ev_9]; exact hI 0 48
  have q_11 : (f_4 0 48).toInt = v_9.toInt := (congrArg Int32.toInt (show f_4 0 48 = v_9 from ev_9.symm))
  refine lv_iload_n hx hb dX12_setsAs_57 rfl (lv_at hl 2 rfl) ?_
  refine lv_aload_n hx hb dX12_setsAs_58 rfl (lv_at hl 0 rfl) ?_
  refine sl_gM_0_50_12 (v := (f_4 0 50)) hx hb hts hown hK hP rfl dX12_setsAs_59 ?_
  refine lv_topi (fun v_13 ev_13 => ?_)
  have q_14 : 0 ≤ v_13.toInt ∧ v_13.toInt ≤ 49 := by rw [ev_13]; exact hI 0 50
  refine lv_iadd hx hb dX12_setsAs_62 ?_
  refine lv_topi (fun v_15 ev_15 => ?_)
  exact hret _ _ _ _ (v_15) f_4 L Q dX12_setsAs_63 hP hS ⟨⟨hI, hF, rfl, rfl⟩, trivial, ⟨by omega, by omega⟩, (Eq.trans (Eq.symm (hs.trans ((spl_e u_8 (spl_e ev_9 (spl_e ev_13 (spl_e ev_15 rfl))))))) hsp)⟩

abbrev WkX12_setsAs_4_f1_f4 : List (Nat × Nat × Option Nat) := [(0, 0, some 48), (21, 21, some 1), (21, 21, some 2)]
set_option maxHeartbeats 4000000 in
set_option maxRecDepth 100000 in
theorem kX12_setsAs_4_f1_f4 (l : Launch) (D : va_G) (ca : Nat → ClassId) (za h : Nat → Nat) (hh : sgH 26 h) (f : sg_F) (L : sg_L) (Q : sg_Q) (hI : sgI loM hiM f) (x1 : Int32) (hf_0_48 : f 0 48 = 1) (hf_0_49 : f 0 49 = 4) (p0 : 1 ≤ (f 0 48).toInt ∧ (f 0 48).toInt ≤ 1) (sz : Nat) : Met l yX12_setsAs gwX12_setsAs { frames := 2, cells := 0, slots := 0, locals := 43 } (sgP D vwCl (tyX ca) 26 h (eM ca h) zcM za f L Q sz [.ref (h 0), .int 4, .int x1]) (sgQi D vwCl 26 h (eM ca h) sz (fun r f1 L1 Q1 => ((sgI loM hiM f1 ∧ sgK WkX12_setsAs_4_f1_f4 f f1 ∧ L1 = L ∧ Q1 = Q) ∧ True ∧ (3 ≤ (f1 0 48).toInt ∧ (f1 0 48).toInt ≤ 3) ∧ (r, f1) = sX12_setsAs_4_f1_f4 x1 f L))) 0 0 (sgA 26 h sz) := by
  refine sg_ofWi (cc := cX12_setsAs) (maxL := 3) RX12 (by decide) rfl rfl (Nat.le_of_ble_eq_true rfl) ?_
  intro p e s m below meth cd Qz ls hx hb hml hown hts hK hZ hP hS hl hret
  have hA := sgY.self (n := 26) (h := h) (sz := s.heap.size)
  have hl : lv_has ls 3 [(0, .ref (h 0)), (1, .int 4), (2, .int x1)] := hl
  obtain ⟨H, hH⟩ : ∃ z : Heap, z = s.heap := ⟨_, rfl⟩
  obtain ⟨locs, hlo⟩ : ∃ z : List Loc, z = [] := ⟨_, rfl⟩
  have hP : va_P D vwCl (sgw 26 h (eM ca h) f L Q) H := by rw [hH]; exact hP
  have hS : va_S (sgA 26 h s.heap.size) s.heap H locs := by rw [hH, hlo]; exact hS
  suffices hgo : W p l e ({ frames := 2, cells := 0, slots := 0, locals := 43 }) s m ([.ref (h 0), .int 4, .int x1] : List Value).toArray below meth cd H locs 0 0 Qz (F0 m 0 ls []) by rw [hH, hlo] at hgo; exact hgo
  clear hH hlo
  obtain ⟨sp, hsp⟩ : ∃ z : Int32 × sg_F, z = sX12_setsAs_4_f1_f4 x1 f L := ⟨_, rfl⟩
  have hs : sp = sX12_setsAs_4_f1_f4 x1 f L := hsp
  have o_1 : (f 0 48).toInt = 1 := (congrArg Int32.toInt (show f 0 48 = 1 from hf_0_48)).trans (by decide)
  have hF : sgK WkX12_setsAs_4_f1_f4 f f := sgK.rf
  have blk_16 : ∀ (fp_16 : sg_F) (H : Heap) (locs : List Loc) (ls : Array Slot), sp = sX12_setsAs_4_f1_f4_b16 x1 fp_16 L → 1 ≤ (fp_16 0 48).toInt ∧ (fp_16 0 48).toInt ≤ 1 → 4 ≤ (fp_16 0 49).toInt ∧ (fp_16 0 49).toInt ≤ 4 → sgI loM hiM fp_16 → sgK WkX12_setsAs_4_f1_f4 f fp_16 → va_P D vwCl (sgw 26 h (eM ca h) fp_16 L Q) H → va_S (sgA 26 h s.heap.size) s.heap H locs → lv_has ls 3 [(0, .ref (h 0)), (2, .int x1)] → W p l e ({ frames := 2, cells := 0, slots := 0, locals := 43 }) s m ([.ref (h 0), .int 4, .int x1] : List Value).toArray below meth cd H locs 0 0 Qz (F0 m 16 ls []) := by
    intro fp_16 H locs ls hs hy0_16 hy1_16 hI hF hP hS hl
    obtain ⟨v_2, ev_2⟩ : ∃ z : Int32, z = fp_16 0 48 := ⟨_, rfl⟩
    have q_3 : 0 ≤ v_2.toInt ∧ v_2.toInt ≤ 19 := by rw [ev_2]; exact hI 0 48
    have q_4 : (fp_16 0 48).toInt = v_2.toInt := by rw [ev_2]
    obtain ⟨v_5, ev_5⟩ : ∃ z : Int32, z = fp_16 0 49 := ⟨_, rfl⟩
    have q_6 : 0 ≤ v_5.toInt ∧ v_5.toInt ≤ 7 := by rw [ev_5]; exact hI 0 49
    have q_7 : (fp_16 0 49).toInt = v_5.toInt := by rw [ev_5]
    have m_8 : fp_16 0 49 = 4 := (hF 0 49 (by decide)).trans hf_0_49
    refine lv_aload_n hx hb dX12_setsAs_16 rfl (lv_at hl 0 rfl) ?_
    refine lv_bipush (v := 20) hx hb dX12_setsAs_17 bp_20 ?_
    have c_9 : v_2 = 1 := Int32.toInt_inj.mp (by have k9 : (1 : Int32).toInt = 1 := ti_1; omega)
    have q_10 : (fp_16 0 48).toInt = 1 := (congrArg Int32.toInt (show fp_16 0 48 = 1 from (Eq.trans ev_2.symm c_9))).trans (by decide)
    refine sg_callv (va_runV (As := [.int 20]) (rest := []) ⟨hx, hb, hml, hown, hts⟩ (kX12_begins_20_f1 l D ca za h hh fp_16 L Q hI (Eq.trans ev_2.symm c_9) (by have k0 : (20 : Int32).toInt = 20 := ti_20; omega) H.size) (sl_c12_begins_0_0_0_0_12 hts ⟨Nat.le_of_ble_eq_true rfl, Nat.le_of_ble_eq_true rfl⟩) (sl_vM_0 hA hK hP hS hZ) rfl rfl hl.1 rfl (lv_room (Nat.le_of_ble_eq_true rfl)) dX12_setsAs_19 ⟨Nat.le_refl _, Nat.le_refl _⟩) hA hS (fun f_12 L_13 Q_14 H locs hq hP hS => ?_)
    obtain ⟨⟨hI, hk_f_12, eL9, eQ9⟩, p_15, u_16⟩ := hq
    rw [eL9, eQ9] at hP; clear eL9 eQ9
    have hF : sgK WkX12_setsAs_4_f1_f4 f f_12 := sgK.tr hF hk_f_12 (by decide +kernel)
    obtain ⟨v_17, ev_17⟩ : ∃ z : Int32, z = f_12 0 48 := ⟨_, rfl⟩
    have q_18 : 0 ≤ v_17.toInt ∧ v_17.toInt ≤ 19 := by rw [ev_17]; exact hI 0 48
    have q_19 : (f_12 0 48).toInt = v_17.toInt := (congrArg Int32.toInt (show f_12 0 48 = v_17 from ev_17.symm))
    refine lv_aload_n hx hb dX12_setsAs_22 rfl (lv_at hl 0 rfl) ?_
    refine lv_iconst (v := 0) hx hb dX12_setsAs_23 ic_0 ?_
    refine lv_iload_n hx hb dX12_setsAs_24 rfl (lv_at hl 1 rfl) ?_
    have c_21 : v_17 = 2 := Int32.toInt_inj.mp (by have k9 : (2 : Int32).toInt = 2 := ti_2; omega)
    have q_22 : (f_12 0 48).toInt = 2 := (congrArg Int32.toInt (show f_12 0 48 = 2 from (Eq.trans ev_17.symm c_21))).trans (by decide)
    refine sg_calli (va_runV (As := [.int 0, .int x1]) (rest := []) ⟨hx, hb, hml, hown, hts⟩ (kX12_setsAs_0_f2_f4 l D ca za h hh f_12 L Q hI x1 (Eq.trans ev_17.symm c_21) ((hk_f_12 0 49 (by decide)).trans m_8) (by have k0 : (0 : Int32).toInt = 0 := ti_0; omega) H.size) (sl_c12_setsAs_1_0_0_21_12 hts ⟨Nat.le_of_ble_eq_true rfl, Nat.le_of_ble_eq_true rfl⟩) (sl_vM_0 hA hK hP hS hZ) rfl rfl hl.1 rfl (lv_room (Nat.le_of_ble_eq_true rfl)) dX12_setsAs_25 ⟨Nat.le_refl _, Nat.le_refl _⟩) hA hS (fun r_27 f_24 L_25 Q_26 H locs hq hP hS => ?_)
    obtain ⟨⟨hI, hk_f_24, eL9, eQ9⟩, hq, p_28, u_29⟩ := hq
    rw [eL9, eQ9] at hP; clear eL9 eQ9
    have hF : sgK WkX12_setsAs_4_f1_f4 f f_24 := sgK.tr hF hk_f_24 (by decide +kernel)
    obtain ⟨v_30, ev_30⟩ : ∃ z : Int32, z = f_24 0 48 := ⟨_, rfl⟩
    have q_31 : 0 ≤ v_30.toInt ∧ v_30.toInt ≤ 19 := by rw [ev_30]; exact hI 0 48
    have q_32 : (f_24 0 48).toInt = v_30.toInt := (congrArg Int32.toInt (show f_24 0 48 = v_30 from ev_30.symm))
    have k_34 : (0 : Int32).toInt = 0 := by decide
    refine lv_iconst (v := 3) hx hb dX12_setsAs_28 ic_3 ?_
    refine lv_iadd hx hb dX12_setsAs_29 ?_
    refine lv_topi (fun v_35 ev_35 => ?_)
    exact hret _ _ _ _ (v_35) f_24 L Q dX12_setsAs_30 hP hS ⟨⟨hI, hF, rfl, rfl⟩, trivial, ⟨by omega, by omega⟩, (Eq.trans (Eq.symm (hs.trans ((spl_e ev_2 (spl_e ev_5 (spl_e u_16 (spl_e ev_17 (spl2_e u_29 (spl_e ev_30 (spl_e ev_35 rfl)))))))))) hsp)⟩
  refine lv_iload_n hx hb dX12_setsAs_0 rfl (lv_at hl 1 rfl) ?_
  refine lv_iconst (v := 1) hx hb dX12_setsAs_1 ic_1 ?_
  refine lv_icmp_eq (tgt := 16) hx hb dX12_setsAs_2 (by decide) (fun c => absurd c (by decide)) (fun c => ?_)
  refine lv_iload_n hx hb dX12_setsAs_5 rfl (lv_at hl 1 rfl) ?_
  refine lv_iconst (v := 4) hx hb dX12_setsAs_6 ic_4 ?_
  refine lv_icmp_eq (tgt := 16) hx hb dX12_setsAs_7 (by decide) (fun c => ?_) (fun c => absurd c (by decide))
  exact blk_16 f _ _ _ hs (by have zz0_48 : (f 0 48).toInt = 1 := (congrArg Int32.toInt (show f 0 48 = 1 from hf_0_48)).trans (by decide); exact ⟨by omega, by omega⟩) (by have zz0_49 : (f 0 49).toInt = 4 := (congrArg Int32.toInt (show f 0 49 = 4 from hf_0_49)).trans (by decide); exact ⟨by omega, by omega⟩) hI hF hP hS (lv_sub hl [0, 2] rfl)

abbrev WkX12_sitsAs_4_f0_f4 : List (Nat × Nat × Option Nat) := [(0, 0, some 48), (21, 21, some 0), (21, 21, some 1), (21, 21, some 2)]
set_option maxHeartbeats 4000000 in
set_option maxRecDepth 100000 in
theorem kX12_sitsAs_4_f0_f4 (l : Launch) (D : va_G) (ca : Nat → ClassId) (za h : Nat → Nat) (hh : sgH 26 h) (f : sg_F) (L : sg_L) (Q : sg_Q) (hI : sgI loM hiM f) (x1 : Int32) (hf_0_48 : f 0 48 = 0) (hf_0_49 : f 0 49 = 4) (p0 : 0 ≤ (f 0 48).toInt ∧ (f 0 48).toInt ≤ 0) (sz : Nat) : Met l yX12_sitsAs gwX12_sitsAs { frames := 3, cells := 0, slots := 0, locals := 65 } (sgP D vwCl (tyX ca) 26 h (eM ca h) zcM za f L Q sz [.ref (h 0), .int 4, .int x1]) (sgQi D vwCl 26 h (eM ca h) sz (fun r f1 L1 Q1 => ((sgI loM hiM f1 ∧ sgK WkX12_sitsAs_4_f0_f4 f f1 ∧ L1 = L ∧ Q1 = Q) ∧ True ∧ (3 ≤ (f1 0 48).toInt ∧ (f1 0 48).toInt ≤ 3) ∧ (r, f1) = sX12_sitsAs_4_f0_f4 x1 f L))) 0 0 (sgA 26 h sz) := by
  refine sg_ofWi (cc := cX12_sitsAs) (maxL := 4) RX12 (by decide) rfl rfl (Nat.le_of_ble_eq_true rfl) ?_
  intro p e s m below meth cd Qz ls hx hb hml hown hts hK hZ hP hS hl hret
  have hA := sgY.self (n := 26) (h := h) (sz := s.heap.size)
  have hl : lv_has ls 4 [(0, .ref (h 0)), (1, .int 4), (2, .int x1)] := hl
  obtain ⟨H, hH⟩ : ∃ z : Heap, z = s.heap := ⟨_, rfl⟩
  obtain ⟨locs, hlo⟩ : ∃ z : List Loc, z = [] := ⟨_, rfl⟩
  have hP : va_P D vwCl (sgw 26 h (eM ca h) f L Q) H := by rw [hH]; exact hP
  have hS : va_S (sgA 26 h s.heap.size) s.heap H locs := by rw [hH, hlo]; exact hS
  suffices hgo : W p l e ({ frames := 3, cells := 0, slots := 0, locals := 65 }) s m ([.ref (h 0), .int 4, .int x1] : List Value).toArray below meth cd H locs 0 0 Qz (F0 m 0 ls []) by rw [hH, hlo] at hgo; exact hgo
  clear hH hlo
  obtain ⟨sp, hsp⟩ : ∃ z : Int32 × sg_F, z = sX12_sitsAs_4_f0_f4 x1 f L := ⟨_, rfl⟩
  have hs : sp = sX12_sitsAs_4_f0_f4 x1 f L := hsp
  have o_1 : (f 0 48).toInt = 0 := (congrArg Int32.toInt (show f 0 48 = 0 from hf_0_48)).trans (by decide)
  have hF : sgK WkX12_sitsAs_4_f0_f4 f f := sgK.rf
  refine lv_iload_n hx hb dX12_sitsAs_0 rfl (lv_at hl 1 rfl) ?_
  refine lv_iconst (v := 3) hx hb dX12_sitsAs_1 ic_3 ?_
  refine lv_icmp_eq (tgt := 10) hx hb dX12_sitsAs_2 (by decide) (fun c => absurd c (by decide)) (fun c => ?_)
  refine lv_iload_n hx hb dX12_sitsAs_5 rfl (lv_at hl 1 rfl) ?_
  refine lv_iconst (v := 5) hx hb dX12_sitsAs_6 ic_5 ?_
  refine lv_icmp_ne (tgt := 25) hx hb dX12_sitsAs_7 (by decide) (fun c => ?_) (fun c => absurd c (by decide))
  refine lv_iload_n hx hb dX12_sitsAs_25 rfl (lv_at hl 1 rfl) ?_
  refine lv_iconst (v := 2) hx hb dX12_sitsAs_26 ic_2 ?_
  refine lv_icmp_ne (tgt := 44) hx hb dX12_sitsAs_27 (by decide) (fun c => ?_) (fun c => absurd c (by decide))
  refine lv_iload_n hx hb dX12_sitsAs_44 rfl (lv_at hl 1 rfl) ?_
  refine lv_bipush (v := 7) hx hb dX12_sitsAs_45 bp_7 ?_
  refine lv_icmp_ne (tgt := 75) hx hb dX12_sitsAs_47 (by decide) (fun c => ?_) (fun c => absurd c (by decide))
  refine lv_aload_n hx hb dX12_sitsAs_75 rfl (lv_at hl 0 rfl) ?_
  refine lv_bipush (v := 10) hx hb dX12_sitsAs_76 bp_10 ?_
  have q_2 : (f 0 48).toInt = 0 := (congrArg Int32.toInt (show f 0 48 = 0 from hf_0_48)).trans (by decide)
  refine sg_callv (va_runV (As := [.int 10]) (rest := []) ⟨hx, hb, hml, hown, hts⟩ (kX12_begins_10_f0 l D ca za h hh f L Q hI hf_0_48 (by have k0 : (10 : Int32).toInt = 10 := ti_10; omega) H.size) (sl_c12_begins_0_0_0_0_12 hts ⟨Nat.le_of_ble_eq_true rfl, Nat.le_of_ble_eq_true rfl⟩) (sl_vM_0 hA hK hP hS hZ) rfl rfl hl.1 rfl (lv_room (Nat.le_of_ble_eq_true rfl)) dX12_sitsAs_78 ⟨Nat.le_refl _, Nat.le_refl _⟩) hA hS (fun f_4 L_5 Q_6 H locs hq hP hS => ?_)
  obtain ⟨⟨hI, hk_f_4, eL9, eQ9⟩, p_7, u_8⟩ := hq
  rw [eL9, eQ9] at hP; clear eL9 eQ9
  have hF : sgK WkX12_sitsAs_4_f0_f4 f f_4 := sgK.tr hF hk_f_4 (by decide +kernel)
  obtain ⟨v_9, ev_9⟩ : ∃ z : Int32, z = f_4 0 48 := ⟨_, rfl⟩
  have q_10 : 0 ≤ v_9.toInt ∧ v_9.toInt ≤ 19 := by rw [ev_9]; exact hI 0 48
  have q_11 : (f_4 0 48).toInt = v_9.toInt := (congrArg Int32.toInt (show f_4 0 48 = v_9 from ev_9.symm))
  refine lv_aload_n hx hb dX12_sitsAs_81 rfl (lv_at hl 0 rfl) ?_
  refine lv_aload_n hx hb dX12_sitsAs_82 rfl (lv_at hl 0 rfl) ?_
  refine sl_gM_0_49_12 (v := 4) hx hb hts hown hK hP (show f_4 0 49 = 4 from ((hk_f_4 0 49 (by decide)).trans hf_0_49)) dX12_sitsAs_83 ?_
  refine lv_iload_n hx hb dX12_sitsAs_86 rfl (lv_at hl 2 rfl) ?_
  have c_13 : v_9 = 1 := Int32.toInt_inj.mp (by have k9 : (1 : Int32).toInt = 1 := ti_1; omega)
  have q_14 : (f_4 0 48).toInt = 1 := (congrArg Int32.toInt (show f_4 0 48 = 1 from (Eq.trans ev_9.symm c_13))).trans (by decide)
  refine sg_calli (va_runV (As := [.int 4, .int x1]) (rest := []) ⟨hx, hb, hml, hown, hts⟩ (kX12_setsAs_4_f1_f4 l D ca za h hh f_4 L Q hI x1 (Eq.trans ev_9.symm c_13) ((hk_f_4 0 49 (by decide)).trans hf_0_49) (by have k0 : (4 : Int32).toInt = 4 := ti_4; omega) H.size) (sl_c12_setsAs_2_0_0_43_12 hts ⟨Nat.le_of_ble_eq_true rfl, Nat.le_of_ble_eq_true rfl⟩) (sl_vM_0 hA hK hP hS hZ) rfl rfl hl.1 rfl (lv_room (Nat.le_of_ble_eq_true rfl)) dX12_sitsAs_87 ⟨Nat.le_refl _, Nat.le_refl _⟩) hA hS (fun r_19 f_16 L_17 Q_18 H locs hq hP hS => ?_)
  obtain ⟨⟨hI, hk_f_16, eL9, eQ9⟩, hq, p_20, u_21⟩ := hq
  rw [eL9, eQ9] at hP; clear eL9 eQ9
  have hF : sgK WkX12_sitsAs_4_f0_f4 f f_16 := sgK.tr hF hk_f_16 (by decide +kernel)
  obtain ⟨v_22, ev_22⟩ : ∃ z : Int32, z = f_16 0 48 := ⟨_, rfl⟩
  have q_23 : 0 ≤ v_22.toInt ∧ v_22.toInt ≤ 19 := by rw [ev_22]; exact hI 0 48
  have q_24 : (f_16 0 48).toInt = v_22.toInt := (congrArg Int32.toInt (show f_16 0 48 = v_22 from ev_22.symm))
  have k_26 : (4 : Int32).toInt = 4 := by decide
  refine lv_iconst (v := 2) hx hb dX12_sitsAs_90 ic_2 ?_
  refine lv_imul hx hb dX12_sitsAs_91 ?_
  refine lv_topi (fun v_27 ev_27 => ?_)
  exact hret _ _ _ _ (v_27) f_16 L Q dX12_sitsAs_92 hP hS ⟨⟨hI, hF, rfl, rfl⟩, trivial, ⟨by omega, by omega⟩, (Eq.trans (Eq.symm (hs.trans ((spl_e u_8 (spl_e ev_9 (spl2_e u_21 (spl_e ev_22 (spl_e ev_27 rfl)))))))) hsp)⟩

abbrev WkX12_setsAs_5_f3_f5 : List (Nat × Nat × Option Nat) := [(0, 0, some 48), (21, 21, some 3)]
set_option maxHeartbeats 4000000 in
set_option maxRecDepth 100000 in
theorem kX12_setsAs_5_f3_f5 (l : Launch) (D : va_G) (ca : Nat → ClassId) (za h : Nat → Nat) (hh : sgH 26 h) (f : sg_F) (L : sg_L) (Q : sg_Q) (hI : sgI loM hiM f) (x1 : Int32) (hf_0_48 : f 0 48 = 3) (hf_0_49 : f 0 49 = 5) (p0 : 3 ≤ (f 0 48).toInt ∧ (f 0 48).toInt ≤ 3) (sz : Nat) : Met l yX12_setsAs gwX12_setsAs { frames := 1, cells := 0, slots := 0, locals := 21 } (sgP D vwCl (tyX ca) 26 h (eM ca h) zcM za f L Q sz [.ref (h 0), .int 5, .int x1]) (sgQi D vwCl 26 h (eM ca h) sz (fun r f1 L1 Q1 => ((sgI loM hiM f1 ∧ sgK WkX12_setsAs_5_f3_f5 f f1 ∧ L1 = L ∧ Q1 = Q) ∧ True ∧ (4 ≤ (f1 0 48).toInt ∧ (f1 0 48).toInt ≤ 4) ∧ (r, f1) = sX12_setsAs_5_f3_f5 x1 f L))) 0 0 (sgA 26 h sz) := by
  refine sg_ofWi (cc := cX12_setsAs) (maxL := 3) RX12 (by decide) rfl rfl (Nat.le_of_ble_eq_true rfl) ?_
  intro p e s m below meth cd Qz ls hx hb hml hown hts hK hZ hP hS hl hret
  have hA := sgY.self (n := 26) (h := h) (sz := s.heap.size)
  have hl : lv_has ls 3 [(0, .ref (h 0)), (1, .int 5), (2, .int x1)] := hl
  obtain ⟨H, hH⟩ : ∃ z : Heap, z = s.heap := ⟨_, rfl⟩
  obtain ⟨locs, hlo⟩ : ∃ z : List Loc, z = [] := ⟨_, rfl⟩
  have hP : va_P D vwCl (sgw 26 h (eM ca h) f L Q) H := by rw [hH]; exact hP
  have hS : va_S (sgA 26 h s.heap.size) s.heap H locs := by rw [hH, hlo]; exact hS
  suffices hgo : W p l e ({ frames := 1, cells := 0, slots := 0, locals := 21 }) s m ([.ref (h 0), .int 5, .int x1] : List Value).toArray below meth cd H locs 0 0 Qz (F0 m 0 ls []) by rw [hH, hlo] at hgo; exact hgo
  clear hH hlo
  obtain ⟨sp, hsp⟩ : ∃ z : Int32 × sg_F, z = sX12_setsAs_5_f3_f5 x1 f L := ⟨_, rfl⟩
  have hs : sp = sX12_setsAs_5_f3_f5 x1 f L := hsp
  have o_1 : (f 0 48).toInt = 3 := (congrArg Int32.toInt (show f 0 48 = 3 from hf_0_48)).trans (by decide)
  have hF : sgK WkX12_setsAs_5_f3_f5 f f := sgK.rf
  refine lv_iload_n hx hb dX12_setsAs_0 rfl (lv_at hl 1 rfl) ?_
  refine lv_iconst (v := 1) hx hb dX12_setsAs_1 ic_1 ?_
  refine lv_icmp_eq (tgt := 16) hx hb dX12_setsAs_2 (by decide) (fun c => absurd c (by decide)) (fun c => ?_)
  refine lv_iload_n hx hb dX12_setsAs_5 rfl (lv_at hl 1 rfl) ?_
  refine lv_iconst (v := 4) hx hb dX12_setsAs_6 ic_4 ?_
  refine lv_icmp_eq (tgt := 16) hx hb dX12_setsAs_7 (by decide) (fun c => absurd c (by decide)) (fun c => ?_)
  refine lv_iload_n hx hb dX12_setsAs_10 rfl (lv_at hl 1 rfl) ?_
  refine lv_bipush (v := 7) hx hb dX12_setsAs_11 bp_7 ?_
  refine lv_icmp_ne (tgt := 31) hx hb dX12_setsAs_13 (by decide) (fun c => ?_) (fun c => absurd c (by decide))
  refine lv_iload_n hx hb dX12_setsAs_31 rfl (lv_at hl 1 rfl) ?_
  refine lv_bipush (v := 6) hx hb dX12_setsAs_32 bp_6 ?_
  refine lv_icmp_ne (tgt := 52) hx hb dX12_setsAs_34 (by decide) (fun c => ?_) (fun c => absurd c (by decide))
  refine lv_aload_n hx hb dX12_setsAs_52 rfl (lv_at hl 0 rfl) ?_
  refine lv_iconst (v := 1) hx hb dX12_setsAs_53 ic_1 ?_
  have q_2 : (f 0 48).toInt = 3 := (congrArg Int32.toInt (show f 0 48 = 3 from hf_0_48)).trans (by decide)
  refine sg_callv (va_runV (As := [.int 1]) (rest := []) ⟨hx, hb, hml, hown, hts⟩ (kX12_begins_1_f3 l D ca za h hh f L Q hI hf_0_48 (by have k0 : (1 : Int32).toInt = 1 := ti_1; omega) H.size) (sl_c12_begins_0_0_0_0_12 hts ⟨Nat.le_of_ble_eq_true rfl, Nat.le_of_ble_eq_true rfl⟩) (sl_vM_0 hA hK hP hS hZ) rfl rfl hl.1 rfl (lv_room (Nat.le_of_ble_eq_true rfl)) dX12_setsAs_54 ⟨Nat.le_refl _, Nat.le_refl _⟩) hA hS (fun f_4 L_5 Q_6 H locs hq hP hS => ?_)
  obtain ⟨⟨hI, hk_f_4, eL9, eQ9⟩, p_7, u_8⟩ := hq
  rw [eL9, eQ9] at hP; clear eL9 eQ9
  have hF : sgK WkX12_setsAs_5_f3_f5 f f_4 := sgK.tr hF hk_f_4 (by decide +kernel)
  obtain ⟨v_9, ev_9⟩ : ∃ z : Int32, z = f_4 0 48 := ⟨_, rfl⟩
  have q_10 : 0 ≤ v_9.toInt ∧ v_9.toInt ≤ 19 := by rw [ev_9]; exact hI 0 48
  have q_11 : (f_4 0 48).toInt = v_9.toInt := (congrArg Int32.toInt (show f_4 0 48 = v_9 from ev_9.symm))
  refine lv_iload_n hx hb dX12_setsAs_57 rfl (lv_at hl 2 rfl) ?_
  refine lv_aload_n hx hb dX12_setsAs_58 rfl (lv_at hl 0 rfl) ?_
  refine sl_gM_0_50_12 (v := (f_4 0 50)) hx hb hts hown hK hP rfl dX12_setsAs_59 ?_
  refine lv_topi (fun v_13 ev_13 => ?_)
  have q_14 : 0 ≤ v_13.toInt ∧ v_13.toInt ≤ 49 := by rw [ev_13]; exact hI 0 50
  refine lv_iadd hx hb dX12_setsAs_62 ?_
  refine lv_topi (fun v_15 ev_15 => ?_)
  exact hret _ _ _ _ (v_15) f_4 L Q dX12_setsAs_63 hP hS ⟨⟨hI, hF, rfl, rfl⟩, trivial, ⟨by omega, by omega⟩, (Eq.trans (Eq.symm (hs.trans ((spl_e u_8 (spl_e ev_9 (spl_e ev_13 (spl_e ev_15 rfl))))))) hsp)⟩

abbrev WkX12_sitsAs_0_f2_f5 : List (Nat × Nat × Option Nat) := [(0, 0, some 48), (21, 21, some 2), (21, 21, some 3)]
set_option maxHeartbeats 4000000 in
set_option maxRecDepth 100000 in
theorem kX12_sitsAs_0_f2_f5 (l : Launch) (D : va_G) (ca : Nat → ClassId) (za h : Nat → Nat) (hh : sgH 26 h) (f : sg_F) (L : sg_L) (Q : sg_Q) (hI : sgI loM hiM f) (x1 : Int32) (hf_0_48 : f 0 48 = 2) (hf_0_49 : f 0 49 = 5) (p0 : 2 ≤ (f 0 48).toInt ∧ (f 0 48).toInt ≤ 2) (sz : Nat) : Met l yX12_sitsAs gwX12_sitsAs { frames := 2, cells := 0, slots := 0, locals := 43 } (sgP D vwCl (tyX ca) 26 h (eM ca h) zcM za f L Q sz [.ref (h 0), .int 0, .int x1]) (sgQi D vwCl 26 h (eM ca h) sz (fun r f1 L1 Q1 => ((sgI loM hiM f1 ∧ sgK WkX12_sitsAs_0_f2_f5 f f1 ∧ L1 = L ∧ Q1 = Q) ∧ True ∧ (4 ≤ (f1 0 48).toInt ∧ (f1 0 48).toInt ≤ 4) ∧ (r, f1) = sX12_sitsAs_0_f2_f5 x1 f L))) 0 0 (sgA 26 h sz) := by
  refine sg_ofWi (cc := cX12_sitsAs) (maxL := 4) RX12 (by decide) rfl rfl (Nat.le_of_ble_eq_true rfl) ?_
  intro p e s m below meth cd Qz ls hx hb hml hown hts hK hZ hP hS hl hret
  have hA := sgY.self (n := 26) (h := h) (sz := s.heap.size)
  have hl : lv_has ls 4 [(0, .ref (h 0)), (1, .int 0), (2, .int x1)] := hl
  obtain ⟨H, hH⟩ : ∃ z : Heap, z = s.heap := ⟨_, rfl⟩
  obtain ⟨locs, hlo⟩ : ∃ z : List Loc, z = [] := ⟨_, rfl⟩
  have hP : va_P D vwCl (sgw 26 h (eM ca h) f L Q) H := by rw [hH]; exact hP
  have hS : va_S (sgA 26 h s.heap.size) s.heap H locs := by rw [hH, hlo]; exact hS
  suffices hgo : W p l e ({ frames := 2, cells := 0, slots := 0, locals := 43 }) s m ([.ref (h 0), .int 0, .int x1] : List Value).toArray below meth cd H locs 0 0 Qz (F0 m 0 ls []) by rw [hH, hlo] at hgo; exact hgo
  clear hH hlo
  obtain ⟨sp, hsp⟩ : ∃ z : Int32 × sg_F, z = sX12_sitsAs_0_f2_f5 x1 f L := ⟨_, rfl⟩
  have hs : sp = sX12_sitsAs_0_f2_f5 x1 f L := hsp
  have o_1 : (f 0 48).toInt = 2 := (congrArg Int32.toInt (show f 0 48 = 2 from hf_0_48)).trans (by decide)
  have hF : sgK WkX12_sitsAs_0_f2_f5 f f := sgK.rf
  refine lv_iload_n hx hb dX12_sitsAs_0 rfl (lv_at hl 1 rfl) ?_
  refine lv_iconst (v := 3) hx hb dX12_sitsAs_1 ic_3 ?_
  refine lv_icmp_eq (tgt := 10) hx hb dX12_sitsAs_2 (by decide) (fun c => absurd c (by decide)) (fun c => ?_)
  refine lv_iload_n hx hb dX12_sitsAs_5 rfl (lv_at hl 1 rfl) ?_
  refine lv_iconst (v := 5) hx hb dX12_sitsAs_6 ic_5 ?_
  refine lv_icmp_ne (tgt := 25) hx hb dX12_sitsAs_7 (by decide) (fun c => ?_) (fun c => absurd c (by decide))
  refine lv_iload_n hx hb dX12_sitsAs_25 rfl (lv_at hl 1 rfl) ?_
  refine lv_iconst (v := 2) hx hb dX12_sitsAs_26 ic_2 ?_
  refine lv_icmp_ne (tgt := 44) hx hb dX12_sitsAs_27 (by decide) (fun c => ?_) (fun c => absurd c (by decide))
  refine lv_iload_n hx hb dX12_sitsAs_44 rfl (lv_at hl 1 rfl) ?_
  refine lv_bipush (v := 7) hx hb dX12_sitsAs_45 bp_7 ?_
  refine lv_icmp_ne (tgt := 75) hx hb dX12_sitsAs_47 (by decide) (fun c => ?_) (fun c => absurd c (by decide))
  refine lv_aload_n hx hb dX12_sitsAs_75 rfl (lv_at hl 0 rfl) ?_
  refine lv_bipush (v := 10) hx hb dX12_sitsAs_76 bp_10 ?_
  have q_2 : (f 0 48).toInt = 2 := (congrArg Int32.toInt (show f 0 48 = 2 from hf_0_48)).trans (by decide)
  refine sg_callv (va_runV (As := [.int 10]) (rest := []) ⟨hx, hb, hml, hown, hts⟩ (kX12_begins_10_f2 l D ca za h hh f L Q hI hf_0_48 (by have k0 : (10 : Int32).toInt = 10 := ti_10; omega) H.size) (sl_c12_begins_0_0_0_0_12 hts ⟨Nat.le_of_ble_eq_true rfl, Nat.le_of_ble_eq_true rfl⟩) (sl_vM_0 hA hK hP hS hZ) rfl rfl hl.1 rfl (lv_room (Nat.le_of_ble_eq_true rfl)) dX12_sitsAs_78 ⟨Nat.le_refl _, Nat.le_refl _⟩) hA hS (fun f_4 L_5 Q_6 H locs hq hP hS => ?_)
  obtain ⟨⟨hI, hk_f_4, eL9, eQ9⟩, p_7, u_8⟩ := hq
  rw [eL9, eQ9] at hP; clear eL9 eQ9
  have hF : sgK WkX12_sitsAs_0_f2_f5 f f_4 := sgK.tr hF hk_f_4 (by decide +kernel)
  obtain ⟨v_9, ev_9⟩ : ∃ z : Int32, z = f_4 0 48 := ⟨_, rfl⟩
  have q_10 : 0 ≤ v_9.toInt ∧ v_9.toInt ≤ 19 := by rw [ev_9]; exact hI 0 48
  have q_11 : (f_4 0 48).toInt = v_9.toInt := (congrArg Int32.toInt (show f_4 0 48 = v_9 from ev_9.symm))
  refine lv_aload_n hx hb dX12_sitsAs_81 rfl (lv_at hl 0 rfl) ?_
  refine lv_aload_n hx hb dX12_sitsAs_82 rfl (lv_at hl 0 rfl) ?_
  refine sl_gM_0_49_12 (v := 5) hx hb hts hown hK hP (show f_4 0 49 = 5 from ((hk_f_4 0 49 (by decide)).trans hf_0_49)) dX12_sitsAs_83 ?_
  refine lv_iload_n hx hb dX12_sitsAs_86 rfl (lv_at hl 2 rfl) ?_
  have c_13 : v_9 = 3 := Int32.toInt_inj.mp (by have k9 : (3 : Int32).toInt = 3 := ti_3; omega)
  have q_14 : (f_4 0 48).toInt = 3 := (congrArg Int32.toInt (show f_4 0 48 = 3 from (Eq.trans ev_9.symm c_13))).trans (by decide)
  refine sg_calli (va_runV (As := [.int 5, .int x1]) (rest := []) ⟨hx, hb, hml, hown, hts⟩ (kX12_setsAs_5_f3_f5 l D ca za h hh f_4 L Q hI x1 (Eq.trans ev_9.symm c_13) ((hk_f_4 0 49 (by decide)).trans hf_0_49) (by have k0 : (5 : Int32).toInt = 5 := ti_5; omega) H.size) (sl_c12_setsAs_1_0_0_21_12 hts ⟨Nat.le_of_ble_eq_true rfl, Nat.le_of_ble_eq_true rfl⟩) (sl_vM_0 hA hK hP hS hZ) rfl rfl hl.1 rfl (lv_room (Nat.le_of_ble_eq_true rfl)) dX12_sitsAs_87 ⟨Nat.le_refl _, Nat.le_refl _⟩) hA hS (fun r_19 f_16 L_17 Q_18 H locs hq hP hS => ?_)
  obtain ⟨⟨hI, hk_f_16, eL9, eQ9⟩, hq, p_20, u_21⟩ := hq
  rw [eL9, eQ9] at hP; clear eL9 eQ9
  have hF : sgK WkX12_sitsAs_0_f2_f5 f f_16 := sgK.tr hF hk_f_16 (by decide +kernel)
  obtain ⟨v_22, ev_22⟩ : ∃ z : Int32, z = f_16 0 48 := ⟨_, rfl⟩
  have q_23 : 0 ≤ v_22.toInt ∧ v_22.toInt ≤ 19 := by rw [ev_22]; exact hI 0 48
  have q_24 : (f_16 0 48).toInt = v_22.toInt := (congrArg Int32.toInt (show f_16 0 48 = v_22 from ev_22.symm))
  have k_26 : (5 : Int32).toInt = 5 := by decide
  refine lv_iconst (v := 2) hx hb dX12_sitsAs_90 ic_2 ?_
  refine lv_imul hx hb dX12_sitsAs_91 ?_
  refine lv_topi (fun v_27 ev_27 => ?_)
  exact hret _ _ _ _ (v_27) f_16 L Q dX12_sitsAs_92 hP hS ⟨⟨hI, hF, rfl, rfl⟩, trivial, ⟨by omega, by omega⟩, (Eq.trans (Eq.symm (hs.trans ((spl_e u_8 (spl_e ev_9 (spl2_e u_21 (spl_e ev_22 (spl_e ev_27 rfl)))))))) hsp)⟩

abbrev WkX12_sitsAs_2_f1_f5 : List (Nat × Nat × Option Nat) := [(0, 0, some 48), (21, 21, some 1), (21, 21, some 2), (21, 21, some 3)]
set_option maxHeartbeats 4000000 in
set_option maxRecDepth 100000 in
theorem kX12_sitsAs_2_f1_f5 (l : Launch) (D : va_G) (ca : Nat → ClassId) (za h : Nat → Nat) (hh : sgH 26 h) (f : sg_F) (L : sg_L) (Q : sg_Q) (hI : sgI loM hiM f) (x1 : Int32) (hf_0_48 : f 0 48 = 1) (hf_0_49 : f 0 49 = 5) (p0 : 1 ≤ (f 0 48).toInt ∧ (f 0 48).toInt ≤ 1) (sz : Nat) : Met l yX12_sitsAs gwX12_sitsAs { frames := 3, cells := 0, slots := 0, locals := 66 } (sgP D vwCl (tyX ca) 26 h (eM ca h) zcM za f L Q sz [.ref (h 0), .int 2, .int x1]) (sgQi D vwCl 26 h (eM ca h) sz (fun r f1 L1 Q1 => ((sgI loM hiM f1 ∧ sgK WkX12_sitsAs_2_f1_f5 f f1 ∧ L1 = L ∧ Q1 = Q) ∧ True ∧ (4 ≤ (f1 0 48).toInt ∧ (f1 0 48).toInt ≤ 4) ∧ (r, f1) = sX12_sitsAs_2_f1_f5 x1 f L))) 0 0 (sgA 26 h sz) := by
  refine sg_ofWi (cc := cX12_sitsAs) (maxL := 4) RX12 (by decide) rfl rfl (Nat.le_of_ble_eq_true rfl) ?_
  intro p e s m below meth cd Qz ls hx hb hml hown hts hK hZ hP hS hl hret
  have hA := sgY.self (n := 26) (h := h) (sz := s.heap.size)
  have hl : lv_has ls 4 [(0, .ref (h 0)), (1, .int 2), (2, .int x1)] := hl
  obtain ⟨H, hH⟩ : ∃ z : Heap, z = s.heap := ⟨_, rfl⟩
  obtain ⟨locs, hlo⟩ : ∃ z : List Loc, z = [] := ⟨_, rfl⟩
  have hP : va_P D vwCl (sgw 26 h (eM ca h) f L Q) H := by rw [hH]; exact hP
  have hS : va_S (sgA 26 h s.heap.size) s.heap H locs := by rw [hH, hlo]; exact hS
  suffices hgo : W p l e ({ frames := 3, cells := 0, slots := 0, locals := 66 }) s m ([.ref (h 0), .int 2, .int x1] : List Value).toArray below meth cd H locs 0 0 Qz (F0 m 0 ls []) by rw [hH, hlo] at hgo; exact hgo
  clear hH hlo
  obtain ⟨sp, hsp⟩ : ∃ z : Int32 × sg_F, z = sX12_sitsAs_2_f1_f5 x1 f L := ⟨_, rfl⟩
  have hs : sp = sX12_sitsAs_2_f1_f5 x1 f L := hsp
  have o_1 : (f 0 48).toInt = 1 := (congrArg Int32.toInt (show f 0 48 = 1 from hf_0_48)).trans (by decide)
  have hF : sgK WkX12_sitsAs_2_f1_f5 f f := sgK.rf
  refine lv_iload_n hx hb dX12_sitsAs_0 rfl (lv_at hl 1 rfl) ?_
  refine lv_iconst (v := 3) hx hb dX12_sitsAs_1 ic_3 ?_
  refine lv_icmp_eq (tgt := 10) hx hb dX12_sitsAs_2 (by decide) (fun c => absurd c (by decide)) (fun c => ?_)
  refine lv_iload_n hx hb dX12_sitsAs_5 rfl (lv_at hl 1 rfl) ?_
  refine lv_iconst (v := 5) hx hb dX12_sitsAs_6 ic_5 ?_
  refine lv_icmp_ne (tgt := 25) hx hb dX12_sitsAs_7 (by decide) (fun c => ?_) (fun c => absurd c (by decide))
  refine lv_iload_n hx hb dX12_sitsAs_25 rfl (lv_at hl 1 rfl) ?_
  refine lv_iconst (v := 2) hx hb dX12_sitsAs_26 ic_2 ?_
  refine lv_icmp_ne (tgt := 44) hx hb dX12_sitsAs_27 (by decide) (fun c => absurd c (by decide)) (fun c => ?_)
  refine lv_aload_n hx hb dX12_sitsAs_30 rfl (lv_at hl 0 rfl) ?_
  refine lv_bipush (v := 30) hx hb dX12_sitsAs_31 bp_30 ?_
  have q_2 : (f 0 48).toInt = 1 := (congrArg Int32.toInt (show f 0 48 = 1 from hf_0_48)).trans (by decide)
  refine sg_callv (va_runV (As := [.int 30]) (rest := []) ⟨hx, hb, hml, hown, hts⟩ (kX12_begins_30_f1 l D ca za h hh f L Q hI hf_0_48 (by have k0 : (30 : Int32).toInt = 30 := ti_30; omega) H.size) (sl_c12_begins_0_0_0_0_12 hts ⟨Nat.le_of_ble_eq_true rfl, Nat.le_of_ble_eq_true rfl⟩) (sl_vM_0 hA hK hP hS hZ) rfl rfl hl.1 rfl (lv_room (Nat.le_of_ble_eq_true rfl)) dX12_sitsAs_33 ⟨Nat.le_refl _, Nat.le_refl _⟩) hA hS (fun f_4 L_5 Q_6 H locs hq hP hS => ?_)
  obtain ⟨⟨hI, hk_f_4, eL9, eQ9⟩, p_7, u_8⟩ := hq
  rw [eL9, eQ9] at hP; clear eL9 eQ9
  have hF : sgK WkX12_sitsAs_2_f1_f5 f f_4 := sgK.tr hF hk_f_4 (by decide +kernel)
  obtain ⟨v_9, ev_9⟩ : ∃ z : Int32, z = f_4 0 48 := ⟨_, rfl⟩
  have q_10 : 0 ≤ v_9.toInt ∧ v_9.toInt ≤ 19 := by rw [ev_9]; exact hI 0 48
  have q_11 : (f_4 0 48).toInt = v_9.toInt := (congrArg Int32.toInt (show f_4 0 48 = v_9 from ev_9.symm))
  refine lv_aload_n hx hb dX12_sitsAs_36 rfl (lv_at hl 0 rfl) ?_
  refine lv_iconst (v := 0) hx hb dX12_sitsAs_37 ic_0 ?_
  refine lv_iload_n hx hb dX12_sitsAs_38 rfl (lv_at hl 2 rfl) ?_
  have c_13 : v_9 = 2 := Int32.toInt_inj.mp (by have k9 : (2 : Int32).toInt = 2 := ti_2; omega)
  have q_14 : (f_4 0 48).toInt = 2 := (congrArg Int32.toInt (show f_4 0 48 = 2 from (Eq.trans ev_9.symm c_13))).trans (by decide)
  refine sg_calli (va_runV (As := [.int 0, .int x1]) (rest := []) ⟨hx, hb, hml, hown, hts⟩ (kX12_sitsAs_0_f2_f5 l D ca za h hh f_4 L Q hI x1 (Eq.trans ev_9.symm c_13) ((hk_f_4 0 49 (by decide)).trans hf_0_49) (by have k0 : (0 : Int32).toInt = 0 := ti_0; omega) H.size) (sl_c12_sitsAs_2_0_0_43_12 hts ⟨Nat.le_of_ble_eq_true rfl, Nat.le_of_ble_eq_true rfl⟩) (sl_vM_0 hA hK hP hS hZ) rfl rfl hl.1 rfl (lv_room (Nat.le_of_ble_eq_true rfl)) dX12_sitsAs_39 ⟨Nat.le_refl _, Nat.le_refl _⟩) hA hS (fun r_19 f_16 L_17 Q_18 H locs hq hP hS => ?_)
  obtain ⟨⟨hI, hk_f_16, eL9, eQ9⟩, hq, p_20, u_21⟩ := hq
  rw [eL9, eQ9] at hP; clear eL9 eQ9
  have hF : sgK WkX12_sitsAs_2_f1_f5 f f_16 := sgK.tr hF hk_f_16 (by decide +kernel)
  obtain ⟨v_22, ev_22⟩ : ∃ z : Int32, z = f_16 0 48 := ⟨_, rfl⟩
  have q_23 : 0 ≤ v_22.toInt ∧ v_22.toInt ≤ 19 := by rw [ev_22]; exact hI 0 48
  have q_24 : (f_16 0 48).toInt = v_22.toInt := (congrArg Int32.toInt (show f_16 0 48 = v_22 from ev_22.symm))
  have k_26 : (0 : Int32).toInt = 0 := by decide
  refine lv_ineg hx hb dX12_sitsAs_42 ?_
  refine lv_topi (fun v_27 ev_27 => ?_)
  exact hret _ _ _ _ (v_27) f_16 L Q dX12_sitsAs_43 hP hS ⟨⟨hI, hF, rfl, rfl⟩, trivial, ⟨by omega, by omega⟩, (Eq.trans (Eq.symm (hs.trans ((spl_e u_8 (spl_e ev_9 (spl2_e u_21 (spl_e ev_22 (spl_e ev_27 rfl)))))))) hsp)⟩

abbrev WkX12_sitsAs_5_f0_f5 : List (Nat × Nat × Option Nat) := [(0, 0, some 48), (21, 21, some 0), (21, 21, some 1), (21, 21, some 2), (21, 21, some 3)]
set_option maxHeartbeats 4000000 in
set_option maxRecDepth 100000 in
theorem kX12_sitsAs_5_f0_f5 (l : Launch) (D : va_G) (ca : Nat → ClassId) (za h : Nat → Nat) (hh : sgH 26 h) (f : sg_F) (L : sg_L) (Q : sg_Q) (hI : sgI loM hiM f) (x1 : Int32) (hf_0_48 : f 0 48 = 0) (hf_0_49 : f 0 49 = 5) (p0 : 0 ≤ (f 0 48).toInt ∧ (f 0 48).toInt ≤ 0) (sz : Nat) : Met l yX12_sitsAs gwX12_sitsAs { frames := 4, cells := 0, slots := 0, locals := 89 } (sgP D vwCl (tyX ca) 26 h (eM ca h) zcM za f L Q sz [.ref (h 0), .int 5, .int x1]) (sgQi D vwCl 26 h (eM ca h) sz (fun r f1 L1 Q1 => ((sgI loM hiM f1 ∧ sgK WkX12_sitsAs_5_f0_f5 f f1 ∧ L1 = L ∧ Q1 = Q) ∧ True ∧ (4 ≤ (f1 0 48).toInt ∧ (f1 0 48).toInt ≤ 4) ∧ (r, f1) = sX12_sitsAs_5_f0_f5 x1 f L))) 0 0 (sgA 26 h sz) := by
  refine sg_ofWi (cc := cX12_sitsAs) (maxL := 4) RX12 (by decide) rfl rfl (Nat.le_of_ble_eq_true rfl) ?_
  intro p e s m below meth cd Qz ls hx hb hml hown hts hK hZ hP hS hl hret
  have hA := sgY.self (n := 26) (h := h) (sz := s.heap.size)
  have hl : lv_has ls 4 [(0, .ref (h 0)), (1, .int 5), (2, .int x1)] := hl
  obtain ⟨H, hH⟩ : ∃ z : Heap, z = s.heap := ⟨_, rfl⟩
  obtain ⟨locs, hlo⟩ : ∃ z : List Loc, z = [] := ⟨_, rfl⟩
  have hP : va_P D vwCl (sgw 26 h (eM ca h) f L Q) H := by rw [hH]; exact hP
  have hS : va_S (sgA 26 h s.heap.size) s.heap H locs := by rw [hH, hlo]; exact hS
  suffices hgo : W p l e ({ frames := 4, cells := 0, slots := 0, locals := 89 }) s m ([.ref (h 0), .int 5, .int x1] : List Value).toArray below meth cd H locs 0 0 Qz (F0 m 0 ls []) by rw [hH, hlo] at hgo; exact hgo
  clear hH hlo
  obtain ⟨sp, hsp⟩ : ∃ z : Int32 × sg_F, z = sX12_sitsAs_5_f0_f5 x1 f L := ⟨_, rfl⟩
  have hs : sp = sX12_sitsAs_5_f0_f5 x1 f L := hsp
  have o_1 : (f 0 48).toInt = 0 := (congrArg Int32.toInt (show f 0 48 = 0 from hf_0_48)).trans (by decide)
  have hF : sgK WkX12_sitsAs_5_f0_f5 f f := sgK.rf
  have blk_10 : ∀ (fp_10 : sg_F) (H : Heap) (locs : List Loc) (ls : Array Slot), sp = sX12_sitsAs_5_f0_f5_b10 x1 fp_10 L → 0 ≤ (fp_10 0 48).toInt ∧ (fp_10 0 48).toInt ≤ 0 → 5 ≤ (fp_10 0 49).toInt ∧ (fp_10 0 49).toInt ≤ 5 → sgI loM hiM fp_10 → sgK WkX12_sitsAs_5_f0_f5 f fp_10 → va_P D vwCl (sgw 26 h (eM ca h) fp_10 L Q) H → va_S (sgA 26 h s.heap.size) s.heap H locs → lv_has ls 4 [(0, .ref (h 0)), (2, .int x1)] → W p l e ({ frames := 4, cells := 0, slots := 0, locals := 89 }) s m ([.ref (h 0), .int 5, .int x1] : List Value).toArray below meth cd H locs 0 0 Qz (F0 m 10 ls []) := by
    intro fp_10 H locs ls hs hy0_10 hy1_10 hI hF hP hS hl
    obtain ⟨v_2, ev_2⟩ : ∃ z : Int32, z = fp_10 0 48 := ⟨_, rfl⟩
    have q_3 : 0 ≤ v_2.toInt ∧ v_2.toInt ≤ 19 := by rw [ev_2]; exact hI 0 48
    have q_4 : (fp_10 0 48).toInt = v_2.toInt := by rw [ev_2]
    obtain ⟨v_5, ev_5⟩ : ∃ z : Int32, z = fp_10 0 49 := ⟨_, rfl⟩
    have q_6 : 0 ≤ v_5.toInt ∧ v_5.toInt ≤ 7 := by rw [ev_5]; exact hI 0 49
    have q_7 : (fp_10 0 49).toInt = v_5.toInt := by rw [ev_5]
    have m_8 : fp_10 0 49 = 5 := (hF 0 49 (by decide)).trans hf_0_49
    refine lv_aload_n hx hb dX12_sitsAs_10 rfl (lv_at hl 0 rfl) ?_
    refine lv_bipush (v := 41) hx hb dX12_sitsAs_11 bp_41 ?_
    have c_9 : v_2 = 0 := Int32.toInt_inj.mp (by have k9 : (0 : Int32).toInt = 0 := ti_0; omega)
    have q_10 : (fp_10 0 48).toInt = 0 := (congrArg Int32.toInt (show fp_10 0 48 = 0 from (Eq.trans ev_2.symm c_9))).trans (by decide)
    refine sg_callv (va_runV (As := [.int 41]) (rest := []) ⟨hx, hb, hml, hown, hts⟩ (kX12_begins_41_f0 l D ca za h hh fp_10 L Q hI (Eq.trans ev_2.symm c_9) (by have k0 : (41 : Int32).toInt = 41 := ti_41; omega) H.size) (sl_c12_begins_0_0_0_0_12 hts ⟨Nat.le_of_ble_eq_true rfl, Nat.le_of_ble_eq_true rfl⟩) (sl_vM_0 hA hK hP hS hZ) rfl rfl hl.1 rfl (lv_room (Nat.le_of_ble_eq_true rfl)) dX12_sitsAs_13 ⟨Nat.le_refl _, Nat.le_refl _⟩) hA hS (fun f_12 L_13 Q_14 H locs hq hP hS => ?_)
    obtain ⟨⟨hI, hk_f_12, eL9, eQ9⟩, p_15, u_16⟩ := hq
    rw [eL9, eQ9] at hP; clear eL9 eQ9
    have hF : sgK WkX12_sitsAs_5_f0_f5 f f_12 := sgK.tr hF hk_f_12 (by decide +kernel)
    obtain ⟨v_17, ev_17⟩ : ∃ z : Int32, z = f_12 0 48 := ⟨_, rfl⟩
    have q_18 : 0 ≤ v_17.toInt ∧ v_17.toInt ≤ 19 := by rw [ev_17]; exact hI 0 48
    have q_19 : (f_12 0 48).toInt = v_17.toInt := (congrArg Int32.toInt (show f_12 0 48 = v_17 from ev_17.symm))
    refine lv_aload_n hx hb dX12_sitsAs_16 rfl (lv_at hl 0 rfl) ?_
    refine lv_iconst (v := 2) hx hb dX12_sitsAs_17 ic_2 ?_
    refine lv_iload_n hx hb dX12_sitsAs_18 rfl (lv_at hl 1 rfl) ?_
    refine lv_iconst (v := 1) hx hb dX12_sitsAs_19 ic_1 ?_
    refine lv_iadd hx hb dX12_sitsAs_20 ?_
    refine lv_topi (fun v_21 ev_21 => ?_)
    have c_22 : v_17 = 1 := Int32.toInt_inj.mp (by have k9 : (1 : Int32).toInt = 1 := ti_1; omega)
    have q_23 : (f_12 0 48).toInt = 1 := (congrArg Int32.toInt (show f_12 0 48 = 1 from (Eq.trans ev_17.symm c_22))).trans (by decide)
    refine sg_calli (va_runV (As := [.int 2, .int v_21]) (rest := []) ⟨hx, hb, hml, hown, hts⟩ (kX12_sitsAs_2_f1_f5 l D ca za h hh f_12 L Q hI v_21 (Eq.trans ev_17.symm c_22) ((hk_f_12 0 49 (by decide)).trans m_8) (by have k0 : (2 : Int32).toInt = 2 := ti_2; omega) H.size) (sl_c12_sitsAs_3_0_0_66_12 hts ⟨Nat.le_of_ble_eq_true rfl, Nat.le_of_ble_eq_true rfl⟩) (sl_vM_0 hA hK hP hS hZ) rfl rfl hl.1 rfl (lv_room (Nat.le_of_ble_eq_true rfl)) dX12_sitsAs_21 ⟨Nat.le_refl _, Nat.le_refl _⟩) hA hS (fun r_28 f_25 L_26 Q_27 H locs hq hP hS => ?_)
    obtain ⟨⟨hI, hk_f_25, eL9, eQ9⟩, hq, p_29, u_30⟩ := hq
    rw [eL9, eQ9] at hP; clear eL9 eQ9
    have hF : sgK WkX12_sitsAs_5_f0_f5 f f_25 := sgK.tr hF hk_f_25 (by decide +kernel)
    obtain ⟨v_31, ev_31⟩ : ∃ z : Int32, z = f_25 0 48 := ⟨_, rfl⟩
    have q_32 : 0 ≤ v_31.toInt ∧ v_31.toInt ≤ 19 := by rw [ev_31]; exact hI 0 48
    have q_33 : (f_25 0 48).toInt = v_31.toInt := (congrArg Int32.toInt (show f_25 0 48 = v_31 from ev_31.symm))
    have k_35 : (2 : Int32).toInt = 2 := by decide
    exact hret _ _ _ _ (r_28) f_25 L Q dX12_sitsAs_24 hP hS ⟨⟨hI, hF, rfl, rfl⟩, trivial, ⟨by omega, by omega⟩, (Eq.trans (Eq.symm (hs.trans ((spl_e ev_2 (spl_e ev_5 (spl_e u_16 (spl_e ev_17 (spl_e ev_21 (spl2_e u_30 (spl_e ev_31 rfl)))))))))) hsp)⟩
  refine lv_iload_n hx hb dX12_sitsAs_0 rfl (lv_at hl 1 rfl) ?_
  refine lv_iconst (v := 3) hx hb dX12_sitsAs_1 ic_3 ?_
  refine lv_icmp_eq (tgt := 10) hx hb dX12_sitsAs_2 (by decide) (fun c => absurd c (by decide)) (fun c => ?_)
  refine lv_iload_n hx hb dX12_sitsAs_5 rfl (lv_at hl 1 rfl) ?_
  refine lv_iconst (v := 5) hx hb dX12_sitsAs_6 ic_5 ?_
  refine lv_icmp_ne (tgt := 25) hx hb dX12_sitsAs_7 (by decide) (fun c => absurd c (by decide)) (fun c => ?_)
  exact blk_10 f _ _ _ hs (by have zz0_48 : (f 0 48).toInt = 0 := (congrArg Int32.toInt (show f 0 48 = 0 from hf_0_48)).trans (by decide); exact ⟨by omega, by omega⟩) (by have zz0_49 : (f 0 49).toInt = 5 := (congrArg Int32.toInt (show f 0 49 = 5 from hf_0_49)).trans (by decide); exact ⟨by omega, by omega⟩) hI hF hP hS (lv_sub hl [0, 2] rfl)

abbrev WkX12_begins_70_f1 : List (Nat × Nat × Option Nat) := [(0, 0, some 48), (21, 21, some 1)]
set_option maxHeartbeats 4000000 in
set_option maxRecDepth 100000 in
theorem kX12_begins_70_f1 (l : Launch) (D : va_G) (ca : Nat → ClassId) (za h : Nat → Nat) (hh : sgH 26 h) (f : sg_F) (L : sg_L) (Q : sg_Q) (hI : sgI loM hiM f) (hf_0_48 : f 0 48 = 1) (p0 : 1 ≤ (f 0 48).toInt ∧ (f 0 48).toInt ≤ 1) (sz : Nat) : Met l yX12_begins gwX12_begins { frames := 0, cells := 0, slots := 0, locals := 0 } (sgP D vwCl (tyX ca) 26 h (eM ca h) zcM za f L Q sz [.ref (h 0), .int 70]) (sgQv D vwCl 26 h (eM ca h) sz (fun f1 L1 Q1 => ((sgI loM hiM f1 ∧ sgK WkX12_begins_70_f1 f f1 ∧ L1 = L ∧ Q1 = Q) ∧ (2 ≤ (f1 0 48).toInt ∧ (f1 0 48).toInt ≤ 2) ∧ (f1) = sX12_begins_70_f1 f L))) 0 0 (sgA 26 h sz) := by
  refine sg_ofWv (cc := cX12_begins) (maxL := 2) RX12 (by decide) rfl rfl (Nat.le_of_ble_eq_true rfl) ?_
  intro p e s m below meth cd Qz ls hx hb hml hown hts hK hZ hP hS hl hret
  have hA := sgY.self (n := 26) (h := h) (sz := s.heap.size)
  have hl : lv_has ls 2 [(0, .ref (h 0)), (1, .int 70)] := hl
  obtain ⟨H, hH⟩ : ∃ z : Heap, z = s.heap := ⟨_, rfl⟩
  obtain ⟨locs, hlo⟩ : ∃ z : List Loc, z = [] := ⟨_, rfl⟩
  have hP : va_P D vwCl (sgw 26 h (eM ca h) f L Q) H := by rw [hH]; exact hP
  have hS : va_S (sgA 26 h s.heap.size) s.heap H locs := by rw [hH, hlo]; exact hS
  suffices hgo : W p l e ({ frames := 0, cells := 0, slots := 0, locals := 0 }) s m ([.ref (h 0), .int 70] : List Value).toArray below meth cd H locs 0 0 Qz (F0 m 0 ls []) by rw [hH, hlo] at hgo; exact hgo
  clear hH hlo
  obtain ⟨sp, hsp⟩ : ∃ z : sg_F, z = sX12_begins_70_f1 f L := ⟨_, rfl⟩
  have hs : sp = sX12_begins_70_f1 f L := hsp
  have o_1 : (f 0 48).toInt = 1 := (congrArg Int32.toInt (show f 0 48 = 1 from hf_0_48)).trans (by decide)
  have hF : sgK WkX12_begins_70_f1 f f := sgK.rf
  have blk_19 : ∀ (fp_19 : sg_F) (H : Heap) (locs : List Loc) (ls : Array Slot), sp = sX12_begins_70_f1_b19 fp_19 L → 1 ≤ (fp_19 0 48).toInt ∧ (fp_19 0 48).toInt ≤ 1 → sgI loM hiM fp_19 → sgK WkX12_begins_70_f1 f fp_19 → va_P D vwCl (sgw 26 h (eM ca h) fp_19 L Q) H → va_S (sgA 26 h s.heap.size) s.heap H locs → lv_has ls 2 [(0, .ref (h 0))] → W p l e ({ frames := 0, cells := 0, slots := 0, locals := 0 }) s m ([.ref (h 0), .int 70] : List Value).toArray below meth cd H locs 0 0 Qz (F0 m 19 ls []) := by
    intro fp_19 H locs ls hs hy0_19 hI hF hP hS hl
    obtain ⟨v_2, ev_2⟩ : ∃ z : Int32, z = fp_19 0 48 := ⟨_, rfl⟩
    have q_3 : 0 ≤ v_2.toInt ∧ v_2.toInt ≤ 19 := by rw [ev_2]; exact hI 0 48
    have q_4 : (fp_19 0 48).toInt = v_2.toInt := by rw [ev_2]
    refine lv_aload_n hx hb dX12_begins_19 rfl (lv_at hl 0 rfl) ?_
    refine lv_dup hx hb dX12_begins_20 rfl ?_
    refine sl_gM_0_48_12 (v := v_2) hx hb hts hown hK hP (show fp_19 0 48 = v_2 from ev_2.symm) dX12_begins_21 ?_
    refine lv_iconst (v := 1) hx hb dX12_begins_24 ic_1 ?_
    refine lv_iadd hx hb dX12_begins_25 ?_
    refine lv_topi (fun v_5 ev_5 => ?_)
    have q_6 : v_5.toInt = v_2.toInt + 1 := by rw [ev_5]; first | exact cm_add ti_1 (by omega) (by omega) | (have k1 : (1 : Int32).toInt = 1 := ti_1; exact (bn_addI (by omega) (by omega)).trans (by omega))
    refine sl_pM_0_48_12 (x := v_5) hx hb hts hown hh hA hK hP hS dX12_begins_26 (fun f_7 H locs ef_7 hP hS => ?_)
    have hI : sgI loM hiM f_7 := by rw [ef_7]; exact sgI.put hI 0 48 (show 0 ≤ (v_5 : Int32).toInt ∧ (v_5 : Int32).toInt ≤ 19 from ⟨by omega, by omega⟩)
    have hF : sgK WkX12_begins_70_f1 f f_7 := sgK.put hF ef_7 (by rfl)
    have q_8 : (f_7 0 48).toInt = v_5.toInt := (congrArg Int32.toInt (show f_7 0 48 = v_5 from (by rw [ef_7, sg_up_s, sgu_s])))
    exact hret _ _ _ _ f_7 L Q dX12_begins_29 hP hS ⟨⟨hI, hF, rfl, rfl⟩, ⟨by omega, by omega⟩, (Eq.trans (Eq.symm (hs.trans ((spl_e ev_2 (spl_e ev_5 (spl_e ef_7 rfl)))))) hsp)⟩
  refine lv_aload_n hx hb dX12_begins_0 rfl (lv_at hl 0 rfl) ?_
  refine sl_gM_0_48_12 (v := 1) hx hb hts hown hK hP (show f 0 48 = 1 from hf_0_48) dX12_begins_1 ?_
  refine lv_bipush (v := 24) hx hb dX12_begins_4 bp_24 ?_
  refine lv_icmp_ge (tgt := 19) hx hb dX12_begins_6 (by decide) (fun c => absurd c (by decide)) (fun c => ?_)
  refine lv_aload_n hx hb dX12_begins_9 rfl (lv_at hl 0 rfl) ?_
  refine sl_gM_0_47_12 hx hb hts hown hK hP dX12_begins_10 ?_
  refine lv_aload_n hx hb dX12_begins_13 rfl (lv_at hl 0 rfl) ?_
  refine sl_gM_0_48_12 (v := 1) hx hb hts hown hK hP (show f 0 48 = 1 from hf_0_48) dX12_begins_14 ?_
  refine lv_iload_n hx hb dX12_begins_17 rfl (lv_at hl 1 rfl) ?_
  refine sg_iast hx hb hh hA hK hP hS 21 (by decide) 0 (fun _ => rfl) rfl (i := 1) (x := 70) (vp_in_iff.mpr (by decide)) dX12_begins_18 (fun f_10 H locs ef_10 hP hS => ?_)
  have ef_10 : f_10 = sg_up f 21 (sgu (f 21) 1 70) := ef_10
  have hI : sgI loM hiM f_10 := by rw [ef_10]; exact sgI.put hI 21 1 (show 0 ≤ (70 : Int32).toInt ∧ (70 : Int32).toInt ≤ 81 from by decide)
  have hF : sgK WkX12_begins_70_f1 f f_10 := sgK.put hF ef_10 (by rfl)
  exact blk_19 f_10 _ _ _ (hs.trans ((spl_e ef_10 rfl))) (by have zz0_48 : (f_10 0 48).toInt = 1 := (congrArg Int32.toInt (show f_10 0 48 = 1 from (by rw [ef_10, sg_up_n (by decide)]; exact hf_0_48))).trans (by decide); exact ⟨by omega, by omega⟩) hI hF hP hS (lv_sub hl [0] rfl)

abbrev WkX12_setsAs_0_f2_f6 : List (Nat × Nat × Option Nat) := [(0, 0, some 48), (21, 21, some 2)]
set_option maxHeartbeats 4000000 in
set_option maxRecDepth 100000 in
theorem kX12_setsAs_0_f2_f6 (l : Launch) (D : va_G) (ca : Nat → ClassId) (za h : Nat → Nat) (hh : sgH 26 h) (f : sg_F) (L : sg_L) (Q : sg_Q) (hI : sgI loM hiM f) (x1 : Int32) (hf_0_48 : f 0 48 = 2) (hf_0_49 : f 0 49 = 6) (p0 : 2 ≤ (f 0 48).toInt ∧ (f 0 48).toInt ≤ 2) (sz : Nat) : Met l yX12_setsAs gwX12_setsAs { frames := 1, cells := 0, slots := 0, locals := 21 } (sgP D vwCl (tyX ca) 26 h (eM ca h) zcM za f L Q sz [.ref (h 0), .int 0, .int x1]) (sgQi D vwCl 26 h (eM ca h) sz (fun r f1 L1 Q1 => ((sgI loM hiM f1 ∧ sgK WkX12_setsAs_0_f2_f6 f f1 ∧ L1 = L ∧ Q1 = Q) ∧ True ∧ (3 ≤ (f1 0 48).toInt ∧ (f1 0 48).toInt ≤ 3) ∧ (r, f1) = sX12_setsAs_0_f2_f6 x1 f L))) 0 0 (sgA 26 h sz) := by
  refine sg_ofWi (cc := cX12_setsAs) (maxL := 3) RX12 (by decide) rfl rfl (Nat.le_of_ble_eq_true rfl) ?_
  intro p e s m below meth cd Qz ls hx hb hml hown hts hK hZ hP hS hl hret
  have hA := sgY.self (n := 26) (h := h) (sz := s.heap.size)
  have hl : lv_has ls 3 [(0, .ref (h 0)), (1, .int 0), (2, .int x1)] := hl
  obtain ⟨H, hH⟩ : ∃ z : Heap, z = s.heap := ⟨_, rfl⟩
  obtain ⟨locs, hlo⟩ : ∃ z : List Loc, z = [] := ⟨_, rfl⟩
  have hP : va_P D vwCl (sgw 26 h (eM ca h) f L Q) H := by rw [hH]; exact hP
  have hS : va_S (sgA 26 h s.heap.size) s.heap H locs := by rw [hH, hlo]; exact hS
  suffices hgo : W p l e ({ frames := 1, cells := 0, slots := 0, locals := 21 }) s m ([.ref (h 0), .int 0, .int x1] : List Value).toArray below meth cd H locs 0 0 Qz (F0 m 0 ls []) by rw [hH, hlo] at hgo; exact hgo
  clear hH hlo
  obtain ⟨sp, hsp⟩ : ∃ z : Int32 × sg_F, z = sX12_setsAs_0_f2_f6 x1 f L := ⟨_, rfl⟩
  have hs : sp = sX12_setsAs_0_f2_f6 x1 f L := hsp
  have o_1 : (f 0 48).toInt = 2 := (congrArg Int32.toInt (show f 0 48 = 2 from hf_0_48)).trans (by decide)
  have hF : sgK WkX12_setsAs_0_f2_f6 f f := sgK.rf
  refine lv_iload_n hx hb dX12_setsAs_0 rfl (lv_at hl 1 rfl) ?_
  refine lv_iconst (v := 1) hx hb dX12_setsAs_1 ic_1 ?_
  refine lv_icmp_eq (tgt := 16) hx hb dX12_setsAs_2 (by decide) (fun c => absurd c (by decide)) (fun c => ?_)
  refine lv_iload_n hx hb dX12_setsAs_5 rfl (lv_at hl 1 rfl) ?_
  refine lv_iconst (v := 4) hx hb dX12_setsAs_6 ic_4 ?_
  refine lv_icmp_eq (tgt := 16) hx hb dX12_setsAs_7 (by decide) (fun c => absurd c (by decide)) (fun c => ?_)
  refine lv_iload_n hx hb dX12_setsAs_10 rfl (lv_at hl 1 rfl) ?_
  refine lv_bipush (v := 7) hx hb dX12_setsAs_11 bp_7 ?_
  refine lv_icmp_ne (tgt := 31) hx hb dX12_setsAs_13 (by decide) (fun c => ?_) (fun c => absurd c (by decide))
  refine lv_iload_n hx hb dX12_setsAs_31 rfl (lv_at hl 1 rfl) ?_
  refine lv_bipush (v := 6) hx hb dX12_setsAs_32 bp_6 ?_
  refine lv_icmp_ne (tgt := 52) hx hb dX12_setsAs_34 (by decide) (fun c => ?_) (fun c => absurd c (by decide))
  refine lv_aload_n hx hb dX12_setsAs_52 rfl (lv_at hl 0 rfl) ?_
  refine lv_iconst (v := 1) hx hb dX12_setsAs_53 ic_1 ?_
  have q_2 : (f 0 48).toInt = 2 := (congrArg Int32.toInt (show f 0 48 = 2 from hf_0_48)).trans (by decide)
  refine sg_callv (va_runV (As := [.int 1]) (rest := []) ⟨hx, hb, hml, hown, hts⟩ (kX12_begins_1_f2 l D ca za h hh f L Q hI hf_0_48 (by have k0 : (1 : Int32).toInt = 1 := ti_1; omega) H.size) (sl_c12_begins_0_0_0_0_12 hts ⟨Nat.le_of_ble_eq_true rfl, Nat.le_of_ble_eq_true rfl⟩) (sl_vM_0 hA hK hP hS hZ) rfl rfl hl.1 rfl (lv_room (Nat.le_of_ble_eq_true rfl)) dX12_setsAs_54 ⟨Nat.le_refl _, Nat.le_refl _⟩) hA hS (fun f_4 L_5 Q_6 H locs hq hP hS => ?_)
  obtain ⟨⟨hI, hk_f_4, eL9, eQ9⟩, p_7, u_8⟩ := hq
  rw [eL9, eQ9] at hP; clear eL9 eQ9
  have hF : sgK WkX12_setsAs_0_f2_f6 f f_4 := sgK.tr hF hk_f_4 (by decide +kernel)
  obtain ⟨v_9, ev_9⟩ : ∃ z : Int32, z = f_4 0 48 := ⟨_, rfl⟩
  have q_10 : 0 ≤ v_9.toInt ∧ v_9.toInt ≤ 19 := by rw [ev_9]; exact hI 0 48
  have q_11 : (f_4 0 48).toInt = v_9.toInt := (congrArg Int32.toInt (show f_4 0 48 = v_9 from ev_9.symm))
  refine lv_iload_n hx hb dX12_setsAs_57 rfl (lv_at hl 2 rfl) ?_
  refine lv_aload_n hx hb dX12_setsAs_58 rfl (lv_at hl 0 rfl) ?_
  refine sl_gM_0_50_12 (v := (f_4 0 50)) hx hb hts hown hK hP rfl dX12_setsAs_59 ?_
  refine lv_topi (fun v_13 ev_13 => ?_)
  have q_14 : 0 ≤ v_13.toInt ∧ v_13.toInt ≤ 49 := by rw [ev_13]; exact hI 0 50
  refine lv_iadd hx hb dX12_setsAs_62 ?_
  refine lv_topi (fun v_15 ev_15 => ?_)
  exact hret _ _ _ _ (v_15) f_4 L Q dX12_setsAs_63 hP hS ⟨⟨hI, hF, rfl, rfl⟩, trivial, ⟨by omega, by omega⟩, (Eq.trans (Eq.symm (hs.trans ((spl_e u_8 (spl_e ev_9 (spl_e ev_13 (spl_e ev_15 rfl))))))) hsp)⟩

abbrev WkX12_setsAs_6_f1_f6 : List (Nat × Nat × Option Nat) := [(0, 0, some 48), (21, 21, some 1), (21, 21, some 2)]
set_option maxHeartbeats 4000000 in
set_option maxRecDepth 100000 in
theorem kX12_setsAs_6_f1_f6 (l : Launch) (D : va_G) (ca : Nat → ClassId) (za h : Nat → Nat) (hh : sgH 26 h) (f : sg_F) (L : sg_L) (Q : sg_Q) (hI : sgI loM hiM f) (x1 : Int32) (hf_0_48 : f 0 48 = 1) (hf_0_49 : f 0 49 = 6) (p0 : 1 ≤ (f 0 48).toInt ∧ (f 0 48).toInt ≤ 1) (sz : Nat) : Met l yX12_setsAs gwX12_setsAs { frames := 2, cells := 0, slots := 0, locals := 43 } (sgP D vwCl (tyX ca) 26 h (eM ca h) zcM za f L Q sz [.ref (h 0), .int 6, .int x1]) (sgQi D vwCl 26 h (eM ca h) sz (fun r f1 L1 Q1 => ((sgI loM hiM f1 ∧ sgK WkX12_setsAs_6_f1_f6 f f1 ∧ L1 = L ∧ Q1 = Q) ∧ True ∧ (3 ≤ (f1 0 48).toInt ∧ (f1 0 48).toInt ≤ 3) ∧ (r, f1) = sX12_setsAs_6_f1_f6 x1 f L))) 0 0 (sgA 26 h sz) := by
  refine sg_ofWi (cc := cX12_setsAs) (maxL := 3) RX12 (by decide) rfl rfl (Nat.le_of_ble_eq_true rfl) ?_
  intro p e s m below meth cd Qz ls hx hb hml hown hts hK hZ hP hS hl hret
  have hA := sgY.self (n := 26) (h := h) (sz := s.heap.size)
  have hl : lv_has ls 3 [(0, .ref (h 0)), (1, .int 6), (2, .int x1)] := hl
  obtain ⟨H, hH⟩ : ∃ z : Heap, z = s.heap := ⟨_, rfl⟩
  obtain ⟨locs, hlo⟩ : ∃ z : List Loc, z = [] := ⟨_, rfl⟩
  have hP : va_P D vwCl (sgw 26 h (eM ca h) f L Q) H := by rw [hH]; exact hP
  have hS : va_S (sgA 26 h s.heap.size) s.heap H locs := by rw [hH, hlo]; exact hS
  suffices hgo : W p l e ({ frames := 2, cells := 0, slots := 0, locals := 43 }) s m ([.ref (h 0), .int 6, .int x1] : List Value).toArray below meth cd H locs 0 0 Qz (F0 m 0 ls []) by rw [hH, hlo] at hgo; exact hgo
  clear hH hlo
  obtain ⟨sp, hsp⟩ : ∃ z : Int32 × sg_F, z = sX12_setsAs_6_f1_f6 x1 f L := ⟨_, rfl⟩
  have hs : sp = sX12_setsAs_6_f1_f6 x1 f L := hsp
  have o_1 : (f 0 48).toInt = 1 := (congrArg Int32.toInt (show f 0 48 = 1 from hf_0_48)).trans (by decide)
  have hF : sgK WkX12_setsAs_6_f1_f6 f f := sgK.rf
  refine lv_iload_n hx hb dX12_setsAs_0 rfl (lv_at hl 1 rfl) ?_
  refine lv_iconst (v := 1) hx hb dX12_setsAs_1 ic_1 ?_
  refine lv_icmp_eq (tgt := 16) hx hb dX12_setsAs_2 (by decide) (fun c => absurd c (by decide)) (fun c => ?_)
  refine lv_iload_n hx hb dX12_setsAs_5 rfl (lv_at hl 1 rfl) ?_
  refine lv_iconst (v := 4) hx hb dX12_setsAs_6 ic_4 ?_
  refine lv_icmp_eq (tgt := 16) hx hb dX12_setsAs_7 (by decide) (fun c => absurd c (by decide)) (fun c => ?_)
  refine lv_iload_n hx hb dX12_setsAs_10 rfl (lv_at hl 1 rfl) ?_
  refine lv_bipush (v := 7) hx hb dX12_setsAs_11 bp_7 ?_
  refine lv_icmp_ne (tgt := 31) hx hb dX12_setsAs_13 (by decide) (fun c => ?_) (fun c => absurd c (by decide))
  refine lv_iload_n hx hb dX12_setsAs_31 rfl (lv_at hl 1 rfl) ?_
  refine lv_bipush (v := 6) hx hb dX12_setsAs_32 bp_6 ?_
  refine lv_icmp_ne (tgt := 52) hx hb dX12_setsAs_34 (by decide) (fun c => absurd c (by decide)) (fun c => ?_)
  refine lv_aload_n hx hb dX12_setsAs_37 rfl (lv_at hl 0 rfl) ?_
  refine lv_bipush (v := 70) hx hb dX12_setsAs_38 bp_70 ?_
  have q_2 : (f 0 48).toInt = 1 := (congrArg Int32.toInt (show f 0 48 = 1 from hf_0_48)).trans (by decide)
  refine sg_callv (va_runV (As := [.int 70]) (rest := []) ⟨hx, hb, hml, hown, hts⟩ (kX12_begins_70_f1 l D ca za h hh f L Q hI hf_0_48 (by have k0 : (70 : Int32).toInt = 70 := ti_70; omega) H.size) (sl_c12_begins_0_0_0_0_12 hts ⟨Nat.le_of_ble_eq_true rfl, Nat.le_of_ble_eq_true rfl⟩) (sl_vM_0 hA hK hP hS hZ) rfl rfl hl.1 rfl (lv_room (Nat.le_of_ble_eq_true rfl)) dX12_setsAs_40 ⟨Nat.le_refl _, Nat.le_refl _⟩) hA hS (fun f_4 L_5 Q_6 H locs hq hP hS => ?_)
  obtain ⟨⟨hI, hk_f_4, eL9, eQ9⟩, p_7, u_8⟩ := hq
  rw [eL9, eQ9] at hP; clear eL9 eQ9
  have hF : sgK WkX12_setsAs_6_f1_f6 f f_4 := sgK.tr hF hk_f_4 (by decide +kernel)
  obtain ⟨v_9, ev_9⟩ : ∃ z : Int32, z = f_4 0 48 := ⟨_, rfl⟩
  have q_10 : 0 ≤ v_9.toInt ∧ v_9.toInt ≤ 19 := by rw [ev_9]; exact hI 0 48
  have q_11 : (f_4 0 48).toInt = v_9.toInt := (congrArg Int32.toInt (show f_4 0 48 = v_9 from ev_9.symm))
  refine lv_aload_n hx hb dX12_setsAs_43 rfl (lv_at hl 0 rfl) ?_
  refine lv_iconst (v := 0) hx hb dX12_setsAs_44 ic_0 ?_
  refine lv_iload_n hx hb dX12_setsAs_45 rfl (lv_at hl 2 rfl) ?_
  have c_13 : v_9 = 2 := Int32.toInt_inj.mp (by have k9 : (2 : Int32).toInt = 2 := ti_2; omega)
  have q_14 : (f_4 0 48).toInt = 2 := (congrArg Int32.toInt (show f_4 0 48 = 2 from (Eq.trans ev_9.symm c_13))).trans (by decide)
  refine sg_calli (va_runV (As := [.int 0, .int x1]) (rest := []) ⟨hx, hb, hml, hown, hts⟩ (kX12_setsAs_0_f2_f6 l D ca za h hh f_4 L Q hI x1 (Eq.trans ev_9.symm c_13) ((hk_f_4 0 49 (by decide)).trans hf_0_49) (by have k0 : (0 : Int32).toInt = 0 := ti_0; omega) H.size) (sl_c12_setsAs_1_0_0_21_12 hts ⟨Nat.le_of_ble_eq_true rfl, Nat.le_of_ble_eq_true rfl⟩) (sl_vM_0 hA hK hP hS hZ) rfl rfl hl.1 rfl (lv_room (Nat.le_of_ble_eq_true rfl)) dX12_setsAs_46 ⟨Nat.le_refl _, Nat.le_refl _⟩) hA hS (fun r_19 f_16 L_17 Q_18 H locs hq hP hS => ?_)
  obtain ⟨⟨hI, hk_f_16, eL9, eQ9⟩, hq, p_20, u_21⟩ := hq
  rw [eL9, eQ9] at hP; clear eL9 eQ9
  have hF : sgK WkX12_setsAs_6_f1_f6 f f_16 := sgK.tr hF hk_f_16 (by decide +kernel)
  obtain ⟨v_22, ev_22⟩ : ∃ z : Int32, z = f_16 0 48 := ⟨_, rfl⟩
  have q_23 : 0 ≤ v_22.toInt ∧ v_22.toInt ≤ 19 := by rw [ev_22]; exact hI 0 48
  have q_24 : (f_16 0 48).toInt = v_22.toInt := (congrArg Int32.toInt (show f_16 0 48 = v_22 from ev_22.symm))
  have k_26 : (0 : Int32).toInt = 0 := by decide
  refine lv_iconst (v := 2) hx hb dX12_setsAs_49 ic_2 ?_
  refine lv_imul hx hb dX12_setsAs_50 ?_
  refine lv_topi (fun v_27 ev_27 => ?_)
  exact hret _ _ _ _ (v_27) f_16 L Q dX12_setsAs_51 hP hS ⟨⟨hI, hF, rfl, rfl⟩, trivial, ⟨by omega, by omega⟩, (Eq.trans (Eq.symm (hs.trans ((spl_e u_8 (spl_e ev_9 (spl2_e u_21 (spl_e ev_22 (spl_e ev_27 rfl)))))))) hsp)⟩

abbrev WkX12_sitsAs_6_f0_f6 : List (Nat × Nat × Option Nat) := [(0, 0, some 48), (21, 21, some 0), (21, 21, some 1), (21, 21, some 2)]
set_option maxHeartbeats 4000000 in
set_option maxRecDepth 100000 in
theorem kX12_sitsAs_6_f0_f6 (l : Launch) (D : va_G) (ca : Nat → ClassId) (za h : Nat → Nat) (hh : sgH 26 h) (f : sg_F) (L : sg_L) (Q : sg_Q) (hI : sgI loM hiM f) (x1 : Int32) (hf_0_48 : f 0 48 = 0) (hf_0_49 : f 0 49 = 6) (p0 : 0 ≤ (f 0 48).toInt ∧ (f 0 48).toInt ≤ 0) (sz : Nat) : Met l yX12_sitsAs gwX12_sitsAs { frames := 3, cells := 0, slots := 0, locals := 65 } (sgP D vwCl (tyX ca) 26 h (eM ca h) zcM za f L Q sz [.ref (h 0), .int 6, .int x1]) (sgQi D vwCl 26 h (eM ca h) sz (fun r f1 L1 Q1 => ((sgI loM hiM f1 ∧ sgK WkX12_sitsAs_6_f0_f6 f f1 ∧ L1 = L ∧ Q1 = Q) ∧ True ∧ (3 ≤ (f1 0 48).toInt ∧ (f1 0 48).toInt ≤ 3) ∧ (r, f1) = sX12_sitsAs_6_f0_f6 x1 f L))) 0 0 (sgA 26 h sz) := by
  refine sg_ofWi (cc := cX12_sitsAs) (maxL := 4) RX12 (by decide) rfl rfl (Nat.le_of_ble_eq_true rfl) ?_
  intro p e s m below meth cd Qz ls hx hb hml hown hts hK hZ hP hS hl hret
  have hA := sgY.self (n := 26) (h := h) (sz := s.heap.size)
  have hl : lv_has ls 4 [(0, .ref (h 0)), (1, .int 6), (2, .int x1)] := hl
  obtain ⟨H, hH⟩ : ∃ z : Heap, z = s.heap := ⟨_, rfl⟩
  obtain ⟨locs, hlo⟩ : ∃ z : List Loc, z = [] := ⟨_, rfl⟩
  have hP : va_P D vwCl (sgw 26 h (eM ca h) f L Q) H := by rw [hH]; exact hP
  have hS : va_S (sgA 26 h s.heap.size) s.heap H locs := by rw [hH, hlo]; exact hS
  suffices hgo : W p l e ({ frames := 3, cells := 0, slots := 0, locals := 65 }) s m ([.ref (h 0), .int 6, .int x1] : List Value).toArray below meth cd H locs 0 0 Qz (F0 m 0 ls []) by rw [hH, hlo] at hgo; exact hgo
  clear hH hlo
  obtain ⟨sp, hsp⟩ : ∃ z : Int32 × sg_F, z = sX12_sitsAs_6_f0_f6 x1 f L := ⟨_, rfl⟩
  have hs : sp = sX12_sitsAs_6_f0_f6 x1 f L := hsp
  have o_1 : (f 0 48).toInt = 0 := (congrArg Int32.toInt (show f 0 48 = 0 from hf_0_48)).trans (by decide)
  have hF : sgK WkX12_sitsAs_6_f0_f6 f f := sgK.rf
  refine lv_iload_n hx hb dX12_sitsAs_0 rfl (lv_at hl 1 rfl) ?_
  refine lv_iconst (v := 3) hx hb dX12_sitsAs_1 ic_3 ?_
  refine lv_icmp_eq (tgt := 10) hx hb dX12_sitsAs_2 (by decide) (fun c => absurd c (by decide)) (fun c => ?_)
  refine lv_iload_n hx hb dX12_sitsAs_5 rfl (lv_at hl 1 rfl) ?_
  refine lv_iconst (v := 5) hx hb dX12_sitsAs_6 ic_5 ?_
  refine lv_icmp_ne (tgt := 25) hx hb dX12_sitsAs_7 (by decide) (fun c => ?_) (fun c => absurd c (by decide))
  refine lv_iload_n hx hb dX12_sitsAs_25 rfl (lv_at hl 1 rfl) ?_
  refine lv_iconst (v := 2) hx hb dX12_sitsAs_26 ic_2 ?_
  refine lv_icmp_ne (tgt := 44) hx hb dX12_sitsAs_27 (by decide) (fun c => ?_) (fun c => absurd c (by decide))
  refine lv_iload_n hx hb dX12_sitsAs_44 rfl (lv_at hl 1 rfl) ?_
  refine lv_bipush (v := 7) hx hb dX12_sitsAs_45 bp_7 ?_
  refine lv_icmp_ne (tgt := 75) hx hb dX12_sitsAs_47 (by decide) (fun c => ?_) (fun c => absurd c (by decide))
  refine lv_aload_n hx hb dX12_sitsAs_75 rfl (lv_at hl 0 rfl) ?_
  refine lv_bipush (v := 10) hx hb dX12_sitsAs_76 bp_10 ?_
  have q_2 : (f 0 48).toInt = 0 := (congrArg Int32.toInt (show f 0 48 = 0 from hf_0_48)).trans (by decide)
  refine sg_callv (va_runV (As := [.int 10]) (rest := []) ⟨hx, hb, hml, hown, hts⟩ (kX12_begins_10_f0 l D ca za h hh f L Q hI hf_0_48 (by have k0 : (10 : Int32).toInt = 10 := ti_10; omega) H.size) (sl_c12_begins_0_0_0_0_12 hts ⟨Nat.le_of_ble_eq_true rfl, Nat.le_of_ble_eq_true rfl⟩) (sl_vM_0 hA hK hP hS hZ) rfl rfl hl.1 rfl (lv_room (Nat.le_of_ble_eq_true rfl)) dX12_sitsAs_78 ⟨Nat.le_refl _, Nat.le_refl _⟩) hA hS (fun f_4 L_5 Q_6 H locs hq hP hS => ?_)
  obtain ⟨⟨hI, hk_f_4, eL9, eQ9⟩, p_7, u_8⟩ := hq
  rw [eL9, eQ9] at hP; clear eL9 eQ9
  have hF : sgK WkX12_sitsAs_6_f0_f6 f f_4 := sgK.tr hF hk_f_4 (by decide +kernel)
  obtain ⟨v_9, ev_9⟩ : ∃ z : Int32, z = f_4 0 48 := ⟨_, rfl⟩
  have q_10 : 0 ≤ v_9.toInt ∧ v_9.toInt ≤ 19 := by rw [ev_9]; exact hI 0 48
  have q_11 : (f_4 0 48).toInt = v_9.toInt := (congrArg Int32.toInt (show f_4 0 48 = v_9 from ev_9.symm))
  refine lv_aload_n hx hb dX12_sitsAs_81 rfl (lv_at hl 0 rfl) ?_
  refine lv_aload_n hx hb dX12_sitsAs_82 rfl (lv_at hl 0 rfl) ?_
  refine sl_gM_0_49_12 (v := 6) hx hb hts hown hK hP (show f_4 0 49 = 6 from ((hk_f_4 0 49 (by decide)).trans hf_0_49)) dX12_sitsAs_83 ?_
  refine lv_iload_n hx hb dX12_sitsAs_86 rfl (lv_at hl 2 rfl) ?_
  have c_13 : v_9 = 1 := Int32.toInt_inj.mp (by have k9 : (1 : Int32).toInt = 1 := ti_1; omega)
  have q_14 : (f_4 0 48).toInt = 1 := (congrArg Int32.toInt (show f_4 0 48 = 1 from (Eq.trans ev_9.symm c_13))).trans (by decide)
  refine sg_calli (va_runV (As := [.int 6, .int x1]) (rest := []) ⟨hx, hb, hml, hown, hts⟩ (kX12_setsAs_6_f1_f6 l D ca za h hh f_4 L Q hI x1 (Eq.trans ev_9.symm c_13) ((hk_f_4 0 49 (by decide)).trans hf_0_49) (by have k0 : (6 : Int32).toInt = 6 := ti_6; omega) H.size) (sl_c12_setsAs_2_0_0_43_12 hts ⟨Nat.le_of_ble_eq_true rfl, Nat.le_of_ble_eq_true rfl⟩) (sl_vM_0 hA hK hP hS hZ) rfl rfl hl.1 rfl (lv_room (Nat.le_of_ble_eq_true rfl)) dX12_sitsAs_87 ⟨Nat.le_refl _, Nat.le_refl _⟩) hA hS (fun r_19 f_16 L_17 Q_18 H locs hq hP hS => ?_)
  obtain ⟨⟨hI, hk_f_16, eL9, eQ9⟩, hq, p_20, u_21⟩ := hq
  rw [eL9, eQ9] at hP; clear eL9 eQ9
  have hF : sgK WkX12_sitsAs_6_f0_f6 f f_16 := sgK.tr hF hk_f_16 (by decide +kernel)
  obtain ⟨v_22, ev_22⟩ : ∃ z : Int32, z = f_16 0 48 := ⟨_, rfl⟩
  have q_23 : 0 ≤ v_22.toInt ∧ v_22.toInt ≤ 19 := by rw [ev_22]; exact hI 0 48
  have q_24 : (f_16 0 48).toInt = v_22.toInt := (congrArg Int32.toInt (show f_16 0 48 = v_22 from ev_22.symm))
  have k_26 : (6 : Int32).toInt = 6 := by decide
  refine lv_iconst (v := 2) hx hb dX12_sitsAs_90 ic_2 ?_
  refine lv_imul hx hb dX12_sitsAs_91 ?_
  refine lv_topi (fun v_27 ev_27 => ?_)
  exact hret _ _ _ _ (v_27) f_16 L Q dX12_sitsAs_92 hP hS ⟨⟨hI, hF, rfl, rfl⟩, trivial, ⟨by omega, by omega⟩, (Eq.trans (Eq.symm (hs.trans ((spl_e u_8 (spl_e ev_9 (spl2_e u_21 (spl_e ev_22 (spl_e ev_27 rfl)))))))) hsp)⟩

abbrev WkX12_begins_80_f0 : List (Nat × Nat × Option Nat) := [(0, 0, some 48), (21, 21, some 0)]
set_option maxHeartbeats 4000000 in
set_option maxRecDepth 100000 in
theorem kX12_begins_80_f0 (l : Launch) (D : va_G) (ca : Nat → ClassId) (za h : Nat → Nat) (hh : sgH 26 h) (f : sg_F) (L : sg_L) (Q : sg_Q) (hI : sgI loM hiM f) (hf_0_48 : f 0 48 = 0) (p0 : 0 ≤ (f 0 48).toInt ∧ (f 0 48).toInt ≤ 0) (sz : Nat) : Met l yX12_begins gwX12_begins { frames := 0, cells := 0, slots := 0, locals := 0 } (sgP D vwCl (tyX ca) 26 h (eM ca h) zcM za f L Q sz [.ref (h 0), .int 80]) (sgQv D vwCl 26 h (eM ca h) sz (fun f1 L1 Q1 => ((sgI loM hiM f1 ∧ sgK WkX12_begins_80_f0 f f1 ∧ L1 = L ∧ Q1 = Q) ∧ (1 ≤ (f1 0 48).toInt ∧ (f1 0 48).toInt ≤ 1) ∧ (f1) = sX12_begins_80_f0 f L))) 0 0 (sgA 26 h sz) := by
  refine sg_ofWv (cc := cX12_begins) (maxL := 2) RX12 (by decide) rfl rfl (Nat.le_of_ble_eq_true rfl) ?_
  intro p e s m below meth cd Qz ls hx hb hml hown hts hK hZ hP hS hl hret
  have hA := sgY.self (n := 26) (h := h) (sz := s.heap.size)
  have hl : lv_has ls 2 [(0, .ref (h 0)), (1, .int 80)] := hl
  obtain ⟨H, hH⟩ : ∃ z : Heap, z = s.heap := ⟨_, rfl⟩
  obtain ⟨locs, hlo⟩ : ∃ z : List Loc, z = [] := ⟨_, rfl⟩
  have hP : va_P D vwCl (sgw 26 h (eM ca h) f L Q) H := by rw [hH]; exact hP
  have hS : va_S (sgA 26 h s.heap.size) s.heap H locs := by rw [hH, hlo]; exact hS
  suffices hgo : W p l e ({ frames := 0, cells := 0, slots := 0, locals := 0 }) s m ([.ref (h 0), .int 80] : List Value).toArray below meth cd H locs 0 0 Qz (F0 m 0 ls []) by rw [hH, hlo] at hgo; exact hgo
  clear hH hlo
  obtain ⟨sp, hsp⟩ : ∃ z : sg_F, z = sX12_begins_80_f0 f L := ⟨_, rfl⟩
  have hs : sp = sX12_begins_80_f0 f L := hsp
  have o_1 : (f 0 48).toInt = 0 := (congrArg Int32.toInt (show f 0 48 = 0 from hf_0_48)).trans (by decide)
  have hF : sgK WkX12_begins_80_f0 f f := sgK.rf
  have blk_19 : ∀ (fp_19 : sg_F) (H : Heap) (locs : List Loc) (ls : Array Slot), sp = sX12_begins_80_f0_b19 fp_19 L → 0 ≤ (fp_19 0 48).toInt ∧ (fp_19 0 48).toInt ≤ 0 → sgI loM hiM fp_19 → sgK WkX12_begins_80_f0 f fp_19 → va_P D vwCl (sgw 26 h (eM ca h) fp_19 L Q) H → va_S (sgA 26 h s.heap.size) s.heap H locs → lv_has ls 2 [(0, .ref (h 0))] → W p l e ({ frames := 0, cells := 0, slots := 0, locals := 0 }) s m ([.ref (h 0), .int 80] : List Value).toArray below meth cd H locs 0 0 Qz (F0 m 19 ls []) := by
    intro fp_19 H locs ls hs hy0_19 hI hF hP hS hl
    obtain ⟨v_2, ev_2⟩ : ∃ z : Int32, z = fp_19 0 48 := ⟨_, rfl⟩
    have q_3 : 0 ≤ v_2.toInt ∧ v_2.toInt ≤ 19 := by rw [ev_2]; exact hI 0 48
    have q_4 : (fp_19 0 48).toInt = v_2.toInt := by rw [ev_2]
    refine lv_aload_n hx hb dX12_begins_19 rfl (lv_at hl 0 rfl) ?_
    refine lv_dup hx hb dX12_begins_20 rfl ?_
    refine sl_gM_0_48_12 (v := v_2) hx hb hts hown hK hP (show fp_19 0 48 = v_2 from ev_2.symm) dX12_begins_21 ?_
    refine lv_iconst (v := 1) hx hb dX12_begins_24 ic_1 ?_
    refine lv_iadd hx hb dX12_begins_25 ?_
    refine lv_topi (fun v_5 ev_5 => ?_)
    have q_6 : v_5.toInt = v_2.toInt + 1 := by rw [ev_5]; first | exact cm_add ti_1 (by omega) (by omega) | (have k1 : (1 : Int32).toInt = 1 := ti_1; exact (bn_addI (by omega) (by omega)).trans (by omega))
    refine sl_pM_0_48_12 (x := v_5) hx hb hts hown hh hA hK hP hS dX12_begins_26 (fun f_7 H locs ef_7 hP hS => ?_)
    have hI : sgI loM hiM f_7 := by rw [ef_7]; exact sgI.put hI 0 48 (show 0 ≤ (v_5 : Int32).toInt ∧ (v_5 : Int32).toInt ≤ 19 from ⟨by omega, by omega⟩)
    have hF : sgK WkX12_begins_80_f0 f f_7 := sgK.put hF ef_7 (by rfl)
    have q_8 : (f_7 0 48).toInt = v_5.toInt := (congrArg Int32.toInt (show f_7 0 48 = v_5 from (by rw [ef_7, sg_up_s, sgu_s])))
    exact hret _ _ _ _ f_7 L Q dX12_begins_29 hP hS ⟨⟨hI, hF, rfl, rfl⟩, ⟨by omega, by omega⟩, (Eq.trans (Eq.symm (hs.trans ((spl_e ev_2 (spl_e ev_5 (spl_e ef_7 rfl)))))) hsp)⟩
  refine lv_aload_n hx hb dX12_begins_0 rfl (lv_at hl 0 rfl) ?_
  refine sl_gM_0_48_12 (v := 0) hx hb hts hown hK hP (show f 0 48 = 0 from hf_0_48) dX12_begins_1 ?_
  refine lv_bipush (v := 24) hx hb dX12_begins_4 bp_24 ?_
  refine lv_icmp_ge (tgt := 19) hx hb dX12_begins_6 (by decide) (fun c => absurd c (by decide)) (fun c => ?_)
  refine lv_aload_n hx hb dX12_begins_9 rfl (lv_at hl 0 rfl) ?_
  refine sl_gM_0_47_12 hx hb hts hown hK hP dX12_begins_10 ?_
  refine lv_aload_n hx hb dX12_begins_13 rfl (lv_at hl 0 rfl) ?_
  refine sl_gM_0_48_12 (v := 0) hx hb hts hown hK hP (show f 0 48 = 0 from hf_0_48) dX12_begins_14 ?_
  refine lv_iload_n hx hb dX12_begins_17 rfl (lv_at hl 1 rfl) ?_
  refine sg_iast hx hb hh hA hK hP hS 21 (by decide) 0 (fun _ => rfl) rfl (i := 0) (x := 80) (vp_in_iff.mpr (by decide)) dX12_begins_18 (fun f_10 H locs ef_10 hP hS => ?_)
  have ef_10 : f_10 = sg_up f 21 (sgu (f 21) 0 80) := ef_10
  have hI : sgI loM hiM f_10 := by rw [ef_10]; exact sgI.put hI 21 0 (show 0 ≤ (80 : Int32).toInt ∧ (80 : Int32).toInt ≤ 81 from by decide)
  have hF : sgK WkX12_begins_80_f0 f f_10 := sgK.put hF ef_10 (by rfl)
  exact blk_19 f_10 _ _ _ (hs.trans ((spl_e ef_10 rfl))) (by have zz0_48 : (f_10 0 48).toInt = 0 := (congrArg Int32.toInt (show f_10 0 48 = 0 from (by rw [ef_10, sg_up_n (by decide)]; exact hf_0_48))).trans (by decide); exact ⟨by omega, by omega⟩) hI hF hP hS (lv_sub hl [0] rfl)

abbrev WkX12_begins_20_f2 : List (Nat × Nat × Option Nat) := [(0, 0, some 48), (21, 21, some 2)]
set_option maxHeartbeats 4000000 in
set_option maxRecDepth 100000 in
theorem kX12_begins_20_f2 (l : Launch) (D : va_G) (ca : Nat → ClassId) (za h : Nat → Nat) (hh : sgH 26 h) (f : sg_F) (L : sg_L) (Q : sg_Q) (hI : sgI loM hiM f) (hf_0_48 : f 0 48 = 2) (p0 : 2 ≤ (f 0 48).toInt ∧ (f 0 48).toInt ≤ 2) (sz : Nat) : Met l yX12_begins gwX12_begins { frames := 0, cells := 0, slots := 0, locals := 0 } (sgP D vwCl (tyX ca) 26 h (eM ca h) zcM za f L Q sz [.ref (h 0), .int 20]) (sgQv D vwCl 26 h (eM ca h) sz (fun f1 L1 Q1 => ((sgI loM hiM f1 ∧ sgK WkX12_begins_20_f2 f f1 ∧ L1 = L ∧ Q1 = Q) ∧ (3 ≤ (f1 0 48).toInt ∧ (f1 0 48).toInt ≤ 3) ∧ (f1) = sX12_begins_20_f2 f L))) 0 0 (sgA 26 h sz) := by
  refine sg_ofWv (cc := cX12_begins) (maxL := 2) RX12 (by decide) rfl rfl (Nat.le_of_ble_eq_true rfl) ?_
  intro p e s m below meth cd Qz ls hx hb hml hown hts hK hZ hP hS hl hret
  have hA := sgY.self (n := 26) (h := h) (sz := s.heap.size)
  have hl : lv_has ls 2 [(0, .ref (h 0)), (1, .int 20)] := hl
  obtain ⟨H, hH⟩ : ∃ z : Heap, z = s.heap := ⟨_, rfl⟩
  obtain ⟨locs, hlo⟩ : ∃ z : List Loc, z = [] := ⟨_, rfl⟩
  have hP : va_P D vwCl (sgw 26 h (eM ca h) f L Q) H := by rw [hH]; exact hP
  have hS : va_S (sgA 26 h s.heap.size) s.heap H locs := by rw [hH, hlo]; exact hS
  suffices hgo : W p l e ({ frames := 0, cells := 0, slots := 0, locals := 0 }) s m ([.ref (h 0), .int 20] : List Value).toArray below meth cd H locs 0 0 Qz (F0 m 0 ls []) by rw [hH, hlo] at hgo; exact hgo
  clear hH hlo
  obtain ⟨sp, hsp⟩ : ∃ z : sg_F, z = sX12_begins_20_f2 f L := ⟨_, rfl⟩
  have hs : sp = sX12_begins_20_f2 f L := hsp
  have o_1 : (f 0 48).toInt = 2 := (congrArg Int32.toInt (show f 0 48 = 2 from hf_0_48)).trans (by decide)
  have hF : sgK WkX12_begins_20_f2 f f := sgK.rf
  have blk_19 : ∀ (fp_19 : sg_F) (H : Heap) (locs : List Loc) (ls : Array Slot), sp = sX12_begins_20_f2_b19 fp_19 L → 2 ≤ (fp_19 0 48).toInt ∧ (fp_19 0 48).toInt ≤ 2 → sgI loM hiM fp_19 → sgK WkX12_begins_20_f2 f fp_19 → va_P D vwCl (sgw 26 h (eM ca h) fp_19 L Q) H → va_S (sgA 26 h s.heap.size) s.heap H locs → lv_has ls 2 [(0, .ref (h 0))] → W p l e ({ frames := 0, cells := 0, slots := 0, locals := 0 }) s m ([.ref (h 0), .int 20] : List Value).toArray below meth cd H locs 0 0 Qz (F0 m 19 ls []) := by
    intro fp_19 H locs ls hs hy0_19 hI hF hP hS hl
    obtain ⟨v_2, ev_2⟩ : ∃ z : Int32, z = fp_19 0 48 := ⟨_, rfl⟩
    have q_3 : 0 ≤ v_2.toInt ∧ v_2.toInt ≤ 19 := by rw [ev_2]; exact hI 0 48
    have q_4 : (fp_19 0 48).toInt = v_2.toInt := by rw [ev_2]
    refine lv_aload_n hx hb dX12_begins_19 rfl (lv_at hl 0 rfl) ?_
    refine lv_dup hx hb dX12_begins_20 rfl ?_
    refine sl_gM_0_48_12 (v := v_2) hx hb hts hown hK hP (show fp_19 0 48 = v_2 from ev_2.symm) dX12_begins_21 ?_
    refine lv_iconst (v := 1) hx hb dX12_begins_24 ic_1 ?_
    refine lv_iadd hx hb dX12_begins_25 ?_
    refine lv_topi (fun v_5 ev_5 => ?_)
    have q_6 : v_5.toInt = v_2.toInt + 1 := by rw [ev_5]; first | exact cm_add ti_1 (by omega) (by omega) | (have k1 : (1 : Int32).toInt = 1 := ti_1; exact (bn_addI (by omega) (by omega)).trans (by omega))
    refine sl_pM_0_48_12 (x := v_5) hx hb hts hown hh hA hK hP hS dX12_begins_26 (fun f_7 H locs ef_7 hP hS => ?_)
    have hI : sgI loM hiM f_7 := by rw [ef_7]; exact sgI.put hI 0 48 (show 0 ≤ (v_5 : Int32).toInt ∧ (v_5 : Int32).toInt ≤ 19 from ⟨by omega, by omega⟩)
    have hF : sgK WkX12_begins_20_f2 f f_7 := sgK.put hF ef_7 (by rfl)
    have q_8 : (f_7 0 48).toInt = v_5.toInt := (congrArg Int32.toInt (show f_7 0 48 = v_5 from (by rw [ef_7, sg_up_s, sgu_s])))
    exact hret _ _ _ _ f_7 L Q dX12_begins_29 hP hS ⟨⟨hI, hF, rfl, rfl⟩, ⟨by omega, by omega⟩, (Eq.trans (Eq.symm (hs.trans ((spl_e ev_2 (spl_e ev_5 (spl_e ef_7 rfl)))))) hsp)⟩
  refine lv_aload_n hx hb dX12_begins_0 rfl (lv_at hl 0 rfl) ?_
  refine sl_gM_0_48_12 (v := 2) hx hb hts hown hK hP (show f 0 48 = 2 from hf_0_48) dX12_begins_1 ?_
  refine lv_bipush (v := 24) hx hb dX12_begins_4 bp_24 ?_
  refine lv_icmp_ge (tgt := 19) hx hb dX12_begins_6 (by decide) (fun c => absurd c (by decide)) (fun c => ?_)
  refine lv_aload_n hx hb dX12_begins_9 rfl (lv_at hl 0 rfl) ?_
  refine sl_gM_0_47_12 hx hb hts hown hK hP dX12_begins_10 ?_
  refine lv_aload_n hx hb dX12_begins_13 rfl (lv_at hl 0 rfl) ?_
  refine sl_gM_0_48_12 (v := 2) hx hb hts hown hK hP (show f 0 48 = 2 from hf_0_48) dX12_begins_14 ?_
  refine lv_iload_n hx hb dX12_begins_17 rfl (lv_at hl 1 rfl) ?_
  refine sg_iast hx hb hh hA hK hP hS 21 (by decide) 0 (fun _ => rfl) rfl (i := 2) (x := 20) (vp_in_iff.mpr (by decide)) dX12_begins_18 (fun f_10 H locs ef_10 hP hS => ?_)
  have ef_10 : f_10 = sg_up f 21 (sgu (f 21) 2 20) := ef_10
  have hI : sgI loM hiM f_10 := by rw [ef_10]; exact sgI.put hI 21 2 (show 0 ≤ (20 : Int32).toInt ∧ (20 : Int32).toInt ≤ 81 from by decide)
  have hF : sgK WkX12_begins_20_f2 f f_10 := sgK.put hF ef_10 (by rfl)
  exact blk_19 f_10 _ _ _ (hs.trans ((spl_e ef_10 rfl))) (by have zz0_48 : (f_10 0 48).toInt = 2 := (congrArg Int32.toInt (show f_10 0 48 = 2 from (by rw [ef_10, sg_up_n (by decide)]; exact hf_0_48))).trans (by decide); exact ⟨by omega, by omega⟩) hI hF hP hS (lv_sub hl [0] rfl)

abbrev WkX12_setsAs_0_f3_f7 : List (Nat × Nat × Option Nat) := [(0, 0, some 48), (21, 21, some 3)]
set_option maxHeartbeats 4000000 in
set_option maxRecDepth 100000 in
theorem kX12_setsAs_0_f3_f7 (l : Launch) (D : va_G) (ca : Nat → ClassId) (za h : Nat → Nat) (hh : sgH 26 h) (f : sg_F) (L : sg_L) (Q : sg_Q) (hI : sgI loM hiM f) (x1 : Int32) (hf_0_48 : f 0 48 = 3) (hf_0_49 : f 0 49 = 7) (p0 : 3 ≤ (f 0 48).toInt ∧ (f 0 48).toInt ≤ 3) (sz : Nat) : Met l yX12_setsAs gwX12_setsAs { frames := 1, cells := 0, slots := 0, locals := 21 } (sgP D vwCl (tyX ca) 26 h (eM ca h) zcM za f L Q sz [.ref (h 0), .int 0, .int x1]) (sgQi D vwCl 26 h (eM ca h) sz (fun r f1 L1 Q1 => ((sgI loM hiM f1 ∧ sgK WkX12_setsAs_0_f3_f7 f f1 ∧ L1 = L ∧ Q1 = Q) ∧ True ∧ (4 ≤ (f1 0 48).toInt ∧ (f1 0 48).toInt ≤ 4) ∧ (r, f1) = sX12_setsAs_0_f3_f7 x1 f L))) 0 0 (sgA 26 h sz) := by
  refine sg_ofWi (cc := cX12_setsAs) (maxL := 3) RX12 (by decide) rfl rfl (Nat.le_of_ble_eq_true rfl) ?_
  intro p e s m below meth cd Qz ls hx hb hml hown hts hK hZ hP hS hl hret
  have hA := sgY.self (n := 26) (h := h) (sz := s.heap.size)
  have hl : lv_has ls 3 [(0, .ref (h 0)), (1, .int 0), (2, .int x1)] := hl
  obtain ⟨H, hH⟩ : ∃ z : Heap, z = s.heap := ⟨_, rfl⟩
  obtain ⟨locs, hlo⟩ : ∃ z : List Loc, z = [] := ⟨_, rfl⟩
  have hP : va_P D vwCl (sgw 26 h (eM ca h) f L Q) H := by rw [hH]; exact hP
  have hS : va_S (sgA 26 h s.heap.size) s.heap H locs := by rw [hH, hlo]; exact hS
  suffices hgo : W p l e ({ frames := 1, cells := 0, slots := 0, locals := 21 }) s m ([.ref (h 0), .int 0, .int x1] : List Value).toArray below meth cd H locs 0 0 Qz (F0 m 0 ls []) by rw [hH, hlo] at hgo; exact hgo
  clear hH hlo
  obtain ⟨sp, hsp⟩ : ∃ z : Int32 × sg_F, z = sX12_setsAs_0_f3_f7 x1 f L := ⟨_, rfl⟩
  have hs : sp = sX12_setsAs_0_f3_f7 x1 f L := hsp
  have o_1 : (f 0 48).toInt = 3 := (congrArg Int32.toInt (show f 0 48 = 3 from hf_0_48)).trans (by decide)
  have hF : sgK WkX12_setsAs_0_f3_f7 f f := sgK.rf
  refine lv_iload_n hx hb dX12_setsAs_0 rfl (lv_at hl 1 rfl) ?_
  refine lv_iconst (v := 1) hx hb dX12_setsAs_1 ic_1 ?_
  refine lv_icmp_eq (tgt := 16) hx hb dX12_setsAs_2 (by decide) (fun c => absurd c (by decide)) (fun c => ?_)
  refine lv_iload_n hx hb dX12_setsAs_5 rfl (lv_at hl 1 rfl) ?_
  refine lv_iconst (v := 4) hx hb dX12_setsAs_6 ic_4 ?_
  refine lv_icmp_eq (tgt := 16) hx hb dX12_setsAs_7 (by decide) (fun c => absurd c (by decide)) (fun c => ?_)
  refine lv_iload_n hx hb dX12_setsAs_10 rfl (lv_at hl 1 rfl) ?_
  refine lv_bipush (v := 7) hx hb dX12_setsAs_11 bp_7 ?_
  refine lv_icmp_ne (tgt := 31) hx hb dX12_setsAs_13 (by decide) (fun c => ?_) (fun c => absurd c (by decide))
  refine lv_iload_n hx hb dX12_setsAs_31 rfl (lv_at hl 1 rfl) ?_
  refine lv_bipush (v := 6) hx hb dX12_setsAs_32 bp_6 ?_
  refine lv_icmp_ne (tgt := 52) hx hb dX12_setsAs_34 (by decide) (fun c => ?_) (fun c => absurd c (by decide))
  refine lv_aload_n hx hb dX12_setsAs_52 rfl (lv_at hl 0 rfl) ?_
  refine lv_iconst (v := 1) hx hb dX12_setsAs_53 ic_1 ?_
  have q_2 : (f 0 48).toInt = 3 := (congrArg Int32.toInt (show f 0 48 = 3 from hf_0_48)).trans (by decide)
  refine sg_callv (va_runV (As := [.int 1]) (rest := []) ⟨hx, hb, hml, hown, hts⟩ (kX12_begins_1_f3 l D ca za h hh f L Q hI hf_0_48 (by have k0 : (1 : Int32).toInt = 1 := ti_1; omega) H.size) (sl_c12_begins_0_0_0_0_12 hts ⟨Nat.le_of_ble_eq_true rfl, Nat.le_of_ble_eq_true rfl⟩) (sl_vM_0 hA hK hP hS hZ) rfl rfl hl.1 rfl (lv_room (Nat.le_of_ble_eq_true rfl)) dX12_setsAs_54 ⟨Nat.le_refl _, Nat.le_refl _⟩) hA hS (fun f_4 L_5 Q_6 H locs hq hP hS => ?_)
  obtain ⟨⟨hI, hk_f_4, eL9, eQ9⟩, p_7, u_8⟩ := hq
  rw [eL9, eQ9] at hP; clear eL9 eQ9
  have hF : sgK WkX12_setsAs_0_f3_f7 f f_4 := sgK.tr hF hk_f_4 (by decide +kernel)
  obtain ⟨v_9, ev_9⟩ : ∃ z : Int32, z = f_4 0 48 := ⟨_, rfl⟩
  have q_10 : 0 ≤ v_9.toInt ∧ v_9.toInt ≤ 19 := by rw [ev_9]; exact hI 0 48
  have q_11 : (f_4 0 48).toInt = v_9.toInt := (congrArg Int32.toInt (show f_4 0 48 = v_9 from ev_9.symm))
  refine lv_iload_n hx hb dX12_setsAs_57 rfl (lv_at hl 2 rfl) ?_
  refine lv_aload_n hx hb dX12_setsAs_58 rfl (lv_at hl 0 rfl) ?_
  refine sl_gM_0_50_12 (v := (f_4 0 50)) hx hb hts hown hK hP rfl dX12_setsAs_59 ?_
  refine lv_topi (fun v_13 ev_13 => ?_)
  have q_14 : 0 ≤ v_13.toInt ∧ v_13.toInt ≤ 49 := by rw [ev_13]; exact hI 0 50
  refine lv_iadd hx hb dX12_setsAs_62 ?_
  refine lv_topi (fun v_15 ev_15 => ?_)
  exact hret _ _ _ _ (v_15) f_4 L Q dX12_setsAs_63 hP hS ⟨⟨hI, hF, rfl, rfl⟩, trivial, ⟨by omega, by omega⟩, (Eq.trans (Eq.symm (hs.trans ((spl_e u_8 (spl_e ev_9 (spl_e ev_13 (spl_e ev_15 rfl))))))) hsp)⟩

abbrev WkX12_setsAs_7_f2_f7 : List (Nat × Nat × Option Nat) := [(0, 0, some 48), (21, 21, some 2), (21, 21, some 3)]
set_option maxHeartbeats 4000000 in
set_option maxRecDepth 100000 in
theorem kX12_setsAs_7_f2_f7 (l : Launch) (D : va_G) (ca : Nat → ClassId) (za h : Nat → Nat) (hh : sgH 26 h) (f : sg_F) (L : sg_L) (Q : sg_Q) (hI : sgI loM hiM f) (x1 : Int32) (hf_0_48 : f 0 48 = 2) (hf_0_49 : f 0 49 = 7) (p0 : 2 ≤ (f 0 48).toInt ∧ (f 0 48).toInt ≤ 2) (sz : Nat) : Met l yX12_setsAs gwX12_setsAs { frames := 2, cells := 0, slots := 0, locals := 43 } (sgP D vwCl (tyX ca) 26 h (eM ca h) zcM za f L Q sz [.ref (h 0), .int 7, .int x1]) (sgQi D vwCl 26 h (eM ca h) sz (fun r f1 L1 Q1 => ((sgI loM hiM f1 ∧ sgK WkX12_setsAs_7_f2_f7 f f1 ∧ L1 = L ∧ Q1 = Q) ∧ True ∧ (4 ≤ (f1 0 48).toInt ∧ (f1 0 48).toInt ≤ 4) ∧ (r, f1) = sX12_setsAs_7_f2_f7 x1 f L))) 0 0 (sgA 26 h sz) := by
  refine sg_ofWi (cc := cX12_setsAs) (maxL := 3) RX12 (by decide) rfl rfl (Nat.le_of_ble_eq_true rfl) ?_
  intro p e s m below meth cd Qz ls hx hb hml hown hts hK hZ hP hS hl hret
  have hA := sgY.self (n := 26) (h := h) (sz := s.heap.size)
  have hl : lv_has ls 3 [(0, .ref (h 0)), (1, .int 7), (2, .int x1)] := hl
  obtain ⟨H, hH⟩ : ∃ z : Heap, z = s.heap := ⟨_, rfl⟩
  obtain ⟨locs, hlo⟩ : ∃ z : List Loc, z = [] := ⟨_, rfl⟩
  have hP : va_P D vwCl (sgw 26 h (eM ca h) f L Q) H := by rw [hH]; exact hP
  have hS : va_S (sgA 26 h s.heap.size) s.heap H locs := by rw [hH, hlo]; exact hS
  suffices hgo : W p l e ({ frames := 2, cells := 0, slots := 0, locals := 43 }) s m ([.ref (h 0), .int 7, .int x1] : List Value).toArray below meth cd H locs 0 0 Qz (F0 m 0 ls []) by rw [hH, hlo] at hgo; exact hgo
  clear hH hlo
  obtain ⟨sp, hsp⟩ : ∃ z : Int32 × sg_F, z = sX12_setsAs_7_f2_f7 x1 f L := ⟨_, rfl⟩
  have hs : sp = sX12_setsAs_7_f2_f7 x1 f L := hsp
  have o_1 : (f 0 48).toInt = 2 := (congrArg Int32.toInt (show f 0 48 = 2 from hf_0_48)).trans (by decide)
  have hF : sgK WkX12_setsAs_7_f2_f7 f f := sgK.rf
  have blk_16 : ∀ (fp_16 : sg_F) (H : Heap) (locs : List Loc) (ls : Array Slot), sp = sX12_setsAs_7_f2_f7_b16 x1 fp_16 L → 2 ≤ (fp_16 0 48).toInt ∧ (fp_16 0 48).toInt ≤ 2 → 7 ≤ (fp_16 0 49).toInt ∧ (fp_16 0 49).toInt ≤ 7 → sgI loM hiM fp_16 → sgK WkX12_setsAs_7_f2_f7 f fp_16 → va_P D vwCl (sgw 26 h (eM ca h) fp_16 L Q) H → va_S (sgA 26 h s.heap.size) s.heap H locs → lv_has ls 3 [(0, .ref (h 0)), (2, .int x1)] → W p l e ({ frames := 2, cells := 0, slots := 0, locals := 43 }) s m ([.ref (h 0), .int 7, .int x1] : List Value).toArray below meth cd H locs 0 0 Qz (F0 m 16 ls []) := by
    intro fp_16 H locs ls hs hy0_16 hy1_16 hI hF hP hS hl
    obtain ⟨v_2, ev_2⟩ : ∃ z : Int32, z = fp_16 0 48 := ⟨_, rfl⟩
    have q_3 : 0 ≤ v_2.toInt ∧ v_2.toInt ≤ 19 := by rw [ev_2]; exact hI 0 48
    have q_4 : (fp_16 0 48).toInt = v_2.toInt := by rw [ev_2]
    obtain ⟨v_5, ev_5⟩ : ∃ z : Int32, z = fp_16 0 49 := ⟨_, rfl⟩
    have q_6 : 0 ≤ v_5.toInt ∧ v_5.toInt ≤ 7 := by rw [ev_5]; exact hI 0 49
    have q_7 : (fp_16 0 49).toInt = v_5.toInt := by rw [ev_5]
    have m_8 : fp_16 0 49 = 7 := (hF 0 49 (by decide)).trans hf_0_49
    refine lv_aload_n hx hb dX12_setsAs_16 rfl (lv_at hl 0 rfl) ?_
    refine lv_bipush (v := 20) hx hb dX12_setsAs_17 bp_20 ?_
    have c_9 : v_2 = 2 := Int32.toInt_inj.mp (by have k9 : (2 : Int32).toInt = 2 := ti_2; omega)
    have q_10 : (fp_16 0 48).toInt = 2 := (congrArg Int32.toInt (show fp_16 0 48 = 2 from (Eq.trans ev_2.symm c_9))).trans (by decide)
    refine sg_callv (va_runV (As := [.int 20]) (rest := []) ⟨hx, hb, hml, hown, hts⟩ (kX12_begins_20_f2 l D ca za h hh fp_16 L Q hI (Eq.trans ev_2.symm c_9) (by have k0 : (20 : Int32).toInt = 20 := ti_20; omega) H.size) (sl_c12_begins_0_0_0_0_12 hts ⟨Nat.le_of_ble_eq_true rfl, Nat.le_of_ble_eq_true rfl⟩) (sl_vM_0 hA hK hP hS hZ) rfl rfl hl.1 rfl (lv_room (Nat.le_of_ble_eq_true rfl)) dX12_setsAs_19 ⟨Nat.le_refl _, Nat.le_refl _⟩) hA hS (fun f_12 L_13 Q_14 H locs hq hP hS => ?_)
    obtain ⟨⟨hI, hk_f_12, eL9, eQ9⟩, p_15, u_16⟩ := hq
    rw [eL9, eQ9] at hP; clear eL9 eQ9
    have hF : sgK WkX12_setsAs_7_f2_f7 f f_12 := sgK.tr hF hk_f_12 (by decide +kernel)
    obtain ⟨v_17, ev_17⟩ : ∃ z : Int32, z = f_12 0 48 := ⟨_, rfl⟩
    have q_18 : 0 ≤ v_17.toInt ∧ v_17.toInt ≤ 19 := by rw [ev_17]; exact hI 0 48
    have q_19 : (f_12 0 48).toInt = v_17.toInt := (congrArg Int32.toInt (show f_12 0 48 = v_17 from ev_17.symm))
    refine lv_aload_n hx hb dX12_setsAs_22 rfl (lv_at hl 0 rfl) ?_
    refine lv_iconst (v := 0) hx hb dX12_setsAs_23 ic_0 ?_
    refine lv_iload_n hx hb dX12_setsAs_24 rfl (lv_at hl 1 rfl) ?_
    have c_21 : v_17 = 3 := Int32.toInt_inj.mp (by have k9 : (3 : Int32).toInt = 3 := ti_3; omega)
    have q_22 : (f_12 0 48).toInt = 3 := (congrArg Int32.toInt (show f_12 0 48 = 3 from (Eq.trans ev_17.symm c_21))).trans (by decide)
    refine sg_calli (va_runV (As := [.int 0, .int x1]) (rest := []) ⟨hx, hb, hml, hown, hts⟩ (kX12_setsAs_0_f3_f7 l D ca za h hh f_12 L Q hI x1 (Eq.trans ev_17.symm c_21) ((hk_f_12 0 49 (by decide)).trans m_8) (by have k0 : (0 : Int32).toInt = 0 := ti_0; omega) H.size) (sl_c12_setsAs_1_0_0_21_12 hts ⟨Nat.le_of_ble_eq_true rfl, Nat.le_of_ble_eq_true rfl⟩) (sl_vM_0 hA hK hP hS hZ) rfl rfl hl.1 rfl (lv_room (Nat.le_of_ble_eq_true rfl)) dX12_setsAs_25 ⟨Nat.le_refl _, Nat.le_refl _⟩) hA hS (fun r_27 f_24 L_25 Q_26 H locs hq hP hS => ?_)
    obtain ⟨⟨hI, hk_f_24, eL9, eQ9⟩, hq, p_28, u_29⟩ := hq
    rw [eL9, eQ9] at hP; clear eL9 eQ9
    have hF : sgK WkX12_setsAs_7_f2_f7 f f_24 := sgK.tr hF hk_f_24 (by decide +kernel)
    obtain ⟨v_30, ev_30⟩ : ∃ z : Int32, z = f_24 0 48 := ⟨_, rfl⟩
    have q_31 : 0 ≤ v_30.toInt ∧ v_30.toInt ≤ 19 := by rw [ev_30]; exact hI 0 48
    have q_32 : (f_24 0 48).toInt = v_30.toInt := (congrArg Int32.toInt (show f_24 0 48 = v_30 from ev_30.symm))
    have k_34 : (0 : Int32).toInt = 0 := by decide
    refine lv_iconst (v := 3) hx hb dX12_setsAs_28 ic_3 ?_
    refine lv_iadd hx hb dX12_setsAs_29 ?_
    refine lv_topi (fun v_35 ev_35 => ?_)
    exact hret _ _ _ _ (v_35) f_24 L Q dX12_setsAs_30 hP hS ⟨⟨hI, hF, rfl, rfl⟩, trivial, ⟨by omega, by omega⟩, (Eq.trans (Eq.symm (hs.trans ((spl_e ev_2 (spl_e ev_5 (spl_e u_16 (spl_e ev_17 (spl2_e u_29 (spl_e ev_30 (spl_e ev_35 rfl)))))))))) hsp)⟩
  refine lv_iload_n hx hb dX12_setsAs_0 rfl (lv_at hl 1 rfl) ?_
  refine lv_iconst (v := 1) hx hb dX12_setsAs_1 ic_1 ?_
  refine lv_icmp_eq (tgt := 16) hx hb dX12_setsAs_2 (by decide) (fun c => absurd c (by decide)) (fun c => ?_)
  refine lv_iload_n hx hb dX12_setsAs_5 rfl (lv_at hl 1 rfl) ?_
  refine lv_iconst (v := 4) hx hb dX12_setsAs_6 ic_4 ?_
  refine lv_icmp_eq (tgt := 16) hx hb dX12_setsAs_7 (by decide) (fun c => absurd c (by decide)) (fun c => ?_)
  refine lv_iload_n hx hb dX12_setsAs_10 rfl (lv_at hl 1 rfl) ?_
  refine lv_bipush (v := 7) hx hb dX12_setsAs_11 bp_7 ?_
  refine lv_icmp_ne (tgt := 31) hx hb dX12_setsAs_13 (by decide) (fun c => absurd c (by decide)) (fun c => ?_)
  exact blk_16 f _ _ _ hs (by have zz0_48 : (f 0 48).toInt = 2 := (congrArg Int32.toInt (show f 0 48 = 2 from hf_0_48)).trans (by decide); exact ⟨by omega, by omega⟩) (by have zz0_49 : (f 0 49).toInt = 7 := (congrArg Int32.toInt (show f 0 49 = 7 from hf_0_49)).trans (by decide); exact ⟨by omega, by omega⟩) hI hF hP hS (lv_sub hl [0, 2] rfl)

abbrev WkX12_sitsAs_4_f1_f7 : List (Nat × Nat × Option Nat) := [(0, 0, some 48), (21, 21, some 1), (21, 21, some 2), (21, 21, some 3)]
set_option maxHeartbeats 4000000 in
set_option maxRecDepth 100000 in
theorem kX12_sitsAs_4_f1_f7 (l : Launch) (D : va_G) (ca : Nat → ClassId) (za h : Nat → Nat) (hh : sgH 26 h) (f : sg_F) (L : sg_L) (Q : sg_Q) (hI : sgI loM hiM f) (x1 : Int32) (hf_0_48 : f 0 48 = 1) (hf_0_49 : f 0 49 = 7) (p0 : 1 ≤ (f 0 48).toInt ∧ (f 0 48).toInt ≤ 1) (sz : Nat) : Met l yX12_sitsAs gwX12_sitsAs { frames := 3, cells := 0, slots := 0, locals := 65 } (sgP D vwCl (tyX ca) 26 h (eM ca h) zcM za f L Q sz [.ref (h 0), .int 4, .int x1]) (sgQi D vwCl 26 h (eM ca h) sz (fun r f1 L1 Q1 => ((sgI loM hiM f1 ∧ sgK WkX12_sitsAs_4_f1_f7 f f1 ∧ L1 = L ∧ Q1 = Q) ∧ True ∧ (4 ≤ (f1 0 48).toInt ∧ (f1 0 48).toInt ≤ 4) ∧ (r, f1) = sX12_sitsAs_4_f1_f7 x1 f L))) 0 0 (sgA 26 h sz) := by
  refine sg_ofWi (cc := cX12_sitsAs) (maxL := 4) RX12 (by decide) rfl rfl (Nat.le_of_ble_eq_true rfl) ?_
  intro p e s m below meth cd Qz ls hx hb hml hown hts hK hZ hP hS hl hret
  have hA := sgY.self (n := 26) (h := h) (sz := s.heap.size)
  have hl : lv_has ls 4 [(0, .ref (h 0)), (1, .int 4), (2, .int x1)] := hl
  obtain ⟨H, hH⟩ : ∃ z : Heap, z = s.heap := ⟨_, rfl⟩
  obtain ⟨locs, hlo⟩ : ∃ z : List Loc, z = [] := ⟨_, rfl⟩
  have hP : va_P D vwCl (sgw 26 h (eM ca h) f L Q) H := by rw [hH]; exact hP
  have hS : va_S (sgA 26 h s.heap.size) s.heap H locs := by rw [hH, hlo]; exact hS
  suffices hgo : W p l e ({ frames := 3, cells := 0, slots := 0, locals := 65 }) s m ([.ref (h 0), .int 4, .int x1] : List Value).toArray below meth cd H locs 0 0 Qz (F0 m 0 ls []) by rw [hH, hlo] at hgo; exact hgo
  clear hH hlo
  obtain ⟨sp, hsp⟩ : ∃ z : Int32 × sg_F, z = sX12_sitsAs_4_f1_f7 x1 f L := ⟨_, rfl⟩
  have hs : sp = sX12_sitsAs_4_f1_f7 x1 f L := hsp
  have o_1 : (f 0 48).toInt = 1 := (congrArg Int32.toInt (show f 0 48 = 1 from hf_0_48)).trans (by decide)
  have hF : sgK WkX12_sitsAs_4_f1_f7 f f := sgK.rf
  refine lv_iload_n hx hb dX12_sitsAs_0 rfl (lv_at hl 1 rfl) ?_
  refine lv_iconst (v := 3) hx hb dX12_sitsAs_1 ic_3 ?_
  refine lv_icmp_eq (tgt := 10) hx hb dX12_sitsAs_2 (by decide) (fun c => absurd c (by decide)) (fun c => ?_)
  refine lv_iload_n hx hb dX12_sitsAs_5 rfl (lv_at hl 1 rfl) ?_
  refine lv_iconst (v := 5) hx hb dX12_sitsAs_6 ic_5 ?_
  refine lv_icmp_ne (tgt := 25) hx hb dX12_sitsAs_7 (by decide) (fun c => ?_) (fun c => absurd c (by decide))
  refine lv_iload_n hx hb dX12_sitsAs_25 rfl (lv_at hl 1 rfl) ?_
  refine lv_iconst (v := 2) hx hb dX12_sitsAs_26 ic_2 ?_
  refine lv_icmp_ne (tgt := 44) hx hb dX12_sitsAs_27 (by decide) (fun c => ?_) (fun c => absurd c (by decide))
  refine lv_iload_n hx hb dX12_sitsAs_44 rfl (lv_at hl 1 rfl) ?_
  refine lv_bipush (v := 7) hx hb dX12_sitsAs_45 bp_7 ?_
  refine lv_icmp_ne (tgt := 75) hx hb dX12_sitsAs_47 (by decide) (fun c => ?_) (fun c => absurd c (by decide))
  refine lv_aload_n hx hb dX12_sitsAs_75 rfl (lv_at hl 0 rfl) ?_
  refine lv_bipush (v := 10) hx hb dX12_sitsAs_76 bp_10 ?_
  have q_2 : (f 0 48).toInt = 1 := (congrArg Int32.toInt (show f 0 48 = 1 from hf_0_48)).trans (by decide)
  refine sg_callv (va_runV (As := [.int 10]) (rest := []) ⟨hx, hb, hml, hown, hts⟩ (kX12_begins_10_f1 l D ca za h hh f L Q hI hf_0_48 (by have k0 : (10 : Int32).toInt = 10 := ti_10; omega) H.size) (sl_c12_begins_0_0_0_0_12 hts ⟨Nat.le_of_ble_eq_true rfl, Nat.le_of_ble_eq_true rfl⟩) (sl_vM_0 hA hK hP hS hZ) rfl rfl hl.1 rfl (lv_room (Nat.le_of_ble_eq_true rfl)) dX12_sitsAs_78 ⟨Nat.le_refl _, Nat.le_refl _⟩) hA hS (fun f_4 L_5 Q_6 H locs hq hP hS => ?_)
  obtain ⟨⟨hI, hk_f_4, eL9, eQ9⟩, p_7, u_8⟩ := hq
  rw [eL9, eQ9] at hP; clear eL9 eQ9
  have hF : sgK WkX12_sitsAs_4_f1_f7 f f_4 := sgK.tr hF hk_f_4 (by decide +kernel)
  obtain ⟨v_9, ev_9⟩ : ∃ z : Int32, z = f_4 0 48 := ⟨_, rfl⟩
  have q_10 : 0 ≤ v_9.toInt ∧ v_9.toInt ≤ 19 := by rw [ev_9]; exact hI 0 48
  have q_11 : (f_4 0 48).toInt = v_9.toInt := (congrArg Int32.toInt (show f_4 0 48 = v_9 from ev_9.symm))
  refine lv_aload_n hx hb dX12_sitsAs_81 rfl (lv_at hl 0 rfl) ?_
  refine lv_aload_n hx hb dX12_sitsAs_82 rfl (lv_at hl 0 rfl) ?_
  refine sl_gM_0_49_12 (v := 7) hx hb hts hown hK hP (show f_4 0 49 = 7 from ((hk_f_4 0 49 (by decide)).trans hf_0_49)) dX12_sitsAs_83 ?_
  refine lv_iload_n hx hb dX12_sitsAs_86 rfl (lv_at hl 2 rfl) ?_
  have c_13 : v_9 = 2 := Int32.toInt_inj.mp (by have k9 : (2 : Int32).toInt = 2 := ti_2; omega)
  have q_14 : (f_4 0 48).toInt = 2 := (congrArg Int32.toInt (show f_4 0 48 = 2 from (Eq.trans ev_9.symm c_13))).trans (by decide)
  refine sg_calli (va_runV (As := [.int 7, .int x1]) (rest := []) ⟨hx, hb, hml, hown, hts⟩ (kX12_setsAs_7_f2_f7 l D ca za h hh f_4 L Q hI x1 (Eq.trans ev_9.symm c_13) ((hk_f_4 0 49 (by decide)).trans hf_0_49) (by have k0 : (7 : Int32).toInt = 7 := ti_7; omega) H.size) (sl_c12_setsAs_2_0_0_43_12 hts ⟨Nat.le_of_ble_eq_true rfl, Nat.le_of_ble_eq_true rfl⟩) (sl_vM_0 hA hK hP hS hZ) rfl rfl hl.1 rfl (lv_room (Nat.le_of_ble_eq_true rfl)) dX12_sitsAs_87 ⟨Nat.le_refl _, Nat.le_refl _⟩) hA hS (fun r_19 f_16 L_17 Q_18 H locs hq hP hS => ?_)
  obtain ⟨⟨hI, hk_f_16, eL9, eQ9⟩, hq, p_20, u_21⟩ := hq
  rw [eL9, eQ9] at hP; clear eL9 eQ9
  have hF : sgK WkX12_sitsAs_4_f1_f7 f f_16 := sgK.tr hF hk_f_16 (by decide +kernel)
  obtain ⟨v_22, ev_22⟩ : ∃ z : Int32, z = f_16 0 48 := ⟨_, rfl⟩
  have q_23 : 0 ≤ v_22.toInt ∧ v_22.toInt ≤ 19 := by rw [ev_22]; exact hI 0 48
  have q_24 : (f_16 0 48).toInt = v_22.toInt := (congrArg Int32.toInt (show f_16 0 48 = v_22 from ev_22.symm))
  have k_26 : (7 : Int32).toInt = 7 := by decide
  refine lv_iconst (v := 2) hx hb dX12_sitsAs_90 ic_2 ?_
  refine lv_imul hx hb dX12_sitsAs_91 ?_
  refine lv_topi (fun v_27 ev_27 => ?_)
  exact hret _ _ _ _ (v_27) f_16 L Q dX12_sitsAs_92 hP hS ⟨⟨hI, hF, rfl, rfl⟩, trivial, ⟨by omega, by omega⟩, (Eq.trans (Eq.symm (hs.trans ((spl_e u_8 (spl_e ev_9 (spl2_e u_21 (spl_e ev_22 (spl_e ev_27 rfl)))))))) hsp)⟩

abbrev WkX12_begins_50_f4 : List (Nat × Nat × Option Nat) := [(0, 0, some 48), (21, 21, some 4)]
set_option maxHeartbeats 4000000 in
set_option maxRecDepth 100000 in
theorem kX12_begins_50_f4 (l : Launch) (D : va_G) (ca : Nat → ClassId) (za h : Nat → Nat) (hh : sgH 26 h) (f : sg_F) (L : sg_L) (Q : sg_Q) (hI : sgI loM hiM f) (hf_0_48 : f 0 48 = 4) (p0 : 4 ≤ (f 0 48).toInt ∧ (f 0 48).toInt ≤ 4) (sz : Nat) : Met l yX12_begins gwX12_begins { frames := 0, cells := 0, slots := 0, locals := 0 } (sgP D vwCl (tyX ca) 26 h (eM ca h) zcM za f L Q sz [.ref (h 0), .int 50]) (sgQv D vwCl 26 h (eM ca h) sz (fun f1 L1 Q1 => ((sgI loM hiM f1 ∧ sgK WkX12_begins_50_f4 f f1 ∧ L1 = L ∧ Q1 = Q) ∧ (5 ≤ (f1 0 48).toInt ∧ (f1 0 48).toInt ≤ 5) ∧ (f1) = sX12_begins_50_f4 f L))) 0 0 (sgA 26 h sz) := by
  refine sg_ofWv (cc := cX12_begins) (maxL := 2) RX12 (by decide) rfl rfl (Nat.le_of_ble_eq_true rfl) ?_
  intro p e s m below meth cd Qz ls hx hb hml hown hts hK hZ hP hS hl hret
  have hA := sgY.self (n := 26) (h := h) (sz := s.heap.size)
  have hl : lv_has ls 2 [(0, .ref (h 0)), (1, .int 50)] := hl
  obtain ⟨H, hH⟩ : ∃ z : Heap, z = s.heap := ⟨_, rfl⟩
  obtain ⟨locs, hlo⟩ : ∃ z : List Loc, z = [] := ⟨_, rfl⟩
  have hP : va_P D vwCl (sgw 26 h (eM ca h) f L Q) H := by rw [hH]; exact hP
  have hS : va_S (sgA 26 h s.heap.size) s.heap H locs := by rw [hH, hlo]; exact hS
  suffices hgo : W p l e ({ frames := 0, cells := 0, slots := 0, locals := 0 }) s m ([.ref (h 0), .int 50] : List Value).toArray below meth cd H locs 0 0 Qz (F0 m 0 ls []) by rw [hH, hlo] at hgo; exact hgo
  clear hH hlo
  obtain ⟨sp, hsp⟩ : ∃ z : sg_F, z = sX12_begins_50_f4 f L := ⟨_, rfl⟩
  have hs : sp = sX12_begins_50_f4 f L := hsp
  have o_1 : (f 0 48).toInt = 4 := (congrArg Int32.toInt (show f 0 48 = 4 from hf_0_48)).trans (by decide)
  have hF : sgK WkX12_begins_50_f4 f f := sgK.rf
  have blk_19 : ∀ (fp_19 : sg_F) (H : Heap) (locs : List Loc) (ls : Array Slot), sp = sX12_begins_50_f4_b19 fp_19 L → 4 ≤ (fp_19 0 48).toInt ∧ (fp_19 0 48).toInt ≤ 4 → sgI loM hiM fp_19 → sgK WkX12_begins_50_f4 f fp_19 → va_P D vwCl (sgw 26 h (eM ca h) fp_19 L Q) H → va_S (sgA 26 h s.heap.size) s.heap H locs → lv_has ls 2 [(0, .ref (h 0))] → W p l e ({ frames := 0, cells := 0, slots := 0, locals := 0 }) s m ([.ref (h 0), .int 50] : List Value).toArray below meth cd H locs 0 0 Qz (F0 m 19 ls []) := by
    intro fp_19 H locs ls hs hy0_19 hI hF hP hS hl
    obtain ⟨v_2, ev_2⟩ : ∃ z : Int32, z = fp_19 0 48 := ⟨_, rfl⟩
    have q_3 : 0 ≤ v_2.toInt ∧ v_2.toInt ≤ 19 := by rw [ev_2]; exact hI 0 48
    have q_4 : (fp_19 0 48).toInt = v_2.toInt := by rw [ev_2]
    refine lv_aload_n hx hb dX12_begins_19 rfl (lv_at hl 0 rfl) ?_
    refine lv_dup hx hb dX12_begins_20 rfl ?_
    refine sl_gM_0_48_12 (v := v_2) hx hb hts hown hK hP (show fp_19 0 48 = v_2 from ev_2.symm) dX12_begins_21 ?_
    refine lv_iconst (v := 1) hx hb dX12_begins_24 ic_1 ?_
    refine lv_iadd hx hb dX12_begins_25 ?_
    refine lv_topi (fun v_5 ev_5 => ?_)
    have q_6 : v_5.toInt = v_2.toInt + 1 := by rw [ev_5]; first | exact cm_add ti_1 (by omega) (by omega) | (have k1 : (1 : Int32).toInt = 1 := ti_1; exact (bn_addI (by omega) (by omega)).trans (by omega))
    refine sl_pM_0_48_12 (x := v_5) hx hb hts hown hh hA hK hP hS dX12_begins_26 (fun f_7 H locs ef_7 hP hS => ?_)
    have hI : sgI loM hiM f_7 := by rw [ef_7]; exact sgI.put hI 0 48 (show 0 ≤ (v_5 : Int32).toInt ∧ (v_5 : Int32).toInt ≤ 19 from ⟨by omega, by omega⟩)
    have hF : sgK WkX12_begins_50_f4 f f_7 := sgK.put hF ef_7 (by rfl)
    have q_8 : (f_7 0 48).toInt = v_5.toInt := (congrArg Int32.toInt (show f_7 0 48 = v_5 from (by rw [ef_7, sg_up_s, sgu_s])))
    exact hret _ _ _ _ f_7 L Q dX12_begins_29 hP hS ⟨⟨hI, hF, rfl, rfl⟩, ⟨by omega, by omega⟩, (Eq.trans (Eq.symm (hs.trans ((spl_e ev_2 (spl_e ev_5 (spl_e ef_7 rfl)))))) hsp)⟩
  refine lv_aload_n hx hb dX12_begins_0 rfl (lv_at hl 0 rfl) ?_
  refine sl_gM_0_48_12 (v := 4) hx hb hts hown hK hP (show f 0 48 = 4 from hf_0_48) dX12_begins_1 ?_
  refine lv_bipush (v := 24) hx hb dX12_begins_4 bp_24 ?_
  refine lv_icmp_ge (tgt := 19) hx hb dX12_begins_6 (by decide) (fun c => absurd c (by decide)) (fun c => ?_)
  refine lv_aload_n hx hb dX12_begins_9 rfl (lv_at hl 0 rfl) ?_
  refine sl_gM_0_47_12 hx hb hts hown hK hP dX12_begins_10 ?_
  refine lv_aload_n hx hb dX12_begins_13 rfl (lv_at hl 0 rfl) ?_
  refine sl_gM_0_48_12 (v := 4) hx hb hts hown hK hP (show f 0 48 = 4 from hf_0_48) dX12_begins_14 ?_
  refine lv_iload_n hx hb dX12_begins_17 rfl (lv_at hl 1 rfl) ?_
  refine sg_iast hx hb hh hA hK hP hS 21 (by decide) 0 (fun _ => rfl) rfl (i := 4) (x := 50) (vp_in_iff.mpr (by decide)) dX12_begins_18 (fun f_10 H locs ef_10 hP hS => ?_)
  have ef_10 : f_10 = sg_up f 21 (sgu (f 21) 4 50) := ef_10
  have hI : sgI loM hiM f_10 := by rw [ef_10]; exact sgI.put hI 21 4 (show 0 ≤ (50 : Int32).toInt ∧ (50 : Int32).toInt ≤ 81 from by decide)
  have hF : sgK WkX12_begins_50_f4 f f_10 := sgK.put hF ef_10 (by rfl)
  exact blk_19 f_10 _ _ _ (hs.trans ((spl_e ef_10 rfl))) (by have zz0_48 : (f_10 0 48).toInt = 4 := (congrArg Int32.toInt (show f_10 0 48 = 4 from (by rw [ef_10, sg_up_n (by decide)]; exact hf_0_48))).trans (by decide); exact ⟨by omega, by omega⟩) hI hF hP hS (lv_sub hl [0] rfl)

abbrev WkX12_begins_11_f5 : List (Nat × Nat × Option Nat) := [(0, 0, some 48), (21, 21, some 5)]
set_option maxHeartbeats 4000000 in
set_option maxRecDepth 100000 in
theorem kX12_begins_11_f5 (l : Launch) (D : va_G) (ca : Nat → ClassId) (za h : Nat → Nat) (hh : sgH 26 h) (f : sg_F) (L : sg_L) (Q : sg_Q) (hI : sgI loM hiM f) (hf_0_48 : f 0 48 = 5) (p0 : 5 ≤ (f 0 48).toInt ∧ (f 0 48).toInt ≤ 5) (sz : Nat) : Met l yX12_begins gwX12_begins { frames := 0, cells := 0, slots := 0, locals := 0 } (sgP D vwCl (tyX ca) 26 h (eM ca h) zcM za f L Q sz [.ref (h 0), .int 11]) (sgQv D vwCl 26 h (eM ca h) sz (fun f1 L1 Q1 => ((sgI loM hiM f1 ∧ sgK WkX12_begins_11_f5 f f1 ∧ L1 = L ∧ Q1 = Q) ∧ (6 ≤ (f1 0 48).toInt ∧ (f1 0 48).toInt ≤ 6) ∧ (f1) = sX12_begins_11_f5 f L))) 0 0 (sgA 26 h sz) := by
  refine sg_ofWv (cc := cX12_begins) (maxL := 2) RX12 (by decide) rfl rfl (Nat.le_of_ble_eq_true rfl) ?_
  intro p e s m below meth cd Qz ls hx hb hml hown hts hK hZ hP hS hl hret
  have hA := sgY.self (n := 26) (h := h) (sz := s.heap.size)
  have hl : lv_has ls 2 [(0, .ref (h 0)), (1, .int 11)] := hl
  obtain ⟨H, hH⟩ : ∃ z : Heap, z = s.heap := ⟨_, rfl⟩
  obtain ⟨locs, hlo⟩ : ∃ z : List Loc, z = [] := ⟨_, rfl⟩
  have hP : va_P D vwCl (sgw 26 h (eM ca h) f L Q) H := by rw [hH]; exact hP
  have hS : va_S (sgA 26 h s.heap.size) s.heap H locs := by rw [hH, hlo]; exact hS
  suffices hgo : W p l e ({ frames := 0, cells := 0, slots := 0, locals := 0 }) s m ([.ref (h 0), .int 11] : List Value).toArray below meth cd H locs 0 0 Qz (F0 m 0 ls []) by rw [hH, hlo] at hgo; exact hgo
  clear hH hlo
  obtain ⟨sp, hsp⟩ : ∃ z : sg_F, z = sX12_begins_11_f5 f L := ⟨_, rfl⟩
  have hs : sp = sX12_begins_11_f5 f L := hsp
  have o_1 : (f 0 48).toInt = 5 := (congrArg Int32.toInt (show f 0 48 = 5 from hf_0_48)).trans (by decide)
  have hF : sgK WkX12_begins_11_f5 f f := sgK.rf
  have blk_19 : ∀ (fp_19 : sg_F) (H : Heap) (locs : List Loc) (ls : Array Slot), sp = sX12_begins_11_f5_b19 fp_19 L → 5 ≤ (fp_19 0 48).toInt ∧ (fp_19 0 48).toInt ≤ 5 → sgI loM hiM fp_19 → sgK WkX12_begins_11_f5 f fp_19 → va_P D vwCl (sgw 26 h (eM ca h) fp_19 L Q) H → va_S (sgA 26 h s.heap.size) s.heap H locs → lv_has ls 2 [(0, .ref (h 0))] → W p l e ({ frames := 0, cells := 0, slots := 0, locals := 0 }) s m ([.ref (h 0), .int 11] : List Value).toArray below meth cd H locs 0 0 Qz (F0 m 19 ls []) := by
    intro fp_19 H locs ls hs hy0_19 hI hF hP hS hl
    obtain ⟨v_2, ev_2⟩ : ∃ z : Int32, z = fp_19 0 48 := ⟨_, rfl⟩
    have q_3 : 0 ≤ v_2.toInt ∧ v_2.toInt ≤ 19 := by rw [ev_2]; exact hI 0 48
    have q_4 : (fp_19 0 48).toInt = v_2.toInt := by rw [ev_2]
    refine lv_aload_n hx hb dX12_begins_19 rfl (lv_at hl 0 rfl) ?_
    refine lv_dup hx hb dX12_begins_20 rfl ?_
    refine sl_gM_0_48_12 (v := v_2) hx hb hts hown hK hP (show fp_19 0 48 = v_2 from ev_2.symm) dX12_begins_21 ?_
    refine lv_iconst (v := 1) hx hb dX12_begins_24 ic_1 ?_
    refine lv_iadd hx hb dX12_begins_25 ?_
    refine lv_topi (fun v_5 ev_5 => ?_)
    have q_6 : v_5.toInt = v_2.toInt + 1 := by rw [ev_5]; first | exact cm_add ti_1 (by omega) (by omega) | (have k1 : (1 : Int32).toInt = 1 := ti_1; exact (bn_addI (by omega) (by omega)).trans (by omega))
    refine sl_pM_0_48_12 (x := v_5) hx hb hts hown hh hA hK hP hS dX12_begins_26 (fun f_7 H locs ef_7 hP hS => ?_)
    have hI : sgI loM hiM f_7 := by rw [ef_7]; exact sgI.put hI 0 48 (show 0 ≤ (v_5 : Int32).toInt ∧ (v_5 : Int32).toInt ≤ 19 from ⟨by omega, by omega⟩)
    have hF : sgK WkX12_begins_11_f5 f f_7 := sgK.put hF ef_7 (by rfl)
    have q_8 : (f_7 0 48).toInt = v_5.toInt := (congrArg Int32.toInt (show f_7 0 48 = v_5 from (by rw [ef_7, sg_up_s, sgu_s])))
    exact hret _ _ _ _ f_7 L Q dX12_begins_29 hP hS ⟨⟨hI, hF, rfl, rfl⟩, ⟨by omega, by omega⟩, (Eq.trans (Eq.symm (hs.trans ((spl_e ev_2 (spl_e ev_5 (spl_e ef_7 rfl)))))) hsp)⟩
  refine lv_aload_n hx hb dX12_begins_0 rfl (lv_at hl 0 rfl) ?_
  refine sl_gM_0_48_12 (v := 5) hx hb hts hown hK hP (show f 0 48 = 5 from hf_0_48) dX12_begins_1 ?_
  refine lv_bipush (v := 24) hx hb dX12_begins_4 bp_24 ?_
  refine lv_icmp_ge (tgt := 19) hx hb dX12_begins_6 (by decide) (fun c => absurd c (by decide)) (fun c => ?_)
  refine lv_aload_n hx hb dX12_begins_9 rfl (lv_at hl 0 rfl) ?_
  refine sl_gM_0_47_12 hx hb hts hown hK hP dX12_begins_10 ?_
  refine lv_aload_n hx hb dX12_begins_13 rfl (lv_at hl 0 rfl) ?_
  refine sl_gM_0_48_12 (v := 5) hx hb hts hown hK hP (show f 0 48 = 5 from hf_0_48) dX12_begins_14 ?_
  refine lv_iload_n hx hb dX12_begins_17 rfl (lv_at hl 1 rfl) ?_
  refine sg_iast hx hb hh hA hK hP hS 21 (by decide) 0 (fun _ => rfl) rfl (i := 5) (x := 11) (vp_in_iff.mpr (by decide)) dX12_begins_18 (fun f_10 H locs ef_10 hP hS => ?_)
  have ef_10 : f_10 = sg_up f 21 (sgu (f 21) 5 11) := ef_10
  have hI : sgI loM hiM f_10 := by rw [ef_10]; exact sgI.put hI 21 5 (show 0 ≤ (11 : Int32).toInt ∧ (11 : Int32).toInt ≤ 81 from by decide)
  have hF : sgK WkX12_begins_11_f5 f f_10 := sgK.put hF ef_10 (by rfl)
  exact blk_19 f_10 _ _ _ (hs.trans ((spl_e ef_10 rfl))) (by have zz0_48 : (f_10 0 48).toInt = 5 := (congrArg Int32.toInt (show f_10 0 48 = 5 from (by rw [ef_10, sg_up_n (by decide)]; exact hf_0_48))).trans (by decide); exact ⟨by omega, by omega⟩) hI hF hP hS (lv_sub hl [0] rfl)

abbrev WkX12_slipsAs_1_f5_f7 : List (Nat × Nat × Option Nat) := [(0, 0, some 48), (21, 21, some 5)]
set_option maxHeartbeats 4000000 in
set_option maxRecDepth 100000 in
theorem kX12_slipsAs_1_f5_f7 (l : Launch) (D : va_G) (ca : Nat → ClassId) (za h : Nat → Nat) (hh : sgH 26 h) (f : sg_F) (L : sg_L) (Q : sg_Q) (hI : sgI loM hiM f) (x1 : Int32) (hf_0_48 : f 0 48 = 5) (hf_0_49 : f 0 49 = 7) (b1 : 2 ≤ x1.toInt ∧ x1.toInt ≤ 2) (p0 : 5 ≤ (f 0 48).toInt ∧ (f 0 48).toInt ≤ 5) (sz : Nat) : Met l yX12_slipsAs gwX12_slipsAs { frames := 1, cells := 0, slots := 0, locals := 21 } (sgP D vwCl (tyX ca) 26 h (eM ca h) zcM za f L Q sz [.ref (h 0), .int 1, .int x1]) (sgQi D vwCl 26 h (eM ca h) sz (fun r f1 L1 Q1 => ((sgI loM hiM f1 ∧ sgK WkX12_slipsAs_1_f5_f7 f f1 ∧ L1 = L ∧ Q1 = Q) ∧ True ∧ (6 ≤ (f1 0 48).toInt ∧ (f1 0 48).toInt ≤ 6) ∧ (r, f1) = sX12_slipsAs_1_f5_f7 x1 f L))) 0 0 (sgA 26 h sz) := by
  refine sg_ofWi (cc := cX12_slipsAs) (maxL := 4) RX12 (by decide) rfl rfl (Nat.le_of_ble_eq_true rfl) ?_
  intro p e s m below meth cd Qz ls hx hb hml hown hts hK hZ hP hS hl hret
  have hA := sgY.self (n := 26) (h := h) (sz := s.heap.size)
  have hl : lv_has ls 4 [(0, .ref (h 0)), (1, .int 1), (2, .int x1)] := hl
  obtain ⟨H, hH⟩ : ∃ z : Heap, z = s.heap := ⟨_, rfl⟩
  obtain ⟨locs, hlo⟩ : ∃ z : List Loc, z = [] := ⟨_, rfl⟩
  have hP : va_P D vwCl (sgw 26 h (eM ca h) f L Q) H := by rw [hH]; exact hP
  have hS : va_S (sgA 26 h s.heap.size) s.heap H locs := by rw [hH, hlo]; exact hS
  suffices hgo : W p l e ({ frames := 1, cells := 0, slots := 0, locals := 21 }) s m ([.ref (h 0), .int 1, .int x1] : List Value).toArray below meth cd H locs 0 0 Qz (F0 m 0 ls []) by rw [hH, hlo] at hgo; exact hgo
  clear hH hlo
  obtain ⟨sp, hsp⟩ : ∃ z : Int32 × sg_F, z = sX12_slipsAs_1_f5_f7 x1 f L := ⟨_, rfl⟩
  have hs : sp = sX12_slipsAs_1_f5_f7 x1 f L := hsp
  have o_1 : (f 0 48).toInt = 5 := (congrArg Int32.toInt (show f 0 48 = 5 from hf_0_48)).trans (by decide)
  have hF : sgK WkX12_slipsAs_1_f5_f7 f f := sgK.rf
  refine lv_iload_n hx hb dX12_slipsAs_0 rfl (lv_at hl 1 rfl) ?_
  refine lv_iconst (v := 3) hx hb dX12_slipsAs_1 ic_3 ?_
  refine lv_icmp_eq (tgt := 10) hx hb dX12_slipsAs_2 (by decide) (fun c => absurd c (by decide)) (fun c => ?_)
  refine lv_iload_n hx hb dX12_slipsAs_5 rfl (lv_at hl 1 rfl) ?_
  refine lv_iconst (v := 5) hx hb dX12_slipsAs_6 ic_5 ?_
  refine lv_icmp_ne (tgt := 25) hx hb dX12_slipsAs_7 (by decide) (fun c => ?_) (fun c => absurd c (by decide))
  refine lv_iload_n hx hb dX12_slipsAs_25 rfl (lv_at hl 1 rfl) ?_
  refine lv_iconst (v := 4) hx hb dX12_slipsAs_26 ic_4 ?_
  refine lv_icmp_eq (tgt := 36) hx hb dX12_slipsAs_27 (by decide) (fun c => absurd c (by decide)) (fun c => ?_)
  refine lv_iload_n hx hb dX12_slipsAs_30 rfl (lv_at hl 1 rfl) ?_
  refine lv_bipush (v := 7) hx hb dX12_slipsAs_31 bp_7 ?_
  refine lv_icmp_ne (tgt := 61) hx hb dX12_slipsAs_33 (by decide) (fun c => ?_) (fun c => absurd c (by decide))
  refine lv_aload_n hx hb dX12_slipsAs_61 rfl (lv_at hl 0 rfl) ?_
  refine lv_bipush (v := 11) hx hb dX12_slipsAs_62 bp_11 ?_
  have q_2 : (f 0 48).toInt = 5 := (congrArg Int32.toInt (show f 0 48 = 5 from hf_0_48)).trans (by decide)
  refine sg_callv (va_runV (As := [.int 11]) (rest := []) ⟨hx, hb, hml, hown, hts⟩ (kX12_begins_11_f5 l D ca za h hh f L Q hI hf_0_48 (by have k0 : (11 : Int32).toInt = 11 := ti_11; omega) H.size) (sl_c12_begins_0_0_0_0_12 hts ⟨Nat.le_of_ble_eq_true rfl, Nat.le_of_ble_eq_true rfl⟩) (sl_vM_0 hA hK hP hS hZ) rfl rfl hl.1 rfl (lv_room (Nat.le_of_ble_eq_true rfl)) dX12_slipsAs_64 ⟨Nat.le_refl _, Nat.le_refl _⟩) hA hS (fun f_4 L_5 Q_6 H locs hq hP hS => ?_)
  obtain ⟨⟨hI, hk_f_4, eL9, eQ9⟩, p_7, u_8⟩ := hq
  rw [eL9, eQ9] at hP; clear eL9 eQ9
  have hF : sgK WkX12_slipsAs_1_f5_f7 f f_4 := sgK.tr hF hk_f_4 (by decide +kernel)
  obtain ⟨v_9, ev_9⟩ : ∃ z : Int32, z = f_4 0 48 := ⟨_, rfl⟩
  have q_10 : 0 ≤ v_9.toInt ∧ v_9.toInt ≤ 19 := by rw [ev_9]; exact hI 0 48
  have q_11 : (f_4 0 48).toInt = v_9.toInt := (congrArg Int32.toInt (show f_4 0 48 = v_9 from ev_9.symm))
  refine lv_iload_n hx hb dX12_slipsAs_67 rfl (lv_at hl 2 rfl) ?_
  refine lv_aload_n hx hb dX12_slipsAs_68 rfl (lv_at hl 0 rfl) ?_
  refine sl_gM_0_50_12 (v := (f_4 0 50)) hx hb hts hown hK hP rfl dX12_slipsAs_69 ?_
  refine lv_topi (fun v_13 ev_13 => ?_)
  have q_14 : 0 ≤ v_13.toInt ∧ v_13.toInt ≤ 49 := by rw [ev_13]; exact hI 0 50
  refine lv_ixor hx hb dX12_slipsAs_72 ?_
  refine lv_topi (fun v_15 ev_15 => ?_)
  exact hret _ _ _ _ (v_15) f_4 L Q dX12_slipsAs_73 hP hS ⟨⟨hI, hF, rfl, rfl⟩, trivial, ⟨by omega, by omega⟩, (Eq.trans (Eq.symm (hs.trans ((spl_e u_8 (spl_e ev_9 (spl_e ev_13 (spl_e ev_15 rfl))))))) hsp)⟩

abbrev WkX12_begins_20_f6 : List (Nat × Nat × Option Nat) := [(0, 0, some 48), (21, 21, some 6)]
set_option maxHeartbeats 4000000 in
set_option maxRecDepth 100000 in
theorem kX12_begins_20_f6 (l : Launch) (D : va_G) (ca : Nat → ClassId) (za h : Nat → Nat) (hh : sgH 26 h) (f : sg_F) (L : sg_L) (Q : sg_Q) (hI : sgI loM hiM f) (hf_0_48 : f 0 48 = 6) (p0 : 6 ≤ (f 0 48).toInt ∧ (f 0 48).toInt ≤ 6) (sz : Nat) : Met l yX12_begins gwX12_begins { frames := 0, cells := 0, slots := 0, locals := 0 } (sgP D vwCl (tyX ca) 26 h (eM ca h) zcM za f L Q sz [.ref (h 0), .int 20]) (sgQv D vwCl 26 h (eM ca h) sz (fun f1 L1 Q1 => ((sgI loM hiM f1 ∧ sgK WkX12_begins_20_f6 f f1 ∧ L1 = L ∧ Q1 = Q) ∧ (7 ≤ (f1 0 48).toInt ∧ (f1 0 48).toInt ≤ 7) ∧ (f1) = sX12_begins_20_f6 f L))) 0 0 (sgA 26 h sz) := by
  refine sg_ofWv (cc := cX12_begins) (maxL := 2) RX12 (by decide) rfl rfl (Nat.le_of_ble_eq_true rfl) ?_
  intro p e s m below meth cd Qz ls hx hb hml hown hts hK hZ hP hS hl hret
  have hA := sgY.self (n := 26) (h := h) (sz := s.heap.size)
  have hl : lv_has ls 2 [(0, .ref (h 0)), (1, .int 20)] := hl
  obtain ⟨H, hH⟩ : ∃ z : Heap, z = s.heap := ⟨_, rfl⟩
  obtain ⟨locs, hlo⟩ : ∃ z : List Loc, z = [] := ⟨_, rfl⟩
  have hP : va_P D vwCl (sgw 26 h (eM ca h) f L Q) H := by rw [hH]; exact hP
  have hS : va_S (sgA 26 h s.heap.size) s.heap H locs := by rw [hH, hlo]; exact hS
  suffices hgo : W p l e ({ frames := 0, cells := 0, slots := 0, locals := 0 }) s m ([.ref (h 0), .int 20] : List Value).toArray below meth cd H locs 0 0 Qz (F0 m 0 ls []) by rw [hH, hlo] at hgo; exact hgo
  clear hH hlo
  obtain ⟨sp, hsp⟩ : ∃ z : sg_F, z = sX12_begins_20_f6 f L := ⟨_, rfl⟩
  have hs : sp = sX12_begins_20_f6 f L := hsp
  have o_1 : (f 0 48).toInt = 6 := (congrArg Int32.toInt (show f 0 48 = 6 from hf_0_48)).trans (by decide)
  have hF : sgK WkX12_begins_20_f6 f f := sgK.rf
  have blk_19 : ∀ (fp_19 : sg_F) (H : Heap) (locs : List Loc) (ls : Array Slot), sp = sX12_begins_20_f6_b19 fp_19 L → 6 ≤ (fp_19 0 48).toInt ∧ (fp_19 0 48).toInt ≤ 6 → sgI loM hiM fp_19 → sgK WkX12_begins_20_f6 f fp_19 → va_P D vwCl (sgw 26 h (eM ca h) fp_19 L Q) H → va_S (sgA 26 h s.heap.size) s.heap H locs → lv_has ls 2 [(0, .ref (h 0))] → W p l e ({ frames := 0, cells := 0, slots := 0, locals := 0 }) s m ([.ref (h 0), .int 20] : List Value).toArray below meth cd H locs 0 0 Qz (F0 m 19 ls []) := by
    intro fp_19 H locs ls hs hy0_19 hI hF hP hS hl
    obtain ⟨v_2, ev_2⟩ : ∃ z : Int32, z = fp_19 0 48 := ⟨_, rfl⟩
    have q_3 : 0 ≤ v_2.toInt ∧ v_2.toInt ≤ 19 := by rw [ev_2]; exact hI 0 48
    have q_4 : (fp_19 0 48).toInt = v_2.toInt := by rw [ev_2]
    refine lv_aload_n hx hb dX12_begins_19 rfl (lv_at hl 0 rfl) ?_
    refine lv_dup hx hb dX12_begins_20 rfl ?_
    refine sl_gM_0_48_12 (v := v_2) hx hb hts hown hK hP (show fp_19 0 48 = v_2 from ev_2.symm) dX12_begins_21 ?_
    refine lv_iconst (v := 1) hx hb dX12_begins_24 ic_1 ?_
    refine lv_iadd hx hb dX12_begins_25 ?_
    refine lv_topi (fun v_5 ev_5 => ?_)
    have q_6 : v_5.toInt = v_2.toInt + 1 := by rw [ev_5]; first | exact cm_add ti_1 (by omega) (by omega) | (have k1 : (1 : Int32).toInt = 1 := ti_1; exact (bn_addI (by omega) (by omega)).trans (by omega))
    refine sl_pM_0_48_12 (x := v_5) hx hb hts hown hh hA hK hP hS dX12_begins_26 (fun f_7 H locs ef_7 hP hS => ?_)
    have hI : sgI loM hiM f_7 := by rw [ef_7]; exact sgI.put hI 0 48 (show 0 ≤ (v_5 : Int32).toInt ∧ (v_5 : Int32).toInt ≤ 19 from ⟨by omega, by omega⟩)
    have hF : sgK WkX12_begins_20_f6 f f_7 := sgK.put hF ef_7 (by rfl)
    have q_8 : (f_7 0 48).toInt = v_5.toInt := (congrArg Int32.toInt (show f_7 0 48 = v_5 from (by rw [ef_7, sg_up_s, sgu_s])))
    exact hret _ _ _ _ f_7 L Q dX12_begins_29 hP hS ⟨⟨hI, hF, rfl, rfl⟩, ⟨by omega, by omega⟩, (Eq.trans (Eq.symm (hs.trans ((spl_e ev_2 (spl_e ev_5 (spl_e ef_7 rfl)))))) hsp)⟩
  refine lv_aload_n hx hb dX12_begins_0 rfl (lv_at hl 0 rfl) ?_
  refine sl_gM_0_48_12 (v := 6) hx hb hts hown hK hP (show f 0 48 = 6 from hf_0_48) dX12_begins_1 ?_
  refine lv_bipush (v := 24) hx hb dX12_begins_4 bp_24 ?_
  refine lv_icmp_ge (tgt := 19) hx hb dX12_begins_6 (by decide) (fun c => absurd c (by decide)) (fun c => ?_)
  refine lv_aload_n hx hb dX12_begins_9 rfl (lv_at hl 0 rfl) ?_
  refine sl_gM_0_47_12 hx hb hts hown hK hP dX12_begins_10 ?_
  refine lv_aload_n hx hb dX12_begins_13 rfl (lv_at hl 0 rfl) ?_
  refine sl_gM_0_48_12 (v := 6) hx hb hts hown hK hP (show f 0 48 = 6 from hf_0_48) dX12_begins_14 ?_
  refine lv_iload_n hx hb dX12_begins_17 rfl (lv_at hl 1 rfl) ?_
  refine sg_iast hx hb hh hA hK hP hS 21 (by decide) 0 (fun _ => rfl) rfl (i := 6) (x := 20) (vp_in_iff.mpr (by decide)) dX12_begins_18 (fun f_10 H locs ef_10 hP hS => ?_)
  have ef_10 : f_10 = sg_up f 21 (sgu (f 21) 6 20) := ef_10
  have hI : sgI loM hiM f_10 := by rw [ef_10]; exact sgI.put hI 21 6 (show 0 ≤ (20 : Int32).toInt ∧ (20 : Int32).toInt ≤ 81 from by decide)
  have hF : sgK WkX12_begins_20_f6 f f_10 := sgK.put hF ef_10 (by rfl)
  exact blk_19 f_10 _ _ _ (hs.trans ((spl_e ef_10 rfl))) (by have zz0_48 : (f_10 0 48).toInt = 6 := (congrArg Int32.toInt (show f_10 0 48 = 6 from (by rw [ef_10, sg_up_n (by decide)]; exact hf_0_48))).trans (by decide); exact ⟨by omega, by omega⟩) hI hF hP hS (lv_sub hl [0] rfl)

abbrev WkX12_begins_1_f7 : List (Nat × Nat × Option Nat) := [(0, 0, some 48), (21, 21, some 7)]
set_option maxHeartbeats 4000000 in
set_option maxRecDepth 100000 in
theorem kX12_begins_1_f7 (l : Launch) (D : va_G) (ca : Nat → ClassId) (za h : Nat → Nat) (hh : sgH 26 h) (f : sg_F) (L : sg_L) (Q : sg_Q) (hI : sgI loM hiM f) (hf_0_48 : f 0 48 = 7) (p0 : 7 ≤ (f 0 48).toInt ∧ (f 0 48).toInt ≤ 7) (sz : Nat) : Met l yX12_begins gwX12_begins { frames := 0, cells := 0, slots := 0, locals := 0 } (sgP D vwCl (tyX ca) 26 h (eM ca h) zcM za f L Q sz [.ref (h 0), .int 1]) (sgQv D vwCl 26 h (eM ca h) sz (fun f1 L1 Q1 => ((sgI loM hiM f1 ∧ sgK WkX12_begins_1_f7 f f1 ∧ L1 = L ∧ Q1 = Q) ∧ (8 ≤ (f1 0 48).toInt ∧ (f1 0 48).toInt ≤ 8) ∧ (f1) = sX12_begins_1_f7 f L))) 0 0 (sgA 26 h sz) := by
  refine sg_ofWv (cc := cX12_begins) (maxL := 2) RX12 (by decide) rfl rfl (Nat.le_of_ble_eq_true rfl) ?_
  intro p e s m below meth cd Qz ls hx hb hml hown hts hK hZ hP hS hl hret
  have hA := sgY.self (n := 26) (h := h) (sz := s.heap.size)
  have hl : lv_has ls 2 [(0, .ref (h 0)), (1, .int 1)] := hl
  obtain ⟨H, hH⟩ : ∃ z : Heap, z = s.heap := ⟨_, rfl⟩
  obtain ⟨locs, hlo⟩ : ∃ z : List Loc, z = [] := ⟨_, rfl⟩
  have hP : va_P D vwCl (sgw 26 h (eM ca h) f L Q) H := by rw [hH]; exact hP
  have hS : va_S (sgA 26 h s.heap.size) s.heap H locs := by rw [hH, hlo]; exact hS
  suffices hgo : W p l e ({ frames := 0, cells := 0, slots := 0, locals := 0 }) s m ([.ref (h 0), .int 1] : List Value).toArray below meth cd H locs 0 0 Qz (F0 m 0 ls []) by rw [hH, hlo] at hgo; exact hgo
  clear hH hlo
  obtain ⟨sp, hsp⟩ : ∃ z : sg_F, z = sX12_begins_1_f7 f L := ⟨_, rfl⟩
  have hs : sp = sX12_begins_1_f7 f L := hsp
  have o_1 : (f 0 48).toInt = 7 := (congrArg Int32.toInt (show f 0 48 = 7 from hf_0_48)).trans (by decide)
  have hF : sgK WkX12_begins_1_f7 f f := sgK.rf
  have blk_19 : ∀ (fp_19 : sg_F) (H : Heap) (locs : List Loc) (ls : Array Slot), sp = sX12_begins_1_f7_b19 fp_19 L → 7 ≤ (fp_19 0 48).toInt ∧ (fp_19 0 48).toInt ≤ 7 → sgI loM hiM fp_19 → sgK WkX12_begins_1_f7 f fp_19 → va_P D vwCl (sgw 26 h (eM ca h) fp_19 L Q) H → va_S (sgA 26 h s.heap.size) s.heap H locs → lv_has ls 2 [(0, .ref (h 0))] → W p l e ({ frames := 0, cells := 0, slots := 0, locals := 0 }) s m ([.ref (h 0), .int 1] : List Value).toArray below meth cd H locs 0 0 Qz (F0 m 19 ls []) := by
    intro fp_19 H locs ls hs hy0_19 hI hF hP hS hl
    obtain ⟨v_2, ev_2⟩ : ∃ z : Int32, z = fp_19 0 48 := ⟨_, rfl⟩
    have q_3 : 0 ≤ v_2.toInt ∧ v_2.toInt ≤ 19 := by rw [ev_2]; exact hI 0 48
    have q_4 : (fp_19 0 48).toInt = v_2.toInt := by rw [ev_2]
    refine lv_aload_n hx hb dX12_begins_19 rfl (lv_at hl 0 rfl) ?_
    refine lv_dup hx hb dX12_begins_20 rfl ?_
    refine sl_gM_0_48_12 (v := v_2) hx hb hts hown hK hP (show fp_19 0 48 = v_2 from ev_2.symm) dX12_begins_21 ?_
    refine lv_iconst (v := 1) hx hb dX12_begins_24 ic_1 ?_
    refine lv_iadd hx hb dX12_begins_25 ?_
    refine lv_topi (fun v_5 ev_5 => ?_)
    have q_6 : v_5.toInt = v_2.toInt + 1 := by rw [ev_5]; first | exact cm_add ti_1 (by omega) (by omega) | (have k1 : (1 : Int32).toInt = 1 := ti_1; exact (bn_addI (by omega) (by omega)).trans (by omega))
    refine sl_pM_0_48_12 (x := v_5) hx hb hts hown hh hA hK hP hS dX12_begins_26 (fun f_7 H locs ef_7 hP hS => ?_)
    have hI : sgI loM hiM f_7 := by rw [ef_7]; exact sgI.put hI 0 48 (show 0 ≤ (v_5 : Int32).toInt ∧ (v_5 : Int32).toInt ≤ 19 from ⟨by omega, by omega⟩)
    have hF : sgK WkX12_begins_1_f7 f f_7 := sgK.put hF ef_7 (by rfl)
    have q_8 : (f_7 0 48).toInt = v_5.toInt := (congrArg Int32.toInt (show f_7 0 48 = v_5 from (by rw [ef_7, sg_up_s, sgu_s])))
    exact hret _ _ _ _ f_7 L Q dX12_begins_29 hP hS ⟨⟨hI, hF, rfl, rfl⟩, ⟨by omega, by omega⟩, (Eq.trans (Eq.symm (hs.trans ((spl_e ev_2 (spl_e ev_5 (spl_e ef_7 rfl)))))) hsp)⟩
  refine lv_aload_n hx hb dX12_begins_0 rfl (lv_at hl 0 rfl) ?_
  refine sl_gM_0_48_12 (v := 7) hx hb hts hown hK hP (show f 0 48 = 7 from hf_0_48) dX12_begins_1 ?_
  refine lv_bipush (v := 24) hx hb dX12_begins_4 bp_24 ?_
  refine lv_icmp_ge (tgt := 19) hx hb dX12_begins_6 (by decide) (fun c => absurd c (by decide)) (fun c => ?_)
  refine lv_aload_n hx hb dX12_begins_9 rfl (lv_at hl 0 rfl) ?_
  refine sl_gM_0_47_12 hx hb hts hown hK hP dX12_begins_10 ?_
  refine lv_aload_n hx hb dX12_begins_13 rfl (lv_at hl 0 rfl) ?_
  refine sl_gM_0_48_12 (v := 7) hx hb hts hown hK hP (show f 0 48 = 7 from hf_0_48) dX12_begins_14 ?_
  refine lv_iload_n hx hb dX12_begins_17 rfl (lv_at hl 1 rfl) ?_
  refine sg_iast hx hb hh hA hK hP hS 21 (by decide) 0 (fun _ => rfl) rfl (i := 7) (x := 1) (vp_in_iff.mpr (by decide)) dX12_begins_18 (fun f_10 H locs ef_10 hP hS => ?_)
  have ef_10 : f_10 = sg_up f 21 (sgu (f 21) 7 1) := ef_10
  have hI : sgI loM hiM f_10 := by rw [ef_10]; exact sgI.put hI 21 7 (show 0 ≤ (1 : Int32).toInt ∧ (1 : Int32).toInt ≤ 81 from by decide)
  have hF : sgK WkX12_begins_1_f7 f f_10 := sgK.put hF ef_10 (by rfl)
  exact blk_19 f_10 _ _ _ (hs.trans ((spl_e ef_10 rfl))) (by have zz0_48 : (f_10 0 48).toInt = 7 := (congrArg Int32.toInt (show f_10 0 48 = 7 from (by rw [ef_10, sg_up_n (by decide)]; exact hf_0_48))).trans (by decide); exact ⟨by omega, by omega⟩) hI hF hP hS (lv_sub hl [0] rfl)

abbrev WkX12_setsAs_0_f7_f7 : List (Nat × Nat × Option Nat) := [(0, 0, some 48), (21, 21, some 7)]
set_option maxHeartbeats 4000000 in
set_option maxRecDepth 100000 in
theorem kX12_setsAs_0_f7_f7 (l : Launch) (D : va_G) (ca : Nat → ClassId) (za h : Nat → Nat) (hh : sgH 26 h) (f : sg_F) (L : sg_L) (Q : sg_Q) (hI : sgI loM hiM f) (x1 : Int32) (hf_0_48 : f 0 48 = 7) (hf_0_49 : f 0 49 = 7) (b1 : 2 ≤ x1.toInt ∧ x1.toInt ≤ 2) (p0 : 7 ≤ (f 0 48).toInt ∧ (f 0 48).toInt ≤ 7) (sz : Nat) : Met l yX12_setsAs gwX12_setsAs { frames := 1, cells := 0, slots := 0, locals := 21 } (sgP D vwCl (tyX ca) 26 h (eM ca h) zcM za f L Q sz [.ref (h 0), .int 0, .int x1]) (sgQi D vwCl 26 h (eM ca h) sz (fun r f1 L1 Q1 => ((sgI loM hiM f1 ∧ sgK WkX12_setsAs_0_f7_f7 f f1 ∧ L1 = L ∧ Q1 = Q) ∧ (2 ≤ r.toInt ∧ r.toInt ≤ 51) ∧ (8 ≤ (f1 0 48).toInt ∧ (f1 0 48).toInt ≤ 8) ∧ (r, f1) = sX12_setsAs_0_f7_f7 x1 f L))) 0 0 (sgA 26 h sz) := by
  refine sg_ofWi (cc := cX12_setsAs) (maxL := 3) RX12 (by decide) rfl rfl (Nat.le_of_ble_eq_true rfl) ?_
  intro p e s m below meth cd Qz ls hx hb hml hown hts hK hZ hP hS hl hret
  have hA := sgY.self (n := 26) (h := h) (sz := s.heap.size)
  have hl : lv_has ls 3 [(0, .ref (h 0)), (1, .int 0), (2, .int x1)] := hl
  obtain ⟨H, hH⟩ : ∃ z : Heap, z = s.heap := ⟨_, rfl⟩
  obtain ⟨locs, hlo⟩ : ∃ z : List Loc, z = [] := ⟨_, rfl⟩
  have hP : va_P D vwCl (sgw 26 h (eM ca h) f L Q) H := by rw [hH]; exact hP
  have hS : va_S (sgA 26 h s.heap.size) s.heap H locs := by rw [hH, hlo]; exact hS
  suffices hgo : W p l e ({ frames := 1, cells := 0, slots := 0, locals := 21 }) s m ([.ref (h 0), .int 0, .int x1] : List Value).toArray below meth cd H locs 0 0 Qz (F0 m 0 ls []) by rw [hH, hlo] at hgo; exact hgo
  clear hH hlo
  obtain ⟨sp, hsp⟩ : ∃ z : Int32 × sg_F, z = sX12_setsAs_0_f7_f7 x1 f L := ⟨_, rfl⟩
  have hs : sp = sX12_setsAs_0_f7_f7 x1 f L := hsp
  have o_1 : (f 0 48).toInt = 7 := (congrArg Int32.toInt (show f 0 48 = 7 from hf_0_48)).trans (by decide)
  have hF : sgK WkX12_setsAs_0_f7_f7 f f := sgK.rf
  refine lv_iload_n hx hb dX12_setsAs_0 rfl (lv_at hl 1 rfl) ?_
  refine lv_iconst (v := 1) hx hb dX12_setsAs_1 ic_1 ?_
  refine lv_icmp_eq (tgt := 16) hx hb dX12_setsAs_2 (by decide) (fun c => absurd c (by decide)) (fun c => ?_)
  refine lv_iload_n hx hb dX12_setsAs_5 rfl (lv_at hl 1 rfl) ?_
  refine lv_iconst (v := 4) hx hb dX12_setsAs_6 ic_4 ?_
  refine lv_icmp_eq (tgt := 16) hx hb dX12_setsAs_7 (by decide) (fun c => absurd c (by decide)) (fun c => ?_)
  refine lv_iload_n hx hb dX12_setsAs_10 rfl (lv_at hl 1 rfl) ?_
  refine lv_bipush (v := 7) hx hb dX12_setsAs_11 bp_7 ?_
  refine lv_icmp_ne (tgt := 31) hx hb dX12_setsAs_13 (by decide) (fun c => ?_) (fun c => absurd c (by decide))
  refine lv_iload_n hx hb dX12_setsAs_31 rfl (lv_at hl 1 rfl) ?_
  refine lv_bipush (v := 6) hx hb dX12_setsAs_32 bp_6 ?_
  refine lv_icmp_ne (tgt := 52) hx hb dX12_setsAs_34 (by decide) (fun c => ?_) (fun c => absurd c (by decide))
  refine lv_aload_n hx hb dX12_setsAs_52 rfl (lv_at hl 0 rfl) ?_
  refine lv_iconst (v := 1) hx hb dX12_setsAs_53 ic_1 ?_
  have q_2 : (f 0 48).toInt = 7 := (congrArg Int32.toInt (show f 0 48 = 7 from hf_0_48)).trans (by decide)
  refine sg_callv (va_runV (As := [.int 1]) (rest := []) ⟨hx, hb, hml, hown, hts⟩ (kX12_begins_1_f7 l D ca za h hh f L Q hI hf_0_48 (by have k0 : (1 : Int32).toInt = 1 := ti_1; omega) H.size) (sl_c12_begins_0_0_0_0_12 hts ⟨Nat.le_of_ble_eq_true rfl, Nat.le_of_ble_eq_true rfl⟩) (sl_vM_0 hA hK hP hS hZ) rfl rfl hl.1 rfl (lv_room (Nat.le_of_ble_eq_true rfl)) dX12_setsAs_54 ⟨Nat.le_refl _, Nat.le_refl _⟩) hA hS (fun f_4 L_5 Q_6 H locs hq hP hS => ?_)
  obtain ⟨⟨hI, hk_f_4, eL9, eQ9⟩, p_7, u_8⟩ := hq
  rw [eL9, eQ9] at hP; clear eL9 eQ9
  have hF : sgK WkX12_setsAs_0_f7_f7 f f_4 := sgK.tr hF hk_f_4 (by decide +kernel)
  obtain ⟨v_9, ev_9⟩ : ∃ z : Int32, z = f_4 0 48 := ⟨_, rfl⟩
  have q_10 : 0 ≤ v_9.toInt ∧ v_9.toInt ≤ 19 := by rw [ev_9]; exact hI 0 48
  have q_11 : (f_4 0 48).toInt = v_9.toInt := (congrArg Int32.toInt (show f_4 0 48 = v_9 from ev_9.symm))
  refine lv_iload_n hx hb dX12_setsAs_57 rfl (lv_at hl 2 rfl) ?_
  refine lv_aload_n hx hb dX12_setsAs_58 rfl (lv_at hl 0 rfl) ?_
  refine sl_gM_0_50_12 (v := (f_4 0 50)) hx hb hts hown hK hP rfl dX12_setsAs_59 ?_
  refine lv_topi (fun v_13 ev_13 => ?_)
  have q_14 : 0 ≤ v_13.toInt ∧ v_13.toInt ≤ 49 := by rw [ev_13]; exact hI 0 50
  refine lv_iadd hx hb dX12_setsAs_62 ?_
  refine lv_topi (fun v_15 ev_15 => ?_)
  have q_16 : v_15.toInt = x1.toInt + v_13.toInt := by rw [ev_15]; first | exact bn_addI (by omega) (by omega) | exact (bn_addI (by omega) (by omega)).trans (by omega)
  exact hret _ _ _ _ (v_15) f_4 L Q dX12_setsAs_63 hP hS ⟨⟨hI, hF, rfl, rfl⟩, ⟨by omega, by omega⟩, ⟨by omega, by omega⟩, (Eq.trans (Eq.symm (hs.trans ((spl_e u_8 (spl_e ev_9 (spl_e ev_13 (spl_e ev_15 rfl))))))) hsp)⟩

abbrev WkX12_setsAs_7_f6_f7 : List (Nat × Nat × Option Nat) := [(0, 0, some 48), (21, 21, some 6), (21, 21, some 7)]
set_option maxHeartbeats 4000000 in
set_option maxRecDepth 100000 in
theorem kX12_setsAs_7_f6_f7 (l : Launch) (D : va_G) (ca : Nat → ClassId) (za h : Nat → Nat) (hh : sgH 26 h) (f : sg_F) (L : sg_L) (Q : sg_Q) (hI : sgI loM hiM f) (x1 : Int32) (hf_0_48 : f 0 48 = 6) (hf_0_49 : f 0 49 = 7) (b1 : 2 ≤ x1.toInt ∧ x1.toInt ≤ 2) (p0 : 6 ≤ (f 0 48).toInt ∧ (f 0 48).toInt ≤ 6) (sz : Nat) : Met l yX12_setsAs gwX12_setsAs { frames := 2, cells := 0, slots := 0, locals := 43 } (sgP D vwCl (tyX ca) 26 h (eM ca h) zcM za f L Q sz [.ref (h 0), .int 7, .int x1]) (sgQi D vwCl 26 h (eM ca h) sz (fun r f1 L1 Q1 => ((sgI loM hiM f1 ∧ sgK WkX12_setsAs_7_f6_f7 f f1 ∧ L1 = L ∧ Q1 = Q) ∧ (5 ≤ r.toInt ∧ r.toInt ≤ 54) ∧ (8 ≤ (f1 0 48).toInt ∧ (f1 0 48).toInt ≤ 8) ∧ (r, f1) = sX12_setsAs_7_f6_f7 x1 f L))) 0 0 (sgA 26 h sz) := by
  refine sg_ofWi (cc := cX12_setsAs) (maxL := 3) RX12 (by decide) rfl rfl (Nat.le_of_ble_eq_true rfl) ?_
  intro p e s m below meth cd Qz ls hx hb hml hown hts hK hZ hP hS hl hret
  have hA := sgY.self (n := 26) (h := h) (sz := s.heap.size)
  have hl : lv_has ls 3 [(0, .ref (h 0)), (1, .int 7), (2, .int x1)] := hl
  obtain ⟨H, hH⟩ : ∃ z : Heap, z = s.heap := ⟨_, rfl⟩
  obtain ⟨locs, hlo⟩ : ∃ z : List Loc, z = [] := ⟨_, rfl⟩
  have hP : va_P D vwCl (sgw 26 h (eM ca h) f L Q) H := by rw [hH]; exact hP
  have hS : va_S (sgA 26 h s.heap.size) s.heap H locs := by rw [hH, hlo]; exact hS
  suffices hgo : W p l e ({ frames := 2, cells := 0, slots := 0, locals := 43 }) s m ([.ref (h 0), .int 7, .int x1] : List Value).toArray below meth cd H locs 0 0 Qz (F0 m 0 ls []) by rw [hH, hlo] at hgo; exact hgo
  clear hH hlo
  obtain ⟨sp, hsp⟩ : ∃ z : Int32 × sg_F, z = sX12_setsAs_7_f6_f7 x1 f L := ⟨_, rfl⟩
  have hs : sp = sX12_setsAs_7_f6_f7 x1 f L := hsp
  have o_1 : (f 0 48).toInt = 6 := (congrArg Int32.toInt (show f 0 48 = 6 from hf_0_48)).trans (by decide)
  have hF : sgK WkX12_setsAs_7_f6_f7 f f := sgK.rf
  have blk_16 : ∀ (fp_16 : sg_F) (H : Heap) (locs : List Loc) (ls : Array Slot), sp = sX12_setsAs_7_f6_f7_b16 x1 fp_16 L → 6 ≤ (fp_16 0 48).toInt ∧ (fp_16 0 48).toInt ≤ 6 → 7 ≤ (fp_16 0 49).toInt ∧ (fp_16 0 49).toInt ≤ 7 → sgI loM hiM fp_16 → sgK WkX12_setsAs_7_f6_f7 f fp_16 → va_P D vwCl (sgw 26 h (eM ca h) fp_16 L Q) H → va_S (sgA 26 h s.heap.size) s.heap H locs → lv_has ls 3 [(0, .ref (h 0)), (2, .int x1)] → W p l e ({ frames := 2, cells := 0, slots := 0, locals := 43 }) s m ([.ref (h 0), .int 7, .int x1] : List Value).toArray below meth cd H locs 0 0 Qz (F0 m 16 ls []) := by
    intro fp_16 H locs ls hs hy0_16 hy1_16 hI hF hP hS hl
    obtain ⟨v_2, ev_2⟩ : ∃ z : Int32, z = fp_16 0 48 := ⟨_, rfl⟩
    have q_3 : 0 ≤ v_2.toInt ∧ v_2.toInt ≤ 19 := by rw [ev_2]; exact hI 0 48
    have q_4 : (fp_16 0 48).toInt = v_2.toInt := by rw [ev_2]
    obtain ⟨v_5, ev_5⟩ : ∃ z : Int32, z = fp_16 0 49 := ⟨_, rfl⟩
    have q_6 : 0 ≤ v_5.toInt ∧ v_5.toInt ≤ 7 := by rw [ev_5]; exact hI 0 49
    have q_7 : (fp_16 0 49).toInt = v_5.toInt := by rw [ev_5]
    have m_8 : fp_16 0 49 = 7 := (hF 0 49 (by decide)).trans hf_0_49
    refine lv_aload_n hx hb dX12_setsAs_16 rfl (lv_at hl 0 rfl) ?_
    refine lv_bipush (v := 20) hx hb dX12_setsAs_17 bp_20 ?_
    have c_9 : v_2 = 6 := Int32.toInt_inj.mp (by have k9 : (6 : Int32).toInt = 6 := ti_6; omega)
    have q_10 : (fp_16 0 48).toInt = 6 := (congrArg Int32.toInt (show fp_16 0 48 = 6 from (Eq.trans ev_2.symm c_9))).trans (by decide)
    refine sg_callv (va_runV (As := [.int 20]) (rest := []) ⟨hx, hb, hml, hown, hts⟩ (kX12_begins_20_f6 l D ca za h hh fp_16 L Q hI (Eq.trans ev_2.symm c_9) (by have k0 : (20 : Int32).toInt = 20 := ti_20; omega) H.size) (sl_c12_begins_0_0_0_0_12 hts ⟨Nat.le_of_ble_eq_true rfl, Nat.le_of_ble_eq_true rfl⟩) (sl_vM_0 hA hK hP hS hZ) rfl rfl hl.1 rfl (lv_room (Nat.le_of_ble_eq_true rfl)) dX12_setsAs_19 ⟨Nat.le_refl _, Nat.le_refl _⟩) hA hS (fun f_12 L_13 Q_14 H locs hq hP hS => ?_)
    obtain ⟨⟨hI, hk_f_12, eL9, eQ9⟩, p_15, u_16⟩ := hq
    rw [eL9, eQ9] at hP; clear eL9 eQ9
    have hF : sgK WkX12_setsAs_7_f6_f7 f f_12 := sgK.tr hF hk_f_12 (by decide +kernel)
    obtain ⟨v_17, ev_17⟩ : ∃ z : Int32, z = f_12 0 48 := ⟨_, rfl⟩
    have q_18 : 0 ≤ v_17.toInt ∧ v_17.toInt ≤ 19 := by rw [ev_17]; exact hI 0 48
    have q_19 : (f_12 0 48).toInt = v_17.toInt := (congrArg Int32.toInt (show f_12 0 48 = v_17 from ev_17.symm))
    refine lv_aload_n hx hb dX12_setsAs_22 rfl (lv_at hl 0 rfl) ?_
    refine lv_iconst (v := 0) hx hb dX12_setsAs_23 ic_0 ?_
    refine lv_iload_n hx hb dX12_setsAs_24 rfl (lv_at hl 1 rfl) ?_
    have c_21 : v_17 = 7 := Int32.toInt_inj.mp (by have k9 : (7 : Int32).toInt = 7 := ti_7; omega)
    have q_22 : (f_12 0 48).toInt = 7 := (congrArg Int32.toInt (show f_12 0 48 = 7 from (Eq.trans ev_17.symm c_21))).trans (by decide)
    refine sg_calli (va_runV (As := [.int 0, .int x1]) (rest := []) ⟨hx, hb, hml, hown, hts⟩ (kX12_setsAs_0_f7_f7 l D ca za h hh f_12 L Q hI x1 (Eq.trans ev_17.symm c_21) ((hk_f_12 0 49 (by decide)).trans m_8) b1 (by have k0 : (0 : Int32).toInt = 0 := ti_0; omega) H.size) (sl_c12_setsAs_1_0_0_21_12 hts ⟨Nat.le_of_ble_eq_true rfl, Nat.le_of_ble_eq_true rfl⟩) (sl_vM_0 hA hK hP hS hZ) rfl rfl hl.1 rfl (lv_room (Nat.le_of_ble_eq_true rfl)) dX12_setsAs_25 ⟨Nat.le_refl _, Nat.le_refl _⟩) hA hS (fun r_27 f_24 L_25 Q_26 H locs hq hP hS => ?_)
    obtain ⟨⟨hI, hk_f_24, eL9, eQ9⟩, hq, p_28, u_29⟩ := hq
    rw [eL9, eQ9] at hP; clear eL9 eQ9
    have hF : sgK WkX12_setsAs_7_f6_f7 f f_24 := sgK.tr hF hk_f_24 (by decide +kernel)
    obtain ⟨v_30, ev_30⟩ : ∃ z : Int32, z = f_24 0 48 := ⟨_, rfl⟩
    have q_31 : 0 ≤ v_30.toInt ∧ v_30.toInt ≤ 19 := by rw [ev_30]; exact hI 0 48
    have q_32 : (f_24 0 48).toInt = v_30.toInt := (congrArg Int32.toInt (show f_24 0 48 = v_30 from ev_30.symm))
    have k_34 : (0 : Int32).toInt = 0 := by decide
    refine lv_iconst (v := 3) hx hb dX12_setsAs_28 ic_3 ?_
    refine lv_iadd hx hb dX12_setsAs_29 ?_
    refine lv_topi (fun v_35 ev_35 => ?_)
    have q_36 : v_35.toInt = r_27.toInt + 3 := by rw [ev_35]; first | exact cm_add ti_3 (by omega) (by omega) | (have k1 : (3 : Int32).toInt = 3 := ti_3; exact (bn_addI (by omega) (by omega)).trans (by omega))
    exact hret _ _ _ _ (v_35) f_24 L Q dX12_setsAs_30 hP hS ⟨⟨hI, hF, rfl, rfl⟩, ⟨by omega, by omega⟩, ⟨by omega, by omega⟩, (Eq.trans (Eq.symm (hs.trans ((spl_e ev_2 (spl_e ev_5 (spl_e u_16 (spl_e ev_17 (spl2_e u_29 (spl_e ev_30 (spl_e ev_35 rfl)))))))))) hsp)⟩
  refine lv_iload_n hx hb dX12_setsAs_0 rfl (lv_at hl 1 rfl) ?_
  refine lv_iconst (v := 1) hx hb dX12_setsAs_1 ic_1 ?_
  refine lv_icmp_eq (tgt := 16) hx hb dX12_setsAs_2 (by decide) (fun c => absurd c (by decide)) (fun c => ?_)
  refine lv_iload_n hx hb dX12_setsAs_5 rfl (lv_at hl 1 rfl) ?_
  refine lv_iconst (v := 4) hx hb dX12_setsAs_6 ic_4 ?_
  refine lv_icmp_eq (tgt := 16) hx hb dX12_setsAs_7 (by decide) (fun c => absurd c (by decide)) (fun c => ?_)
  refine lv_iload_n hx hb dX12_setsAs_10 rfl (lv_at hl 1 rfl) ?_
  refine lv_bipush (v := 7) hx hb dX12_setsAs_11 bp_7 ?_
  refine lv_icmp_ne (tgt := 31) hx hb dX12_setsAs_13 (by decide) (fun c => absurd c (by decide)) (fun c => ?_)
  exact blk_16 f _ _ _ hs (by have zz0_48 : (f 0 48).toInt = 6 := (congrArg Int32.toInt (show f 0 48 = 6 from hf_0_48)).trans (by decide); exact ⟨by omega, by omega⟩) (by have zz0_49 : (f 0 49).toInt = 7 := (congrArg Int32.toInt (show f 0 49 = 7 from hf_0_49)).trans (by decide); exact ⟨by omega, by omega⟩) hI hF hP hS (lv_sub hl [0, 2] rfl)

abbrev WkX12_slipsAs_7_f4_f7 : List (Nat × Nat × Option Nat) := [(0, 0, some 48), (21, 21, some 4), (21, 21, some 5), (21, 21, some 6), (21, 21, some 7)]
set_option maxHeartbeats 4000000 in
set_option maxRecDepth 100000 in
theorem kX12_slipsAs_7_f4_f7 (l : Launch) (D : va_G) (ca : Nat → ClassId) (za h : Nat → Nat) (hh : sgH 26 h) (f : sg_F) (L : sg_L) (Q : sg_Q) (hI : sgI loM hiM f) (x1 : Int32) (hf_0_48 : f 0 48 = 4) (hf_0_49 : f 0 49 = 7) (b1 : 2 ≤ x1.toInt ∧ x1.toInt ≤ 2) (p0 : 4 ≤ (f 0 48).toInt ∧ (f 0 48).toInt ≤ 4) (sz : Nat) : Met l yX12_slipsAs gwX12_slipsAs { frames := 3, cells := 0, slots := 0, locals := 65 } (sgP D vwCl (tyX ca) 26 h (eM ca h) zcM za f L Q sz [.ref (h 0), .int 7, .int x1]) (sgQi D vwCl 26 h (eM ca h) sz (fun r f1 L1 Q1 => ((sgI loM hiM f1 ∧ sgK WkX12_slipsAs_7_f4_f7 f f1 ∧ L1 = L ∧ Q1 = Q) ∧ True ∧ (8 ≤ (f1 0 48).toInt ∧ (f1 0 48).toInt ≤ 8) ∧ (r, f1) = sX12_slipsAs_7_f4_f7 x1 f L))) 0 0 (sgA 26 h sz) := by
  refine sg_ofWi (cc := cX12_slipsAs) (maxL := 4) RX12 (by decide) rfl rfl (Nat.le_of_ble_eq_true rfl) ?_
  intro p e s m below meth cd Qz ls hx hb hml hown hts hK hZ hP hS hl hret
  have hA := sgY.self (n := 26) (h := h) (sz := s.heap.size)
  have hl : lv_has ls 4 [(0, .ref (h 0)), (1, .int 7), (2, .int x1)] := hl
  obtain ⟨H, hH⟩ : ∃ z : Heap, z = s.heap := ⟨_, rfl⟩
  obtain ⟨locs, hlo⟩ : ∃ z : List Loc, z = [] := ⟨_, rfl⟩
  have hP : va_P D vwCl (sgw 26 h (eM ca h) f L Q) H := by rw [hH]; exact hP
  have hS : va_S (sgA 26 h s.heap.size) s.heap H locs := by rw [hH, hlo]; exact hS
  suffices hgo : W p l e ({ frames := 3, cells := 0, slots := 0, locals := 65 }) s m ([.ref (h 0), .int 7, .int x1] : List Value).toArray below meth cd H locs 0 0 Qz (F0 m 0 ls []) by rw [hH, hlo] at hgo; exact hgo
  clear hH hlo
  obtain ⟨sp, hsp⟩ : ∃ z : Int32 × sg_F, z = sX12_slipsAs_7_f4_f7 x1 f L := ⟨_, rfl⟩
  have hs : sp = sX12_slipsAs_7_f4_f7 x1 f L := hsp
  have o_1 : (f 0 48).toInt = 4 := (congrArg Int32.toInt (show f 0 48 = 4 from hf_0_48)).trans (by decide)
  have hF : sgK WkX12_slipsAs_7_f4_f7 f f := sgK.rf
  have blk_36 : ∀ (fp_36 : sg_F) (H : Heap) (locs : List Loc) (ls : Array Slot), sp = sX12_slipsAs_7_f4_f7_b36 x1 fp_36 L → 4 ≤ (fp_36 0 48).toInt ∧ (fp_36 0 48).toInt ≤ 4 → 7 ≤ (fp_36 0 49).toInt ∧ (fp_36 0 49).toInt ≤ 7 → sgI loM hiM fp_36 → sgK WkX12_slipsAs_7_f4_f7 f fp_36 → va_P D vwCl (sgw 26 h (eM ca h) fp_36 L Q) H → va_S (sgA 26 h s.heap.size) s.heap H locs → lv_has ls 4 [(0, .ref (h 0)), (2, .int x1)] → W p l e ({ frames := 3, cells := 0, slots := 0, locals := 65 }) s m ([.ref (h 0), .int 7, .int x1] : List Value).toArray below meth cd H locs 0 0 Qz (F0 m 36 ls []) := by
    intro fp_36 H locs ls hs hy0_36 hy1_36 hI hF hP hS hl
    obtain ⟨v_2, ev_2⟩ : ∃ z : Int32, z = fp_36 0 48 := ⟨_, rfl⟩
    have q_3 : 0 ≤ v_2.toInt ∧ v_2.toInt ≤ 19 := by rw [ev_2]; exact hI 0 48
    have q_4 : (fp_36 0 48).toInt = v_2.toInt := by rw [ev_2]
    obtain ⟨v_5, ev_5⟩ : ∃ z : Int32, z = fp_36 0 49 := ⟨_, rfl⟩
    have q_6 : 0 ≤ v_5.toInt ∧ v_5.toInt ≤ 7 := by rw [ev_5]; exact hI 0 49
    have q_7 : (fp_36 0 49).toInt = v_5.toInt := by rw [ev_5]
    have m_8 : fp_36 0 49 = 7 := (hF 0 49 (by decide)).trans hf_0_49
    refine lv_aload_n hx hb dX12_slipsAs_36 rfl (lv_at hl 0 rfl) ?_
    refine lv_bipush (v := 50) hx hb dX12_slipsAs_37 bp_50 ?_
    have c_9 : v_2 = 4 := Int32.toInt_inj.mp (by have k9 : (4 : Int32).toInt = 4 := ti_4; omega)
    have q_10 : (fp_36 0 48).toInt = 4 := (congrArg Int32.toInt (show fp_36 0 48 = 4 from (Eq.trans ev_2.symm c_9))).trans (by decide)
    refine sg_callv (va_runV (As := [.int 50]) (rest := []) ⟨hx, hb, hml, hown, hts⟩ (kX12_begins_50_f4 l D ca za h hh fp_36 L Q hI (Eq.trans ev_2.symm c_9) (by have k0 : (50 : Int32).toInt = 50 := ti_50; omega) H.size) (sl_c12_begins_0_0_0_0_12 hts ⟨Nat.le_of_ble_eq_true rfl, Nat.le_of_ble_eq_true rfl⟩) (sl_vM_0 hA hK hP hS hZ) rfl rfl hl.1 rfl (lv_room (Nat.le_of_ble_eq_true rfl)) dX12_slipsAs_39 ⟨Nat.le_refl _, Nat.le_refl _⟩) hA hS (fun f_12 L_13 Q_14 H locs hq hP hS => ?_)
    obtain ⟨⟨hI, hk_f_12, eL9, eQ9⟩, p_15, u_16⟩ := hq
    rw [eL9, eQ9] at hP; clear eL9 eQ9
    have hF : sgK WkX12_slipsAs_7_f4_f7 f f_12 := sgK.tr hF hk_f_12 (by decide +kernel)
    obtain ⟨v_17, ev_17⟩ : ∃ z : Int32, z = f_12 0 48 := ⟨_, rfl⟩
    have q_18 : 0 ≤ v_17.toInt ∧ v_17.toInt ≤ 19 := by rw [ev_17]; exact hI 0 48
    have q_19 : (f_12 0 48).toInt = v_17.toInt := (congrArg Int32.toInt (show f_12 0 48 = v_17 from ev_17.symm))
    refine lv_aload_n hx hb dX12_slipsAs_42 rfl (lv_at hl 0 rfl) ?_
    refine lv_iconst (v := 1) hx hb dX12_slipsAs_43 ic_1 ?_
    refine lv_iload_n hx hb dX12_slipsAs_44 rfl (lv_at hl 1 rfl) ?_
    have c_21 : v_17 = 5 := Int32.toInt_inj.mp (by have k9 : (5 : Int32).toInt = 5 := ti_5; omega)
    have q_22 : (f_12 0 48).toInt = 5 := (congrArg Int32.toInt (show f_12 0 48 = 5 from (Eq.trans ev_17.symm c_21))).trans (by decide)
    refine sg_calli (va_runV (As := [.int 1, .int x1]) (rest := []) ⟨hx, hb, hml, hown, hts⟩ (kX12_slipsAs_1_f5_f7 l D ca za h hh f_12 L Q hI x1 (Eq.trans ev_17.symm c_21) ((hk_f_12 0 49 (by decide)).trans m_8) b1 (by have k0 : (1 : Int32).toInt = 1 := ti_1; omega) H.size) (sl_c12_slipsAs_1_0_0_21_12 hts ⟨Nat.le_of_ble_eq_true rfl, Nat.le_of_ble_eq_true rfl⟩) (sl_vM_0 hA hK hP hS hZ) rfl rfl hl.1 rfl (lv_room (Nat.le_of_ble_eq_true rfl)) dX12_slipsAs_45 ⟨Nat.le_refl _, Nat.le_refl _⟩) hA hS (fun r_27 f_24 L_25 Q_26 H locs hq hP hS => ?_)
    obtain ⟨⟨hI, hk_f_24, eL9, eQ9⟩, hq, p_28, u_29⟩ := hq
    rw [eL9, eQ9] at hP; clear eL9 eQ9
    have hF : sgK WkX12_slipsAs_7_f4_f7 f f_24 := sgK.tr hF hk_f_24 (by decide +kernel)
    obtain ⟨v_30, ev_30⟩ : ∃ z : Int32, z = f_24 0 48 := ⟨_, rfl⟩
    have q_31 : 0 ≤ v_30.toInt ∧ v_30.toInt ≤ 19 := by rw [ev_30]; exact hI 0 48
    have q_32 : (f_24 0 48).toInt = v_30.toInt := (congrArg Int32.toInt (show f_24 0 48 = v_30 from ev_30.symm))
    have k_34 : (1 : Int32).toInt = 1 := by decide
    refine lv_istore_n (lv' := [(3, .int r_27), (0, .ref (h 0)), (2, .int x1)]) hx hb dX12_slipsAs_48 rfl hl (by decide) rfl (fun ls hl => ?_)
    refine lv_iload_n hx hb dX12_slipsAs_49 rfl (lv_at hl 0 rfl) ?_
    refine lv_aload_n hx hb dX12_slipsAs_50 rfl (lv_at hl 1 rfl) ?_
    refine lv_aload_n hx hb dX12_slipsAs_51 rfl (lv_at hl 1 rfl) ?_
    refine sl_gM_0_49_12 (v := 7) hx hb hts hown hK hP (show f_24 0 49 = 7 from ((hk_f_24 0 49 (by decide)).trans ((hk_f_12 0 49 (by decide)).trans m_8))) dX12_slipsAs_52 ?_
    refine lv_iconst (v := 2) hx hb dX12_slipsAs_55 ic_2 ?_
    have c_35 : v_30 = 6 := Int32.toInt_inj.mp (by have k9 : (6 : Int32).toInt = 6 := ti_6; omega)
    have q_36 : (f_24 0 48).toInt = 6 := (congrArg Int32.toInt (show f_24 0 48 = 6 from (Eq.trans ev_30.symm c_35))).trans (by decide)
    refine sg_calli (va_runV (As := [.int 7, .int 2]) (rest := [.int r_27]) ⟨hx, hb, hml, hown, hts⟩ (kX12_setsAs_7_f6_f7 l D ca za h hh f_24 L Q hI 2 (Eq.trans ev_30.symm c_35) ((hk_f_24 0 49 (by decide)).trans ((hk_f_12 0 49 (by decide)).trans m_8)) (by decide) (by have k0 : (7 : Int32).toInt = 7 := ti_7; have k1 : (2 : Int32).toInt = 2 := ti_2; omega) H.size) (sl_c12_setsAs_2_0_0_43_12 hts ⟨Nat.le_of_ble_eq_true rfl, Nat.le_of_ble_eq_true rfl⟩) (sl_vM_0 hA hK hP hS hZ) rfl rfl hl.1 rfl (lv_room (Nat.le_of_ble_eq_true rfl)) dX12_slipsAs_56 ⟨Nat.le_refl _, Nat.le_refl _⟩) hA hS (fun r_41 f_38 L_39 Q_40 H locs hq hP hS => ?_)
    obtain ⟨⟨hI, hk_f_38, eL9, eQ9⟩, hq, p_42, u_43⟩ := hq
    rw [eL9, eQ9] at hP; clear eL9 eQ9
    have hF : sgK WkX12_slipsAs_7_f4_f7 f f_38 := sgK.tr hF hk_f_38 (by decide +kernel)
    obtain ⟨v_44, ev_44⟩ : ∃ z : Int32, z = f_38 0 48 := ⟨_, rfl⟩
    have q_45 : 0 ≤ v_44.toInt ∧ v_44.toInt ≤ 19 := by rw [ev_44]; exact hI 0 48
    have q_46 : (f_38 0 48).toInt = v_44.toInt := (congrArg Int32.toInt (show f_38 0 48 = v_44 from ev_44.symm))
    have k_48 : (7 : Int32).toInt = 7 := by decide
    have k_49 : (2 : Int32).toInt = 2 := by decide
    refine lv_isub hx hb dX12_slipsAs_59 ?_
    refine lv_topi (fun v_50 ev_50 => ?_)
    exact hret _ _ _ _ (v_50) f_38 L Q dX12_slipsAs_60 hP hS ⟨⟨hI, hF, rfl, rfl⟩, trivial, ⟨by omega, by omega⟩, (Eq.trans (Eq.symm (hs.trans ((spl_e ev_2 (spl_e ev_5 (spl_e u_16 (spl_e ev_17 (spl2_e u_29 (spl_e ev_30 (spl2_e u_43 (spl_e ev_44 (spl_e ev_50 rfl)))))))))))) hsp)⟩
  refine lv_iload_n hx hb dX12_slipsAs_0 rfl (lv_at hl 1 rfl) ?_
  refine lv_iconst (v := 3) hx hb dX12_slipsAs_1 ic_3 ?_
  refine lv_icmp_eq (tgt := 10) hx hb dX12_slipsAs_2 (by decide) (fun c => absurd c (by decide)) (fun c => ?_)
  refine lv_iload_n hx hb dX12_slipsAs_5 rfl (lv_at hl 1 rfl) ?_
  refine lv_iconst (v := 5) hx hb dX12_slipsAs_6 ic_5 ?_
  refine lv_icmp_ne (tgt := 25) hx hb dX12_slipsAs_7 (by decide) (fun c => ?_) (fun c => absurd c (by decide))
  refine lv_iload_n hx hb dX12_slipsAs_25 rfl (lv_at hl 1 rfl) ?_
  refine lv_iconst (v := 4) hx hb dX12_slipsAs_26 ic_4 ?_
  refine lv_icmp_eq (tgt := 36) hx hb dX12_slipsAs_27 (by decide) (fun c => absurd c (by decide)) (fun c => ?_)
  refine lv_iload_n hx hb dX12_slipsAs_30 rfl (lv_at hl 1 rfl) ?_
  refine lv_bipush (v := 7) hx hb dX12_slipsAs_31 bp_7 ?_
  refine lv_icmp_ne (tgt := 61) hx hb dX12_slipsAs_33 (by decide) (fun c => absurd c (by decide)) (fun c => ?_)
  exact blk_36 f _ _ _ hs (by have zz0_48 : (f 0 48).toInt = 4 := (congrArg Int32.toInt (show f 0 48 = 4 from hf_0_48)).trans (by decide); exact ⟨by omega, by omega⟩) (by have zz0_49 : (f 0 49).toInt = 7 := (congrArg Int32.toInt (show f 0 49 = 7 from hf_0_49)).trans (by decide); exact ⟨by omega, by omega⟩) hI hF hP hS (lv_sub hl [0, 2] rfl)

abbrev WkX12_sitsAs_7_f0_f7 : List (Nat × Nat × Option Nat) := [(0, 0, some 48), (21, 21, some 0), (21, 21, some 1), (21, 21, some 2), (21, 21, some 3), (21, 21, some 4), (21, 21, some 5), (21, 21, some 6), (21, 21, some 7)]
set_option maxHeartbeats 4000000 in
set_option maxRecDepth 100000 in
theorem kX12_sitsAs_7_f0_f7 (l : Launch) (D : va_G) (ca : Nat → ClassId) (za h : Nat → Nat) (hh : sgH 26 h) (f : sg_F) (L : sg_L) (Q : sg_Q) (hI : sgI loM hiM f) (x1 : Int32) (hf_0_48 : f 0 48 = 0) (hf_0_49 : f 0 49 = 7) (p0 : 0 ≤ (f 0 48).toInt ∧ (f 0 48).toInt ≤ 0) (sz : Nat) : Met l yX12_sitsAs gwX12_sitsAs { frames := 4, cells := 0, slots := 0, locals := 88 } (sgP D vwCl (tyX ca) 26 h (eM ca h) zcM za f L Q sz [.ref (h 0), .int 7, .int x1]) (sgQi D vwCl 26 h (eM ca h) sz (fun r f1 L1 Q1 => ((sgI loM hiM f1 ∧ sgK WkX12_sitsAs_7_f0_f7 f f1 ∧ L1 = L ∧ Q1 = Q) ∧ True ∧ (8 ≤ (f1 0 48).toInt ∧ (f1 0 48).toInt ≤ 8) ∧ (r, f1) = sX12_sitsAs_7_f0_f7 x1 f L))) 0 0 (sgA 26 h sz) := by
  refine sg_ofWi (cc := cX12_sitsAs) (maxL := 4) RX12 (by decide) rfl rfl (Nat.le_of_ble_eq_true rfl) ?_
  intro p e s m below meth cd Qz ls hx hb hml hown hts hK hZ hP hS hl hret
  have hA := sgY.self (n := 26) (h := h) (sz := s.heap.size)
  have hl : lv_has ls 4 [(0, .ref (h 0)), (1, .int 7), (2, .int x1)] := hl
  obtain ⟨H, hH⟩ : ∃ z : Heap, z = s.heap := ⟨_, rfl⟩
  obtain ⟨locs, hlo⟩ : ∃ z : List Loc, z = [] := ⟨_, rfl⟩
  have hP : va_P D vwCl (sgw 26 h (eM ca h) f L Q) H := by rw [hH]; exact hP
  have hS : va_S (sgA 26 h s.heap.size) s.heap H locs := by rw [hH, hlo]; exact hS
  suffices hgo : W p l e ({ frames := 4, cells := 0, slots := 0, locals := 88 }) s m ([.ref (h 0), .int 7, .int x1] : List Value).toArray below meth cd H locs 0 0 Qz (F0 m 0 ls []) by rw [hH, hlo] at hgo; exact hgo
  clear hH hlo
  obtain ⟨sp, hsp⟩ : ∃ z : Int32 × sg_F, z = sX12_sitsAs_7_f0_f7 x1 f L := ⟨_, rfl⟩
  have hs : sp = sX12_sitsAs_7_f0_f7 x1 f L := hsp
  have o_1 : (f 0 48).toInt = 0 := (congrArg Int32.toInt (show f 0 48 = 0 from hf_0_48)).trans (by decide)
  have hF : sgK WkX12_sitsAs_7_f0_f7 f f := sgK.rf
  refine lv_iload_n hx hb dX12_sitsAs_0 rfl (lv_at hl 1 rfl) ?_
  refine lv_iconst (v := 3) hx hb dX12_sitsAs_1 ic_3 ?_
  refine lv_icmp_eq (tgt := 10) hx hb dX12_sitsAs_2 (by decide) (fun c => absurd c (by decide)) (fun c => ?_)
  refine lv_iload_n hx hb dX12_sitsAs_5 rfl (lv_at hl 1 rfl) ?_
  refine lv_iconst (v := 5) hx hb dX12_sitsAs_6 ic_5 ?_
  refine lv_icmp_ne (tgt := 25) hx hb dX12_sitsAs_7 (by decide) (fun c => ?_) (fun c => absurd c (by decide))
  refine lv_iload_n hx hb dX12_sitsAs_25 rfl (lv_at hl 1 rfl) ?_
  refine lv_iconst (v := 2) hx hb dX12_sitsAs_26 ic_2 ?_
  refine lv_icmp_ne (tgt := 44) hx hb dX12_sitsAs_27 (by decide) (fun c => ?_) (fun c => absurd c (by decide))
  refine lv_iload_n hx hb dX12_sitsAs_44 rfl (lv_at hl 1 rfl) ?_
  refine lv_bipush (v := 7) hx hb dX12_sitsAs_45 bp_7 ?_
  refine lv_icmp_ne (tgt := 75) hx hb dX12_sitsAs_47 (by decide) (fun c => absurd c (by decide)) (fun c => ?_)
  refine lv_aload_n hx hb dX12_sitsAs_50 rfl (lv_at hl 0 rfl) ?_
  refine lv_bipush (v := 80) hx hb dX12_sitsAs_51 bp_80 ?_
  have q_2 : (f 0 48).toInt = 0 := (congrArg Int32.toInt (show f 0 48 = 0 from hf_0_48)).trans (by decide)
  refine sg_callv (va_runV (As := [.int 80]) (rest := []) ⟨hx, hb, hml, hown, hts⟩ (kX12_begins_80_f0 l D ca za h hh f L Q hI hf_0_48 (by have k0 : (80 : Int32).toInt = 80 := ti_80; omega) H.size) (sl_c12_begins_0_0_0_0_12 hts ⟨Nat.le_of_ble_eq_true rfl, Nat.le_of_ble_eq_true rfl⟩) (sl_vM_0 hA hK hP hS hZ) rfl rfl hl.1 rfl (lv_room (Nat.le_of_ble_eq_true rfl)) dX12_sitsAs_53 ⟨Nat.le_refl _, Nat.le_refl _⟩) hA hS (fun f_4 L_5 Q_6 H locs hq hP hS => ?_)
  obtain ⟨⟨hI, hk_f_4, eL9, eQ9⟩, p_7, u_8⟩ := hq
  rw [eL9, eQ9] at hP; clear eL9 eQ9
  have hF : sgK WkX12_sitsAs_7_f0_f7 f f_4 := sgK.tr hF hk_f_4 (by decide +kernel)
  obtain ⟨v_9, ev_9⟩ : ∃ z : Int32, z = f_4 0 48 := ⟨_, rfl⟩
  have q_10 : 0 ≤ v_9.toInt ∧ v_9.toInt ≤ 19 := by rw [ev_9]; exact hI 0 48
  have q_11 : (f_4 0 48).toInt = v_9.toInt := (congrArg Int32.toInt (show f_4 0 48 = v_9 from ev_9.symm))
  refine lv_aload_n hx hb dX12_sitsAs_56 rfl (lv_at hl 0 rfl) ?_
  refine lv_iconst (v := 4) hx hb dX12_sitsAs_57 ic_4 ?_
  refine lv_iload_n hx hb dX12_sitsAs_58 rfl (lv_at hl 2 rfl) ?_
  have c_13 : v_9 = 1 := Int32.toInt_inj.mp (by have k9 : (1 : Int32).toInt = 1 := ti_1; omega)
  have q_14 : (f_4 0 48).toInt = 1 := (congrArg Int32.toInt (show f_4 0 48 = 1 from (Eq.trans ev_9.symm c_13))).trans (by decide)
  refine sg_calli (va_runV (As := [.int 4, .int x1]) (rest := []) ⟨hx, hb, hml, hown, hts⟩ (kX12_sitsAs_4_f1_f7 l D ca za h hh f_4 L Q hI x1 (Eq.trans ev_9.symm c_13) ((hk_f_4 0 49 (by decide)).trans hf_0_49) (by have k0 : (4 : Int32).toInt = 4 := ti_4; omega) H.size) (sl_c12_sitsAs_3_0_0_65_12 hts ⟨Nat.le_of_ble_eq_true rfl, Nat.le_of_ble_eq_true rfl⟩) (sl_vM_0 hA hK hP hS hZ) rfl rfl hl.1 rfl (lv_room (Nat.le_of_ble_eq_true rfl)) dX12_sitsAs_59 ⟨Nat.le_refl _, Nat.le_refl _⟩) hA hS (fun r_19 f_16 L_17 Q_18 H locs hq hP hS => ?_)
  obtain ⟨⟨hI, hk_f_16, eL9, eQ9⟩, hq, p_20, u_21⟩ := hq
  rw [eL9, eQ9] at hP; clear eL9 eQ9
  have hF : sgK WkX12_sitsAs_7_f0_f7 f f_16 := sgK.tr hF hk_f_16 (by decide +kernel)
  obtain ⟨v_22, ev_22⟩ : ∃ z : Int32, z = f_16 0 48 := ⟨_, rfl⟩
  have q_23 : 0 ≤ v_22.toInt ∧ v_22.toInt ≤ 19 := by rw [ev_22]; exact hI 0 48
  have q_24 : (f_16 0 48).toInt = v_22.toInt := (congrArg Int32.toInt (show f_16 0 48 = v_22 from ev_22.symm))
  have k_26 : (4 : Int32).toInt = 4 := by decide
  refine lv_istore_n (lv' := [(3, .int r_19), (0, .ref (h 0)), (1, .int 7), (2, .int x1)]) hx hb dX12_sitsAs_62 rfl hl (by decide) rfl (fun ls hl => ?_)
  refine lv_iload_n hx hb dX12_sitsAs_63 rfl (lv_at hl 0 rfl) ?_
  refine lv_aload_n hx hb dX12_sitsAs_64 rfl (lv_at hl 1 rfl) ?_
  refine lv_aload_n hx hb dX12_sitsAs_65 rfl (lv_at hl 1 rfl) ?_
  refine sl_gM_0_49_12 (v := 7) hx hb hts hown hK hP (show f_16 0 49 = 7 from ((hk_f_16 0 49 (by decide)).trans ((hk_f_4 0 49 (by decide)).trans hf_0_49))) dX12_sitsAs_66 ?_
  refine lv_iconst (v := 2) hx hb dX12_sitsAs_69 ic_2 ?_
  have c_27 : v_22 = 4 := Int32.toInt_inj.mp (by have k9 : (4 : Int32).toInt = 4 := ti_4; omega)
  have q_28 : (f_16 0 48).toInt = 4 := (congrArg Int32.toInt (show f_16 0 48 = 4 from (Eq.trans ev_22.symm c_27))).trans (by decide)
  refine sg_calli (va_runV (As := [.int 7, .int 2]) (rest := [.int r_19]) ⟨hx, hb, hml, hown, hts⟩ (kX12_slipsAs_7_f4_f7 l D ca za h hh f_16 L Q hI 2 (Eq.trans ev_22.symm c_27) ((hk_f_16 0 49 (by decide)).trans ((hk_f_4 0 49 (by decide)).trans hf_0_49)) (by decide) (by have k0 : (7 : Int32).toInt = 7 := ti_7; have k1 : (2 : Int32).toInt = 2 := ti_2; omega) H.size) (sl_c12_slipsAs_3_0_0_65_12 hts ⟨Nat.le_of_ble_eq_true rfl, Nat.le_of_ble_eq_true rfl⟩) (sl_vM_0 hA hK hP hS hZ) rfl rfl hl.1 rfl (lv_room (Nat.le_of_ble_eq_true rfl)) dX12_sitsAs_70 ⟨Nat.le_refl _, Nat.le_refl _⟩) hA hS (fun r_33 f_30 L_31 Q_32 H locs hq hP hS => ?_)
  obtain ⟨⟨hI, hk_f_30, eL9, eQ9⟩, hq, p_34, u_35⟩ := hq
  rw [eL9, eQ9] at hP; clear eL9 eQ9
  have hF : sgK WkX12_sitsAs_7_f0_f7 f f_30 := sgK.tr hF hk_f_30 (by decide +kernel)
  obtain ⟨v_36, ev_36⟩ : ∃ z : Int32, z = f_30 0 48 := ⟨_, rfl⟩
  have q_37 : 0 ≤ v_36.toInt ∧ v_36.toInt ≤ 19 := by rw [ev_36]; exact hI 0 48
  have q_38 : (f_30 0 48).toInt = v_36.toInt := (congrArg Int32.toInt (show f_30 0 48 = v_36 from ev_36.symm))
  have k_40 : (7 : Int32).toInt = 7 := by decide
  have k_41 : (2 : Int32).toInt = 2 := by decide
  refine lv_iadd hx hb dX12_sitsAs_73 ?_
  refine lv_topi (fun v_42 ev_42 => ?_)
  exact hret _ _ _ _ (v_42) f_30 L Q dX12_sitsAs_74 hP hS ⟨⟨hI, hF, rfl, rfl⟩, trivial, ⟨by omega, by omega⟩, (Eq.trans (Eq.symm (hs.trans ((spl_e u_8 (spl_e ev_9 (spl2_e u_21 (spl_e ev_22 (spl2_e u_35 (spl_e ev_36 (spl_e ev_42 rfl)))))))))) hsp)⟩

abbrev WkX12_begins_11_f0 : List (Nat × Nat × Option Nat) := [(0, 0, some 48), (21, 21, some 0)]
set_option maxHeartbeats 4000000 in
set_option maxRecDepth 100000 in
theorem kX12_begins_11_f0 (l : Launch) (D : va_G) (ca : Nat → ClassId) (za h : Nat → Nat) (hh : sgH 26 h) (f : sg_F) (L : sg_L) (Q : sg_Q) (hI : sgI loM hiM f) (hf_0_48 : f 0 48 = 0) (p0 : 0 ≤ (f 0 48).toInt ∧ (f 0 48).toInt ≤ 0) (sz : Nat) : Met l yX12_begins gwX12_begins { frames := 0, cells := 0, slots := 0, locals := 0 } (sgP D vwCl (tyX ca) 26 h (eM ca h) zcM za f L Q sz [.ref (h 0), .int 11]) (sgQv D vwCl 26 h (eM ca h) sz (fun f1 L1 Q1 => ((sgI loM hiM f1 ∧ sgK WkX12_begins_11_f0 f f1 ∧ L1 = L ∧ Q1 = Q) ∧ (1 ≤ (f1 0 48).toInt ∧ (f1 0 48).toInt ≤ 1) ∧ (f1) = sX12_begins_11_f0 f L))) 0 0 (sgA 26 h sz) := by
  refine sg_ofWv (cc := cX12_begins) (maxL := 2) RX12 (by decide) rfl rfl (Nat.le_of_ble_eq_true rfl) ?_
  intro p e s m below meth cd Qz ls hx hb hml hown hts hK hZ hP hS hl hret
  have hA := sgY.self (n := 26) (h := h) (sz := s.heap.size)
  have hl : lv_has ls 2 [(0, .ref (h 0)), (1, .int 11)] := hl
  obtain ⟨H, hH⟩ : ∃ z : Heap, z = s.heap := ⟨_, rfl⟩
  obtain ⟨locs, hlo⟩ : ∃ z : List Loc, z = [] := ⟨_, rfl⟩
  have hP : va_P D vwCl (sgw 26 h (eM ca h) f L Q) H := by rw [hH]; exact hP
  have hS : va_S (sgA 26 h s.heap.size) s.heap H locs := by rw [hH, hlo]; exact hS
  suffices hgo : W p l e ({ frames := 0, cells := 0, slots := 0, locals := 0 }) s m ([.ref (h 0), .int 11] : List Value).toArray below meth cd H locs 0 0 Qz (F0 m 0 ls []) by rw [hH, hlo] at hgo; exact hgo
  clear hH hlo
  obtain ⟨sp, hsp⟩ : ∃ z : sg_F, z = sX12_begins_11_f0 f L := ⟨_, rfl⟩
  have hs : sp = sX12_begins_11_f0 f L := hsp
  have o_1 : (f 0 48).toInt = 0 := (congrArg Int32.toInt (show f 0 48 = 0 from hf_0_48)).trans (by decide)
  have hF : sgK WkX12_begins_11_f0 f f := sgK.rf
  have blk_19 : ∀ (fp_19 : sg_F) (H : Heap) (locs : List Loc) (ls : Array Slot), sp = sX12_begins_11_f0_b19 fp_19 L → 0 ≤ (fp_19 0 48).toInt ∧ (fp_19 0 48).toInt ≤ 0 → sgI loM hiM fp_19 → sgK WkX12_begins_11_f0 f fp_19 → va_P D vwCl (sgw 26 h (eM ca h) fp_19 L Q) H → va_S (sgA 26 h s.heap.size) s.heap H locs → lv_has ls 2 [(0, .ref (h 0))] → W p l e ({ frames := 0, cells := 0, slots := 0, locals := 0 }) s m ([.ref (h 0), .int 11] : List Value).toArray below meth cd H locs 0 0 Qz (F0 m 19 ls []) := by
    intro fp_19 H locs ls hs hy0_19 hI hF hP hS hl
    obtain ⟨v_2, ev_2⟩ : ∃ z : Int32, z = fp_19 0 48 := ⟨_, rfl⟩
    have q_3 : 0 ≤ v_2.toInt ∧ v_2.toInt ≤ 19 := by rw [ev_2]; exact hI 0 48
    have q_4 : (fp_19 0 48).toInt = v_2.toInt := by rw [ev_2]
    refine lv_aload_n hx hb dX12_begins_19 rfl (lv_at hl 0 rfl) ?_
    refine lv_dup hx hb dX12_begins_20 rfl ?_
    refine sl_gM_0_48_12 (v := v_2) hx hb hts hown hK hP (show fp_19 0 48 = v_2 from ev_2.symm) dX12_begins_21 ?_
    refine lv_iconst (v := 1) hx hb dX12_begins_24 ic_1 ?_
    refine lv_iadd hx hb dX12_begins_25 ?_
    refine lv_topi (fun v_5 ev_5 => ?_)
    have q_6 : v_5.toInt = v_2.toInt + 1 := by rw [ev_5]; first | exact cm_add ti_1 (by omega) (by omega) | (have k1 : (1 : Int32).toInt = 1 := ti_1; exact (bn_addI (by omega) (by omega)).trans (by omega))
    refine sl_pM_0_48_12 (x := v_5) hx hb hts hown hh hA hK hP hS dX12_begins_26 (fun f_7 H locs ef_7 hP hS => ?_)
    have hI : sgI loM hiM f_7 := by rw [ef_7]; exact sgI.put hI 0 48 (show 0 ≤ (v_5 : Int32).toInt ∧ (v_5 : Int32).toInt ≤ 19 from ⟨by omega, by omega⟩)
    have hF : sgK WkX12_begins_11_f0 f f_7 := sgK.put hF ef_7 (by rfl)
    have q_8 : (f_7 0 48).toInt = v_5.toInt := (congrArg Int32.toInt (show f_7 0 48 = v_5 from (by rw [ef_7, sg_up_s, sgu_s])))
    exact hret _ _ _ _ f_7 L Q dX12_begins_29 hP hS ⟨⟨hI, hF, rfl, rfl⟩, ⟨by omega, by omega⟩, (Eq.trans (Eq.symm (hs.trans ((spl_e ev_2 (spl_e ev_5 (spl_e ef_7 rfl)))))) hsp)⟩
  refine lv_aload_n hx hb dX12_begins_0 rfl (lv_at hl 0 rfl) ?_
  refine sl_gM_0_48_12 (v := 0) hx hb hts hown hK hP (show f 0 48 = 0 from hf_0_48) dX12_begins_1 ?_
  refine lv_bipush (v := 24) hx hb dX12_begins_4 bp_24 ?_
  refine lv_icmp_ge (tgt := 19) hx hb dX12_begins_6 (by decide) (fun c => absurd c (by decide)) (fun c => ?_)
  refine lv_aload_n hx hb dX12_begins_9 rfl (lv_at hl 0 rfl) ?_
  refine sl_gM_0_47_12 hx hb hts hown hK hP dX12_begins_10 ?_
  refine lv_aload_n hx hb dX12_begins_13 rfl (lv_at hl 0 rfl) ?_
  refine sl_gM_0_48_12 (v := 0) hx hb hts hown hK hP (show f 0 48 = 0 from hf_0_48) dX12_begins_14 ?_
  refine lv_iload_n hx hb dX12_begins_17 rfl (lv_at hl 1 rfl) ?_
  refine sg_iast hx hb hh hA hK hP hS 21 (by decide) 0 (fun _ => rfl) rfl (i := 0) (x := 11) (vp_in_iff.mpr (by decide)) dX12_begins_18 (fun f_10 H locs ef_10 hP hS => ?_)
  have ef_10 : f_10 = sg_up f 21 (sgu (f 21) 0 11) := ef_10
  have hI : sgI loM hiM f_10 := by rw [ef_10]; exact sgI.put hI 21 0 (show 0 ≤ (11 : Int32).toInt ∧ (11 : Int32).toInt ≤ 81 from by decide)
  have hF : sgK WkX12_begins_11_f0 f f_10 := sgK.put hF ef_10 (by rfl)
  exact blk_19 f_10 _ _ _ (hs.trans ((spl_e ef_10 rfl))) (by have zz0_48 : (f_10 0 48).toInt = 0 := (congrArg Int32.toInt (show f_10 0 48 = 0 from (by rw [ef_10, sg_up_n (by decide)]; exact hf_0_48))).trans (by decide); exact ⟨by omega, by omega⟩) hI hF hP hS (lv_sub hl [0] rfl)

abbrev WkX12_slipsAs_0_f0_f0 : List (Nat × Nat × Option Nat) := [(0, 0, some 48), (21, 21, some 0)]
set_option maxHeartbeats 4000000 in
set_option maxRecDepth 100000 in
theorem kX12_slipsAs_0_f0_f0 (l : Launch) (D : va_G) (ca : Nat → ClassId) (za h : Nat → Nat) (hh : sgH 26 h) (f : sg_F) (L : sg_L) (Q : sg_Q) (hI : sgI loM hiM f) (x1 : Int32) (hf_0_48 : f 0 48 = 0) (hf_0_49 : f 0 49 = 0) (p0 : 0 ≤ (f 0 48).toInt ∧ (f 0 48).toInt ≤ 0) (sz : Nat) : Met l yX12_slipsAs gwX12_slipsAs { frames := 1, cells := 0, slots := 0, locals := 21 } (sgP D vwCl (tyX ca) 26 h (eM ca h) zcM za f L Q sz [.ref (h 0), .int 0, .int x1]) (sgQi D vwCl 26 h (eM ca h) sz (fun r f1 L1 Q1 => ((sgI loM hiM f1 ∧ sgK WkX12_slipsAs_0_f0_f0 f f1 ∧ L1 = L ∧ Q1 = Q) ∧ True ∧ (1 ≤ (f1 0 48).toInt ∧ (f1 0 48).toInt ≤ 1) ∧ (r, f1) = sX12_slipsAs_0_f0_f0 x1 f L))) 0 0 (sgA 26 h sz) := by
  refine sg_ofWi (cc := cX12_slipsAs) (maxL := 4) RX12 (by decide) rfl rfl (Nat.le_of_ble_eq_true rfl) ?_
  intro p e s m below meth cd Qz ls hx hb hml hown hts hK hZ hP hS hl hret
  have hA := sgY.self (n := 26) (h := h) (sz := s.heap.size)
  have hl : lv_has ls 4 [(0, .ref (h 0)), (1, .int 0), (2, .int x1)] := hl
  obtain ⟨H, hH⟩ : ∃ z : Heap, z = s.heap := ⟨_, rfl⟩
  obtain ⟨locs, hlo⟩ : ∃ z : List Loc, z = [] := ⟨_, rfl⟩
  have hP : va_P D vwCl (sgw 26 h (eM ca h) f L Q) H := by rw [hH]; exact hP
  have hS : va_S (sgA 26 h s.heap.size) s.heap H locs := by rw [hH, hlo]; exact hS
  suffices hgo : W p l e ({ frames := 1, cells := 0, slots := 0, locals := 21 }) s m ([.ref (h 0), .int 0, .int x1] : List Value).toArray below meth cd H locs 0 0 Qz (F0 m 0 ls []) by rw [hH, hlo] at hgo; exact hgo
  clear hH hlo
  obtain ⟨sp, hsp⟩ : ∃ z : Int32 × sg_F, z = sX12_slipsAs_0_f0_f0 x1 f L := ⟨_, rfl⟩
  have hs : sp = sX12_slipsAs_0_f0_f0 x1 f L := hsp
  have o_1 : (f 0 48).toInt = 0 := (congrArg Int32.toInt (show f 0 48 = 0 from hf_0_48)).trans (by decide)
  have hF : sgK WkX12_slipsAs_0_f0_f0 f f := sgK.rf
  refine lv_iload_n hx hb dX12_slipsAs_0 rfl (lv_at hl 1 rfl) ?_
  refine lv_iconst (v := 3) hx hb dX12_slipsAs_1 ic_3 ?_
  refine lv_icmp_eq (tgt := 10) hx hb dX12_slipsAs_2 (by decide) (fun c => absurd c (by decide)) (fun c => ?_)
  refine lv_iload_n hx hb dX12_slipsAs_5 rfl (lv_at hl 1 rfl) ?_
  refine lv_iconst (v := 5) hx hb dX12_slipsAs_6 ic_5 ?_
  refine lv_icmp_ne (tgt := 25) hx hb dX12_slipsAs_7 (by decide) (fun c => ?_) (fun c => absurd c (by decide))
  refine lv_iload_n hx hb dX12_slipsAs_25 rfl (lv_at hl 1 rfl) ?_
  refine lv_iconst (v := 4) hx hb dX12_slipsAs_26 ic_4 ?_
  refine lv_icmp_eq (tgt := 36) hx hb dX12_slipsAs_27 (by decide) (fun c => absurd c (by decide)) (fun c => ?_)
  refine lv_iload_n hx hb dX12_slipsAs_30 rfl (lv_at hl 1 rfl) ?_
  refine lv_bipush (v := 7) hx hb dX12_slipsAs_31 bp_7 ?_
  refine lv_icmp_ne (tgt := 61) hx hb dX12_slipsAs_33 (by decide) (fun c => ?_) (fun c => absurd c (by decide))
  refine lv_aload_n hx hb dX12_slipsAs_61 rfl (lv_at hl 0 rfl) ?_
  refine lv_bipush (v := 11) hx hb dX12_slipsAs_62 bp_11 ?_
  have q_2 : (f 0 48).toInt = 0 := (congrArg Int32.toInt (show f 0 48 = 0 from hf_0_48)).trans (by decide)
  refine sg_callv (va_runV (As := [.int 11]) (rest := []) ⟨hx, hb, hml, hown, hts⟩ (kX12_begins_11_f0 l D ca za h hh f L Q hI hf_0_48 (by have k0 : (11 : Int32).toInt = 11 := ti_11; omega) H.size) (sl_c12_begins_0_0_0_0_12 hts ⟨Nat.le_of_ble_eq_true rfl, Nat.le_of_ble_eq_true rfl⟩) (sl_vM_0 hA hK hP hS hZ) rfl rfl hl.1 rfl (lv_room (Nat.le_of_ble_eq_true rfl)) dX12_slipsAs_64 ⟨Nat.le_refl _, Nat.le_refl _⟩) hA hS (fun f_4 L_5 Q_6 H locs hq hP hS => ?_)
  obtain ⟨⟨hI, hk_f_4, eL9, eQ9⟩, p_7, u_8⟩ := hq
  rw [eL9, eQ9] at hP; clear eL9 eQ9
  have hF : sgK WkX12_slipsAs_0_f0_f0 f f_4 := sgK.tr hF hk_f_4 (by decide +kernel)
  obtain ⟨v_9, ev_9⟩ : ∃ z : Int32, z = f_4 0 48 := ⟨_, rfl⟩
  have q_10 : 0 ≤ v_9.toInt ∧ v_9.toInt ≤ 19 := by rw [ev_9]; exact hI 0 48
  have q_11 : (f_4 0 48).toInt = v_9.toInt := (congrArg Int32.toInt (show f_4 0 48 = v_9 from ev_9.symm))
  refine lv_iload_n hx hb dX12_slipsAs_67 rfl (lv_at hl 2 rfl) ?_
  refine lv_aload_n hx hb dX12_slipsAs_68 rfl (lv_at hl 0 rfl) ?_
  refine sl_gM_0_50_12 (v := (f_4 0 50)) hx hb hts hown hK hP rfl dX12_slipsAs_69 ?_
  refine lv_topi (fun v_13 ev_13 => ?_)
  have q_14 : 0 ≤ v_13.toInt ∧ v_13.toInt ≤ 49 := by rw [ev_13]; exact hI 0 50
  refine lv_ixor hx hb dX12_slipsAs_72 ?_
  refine lv_topi (fun v_15 ev_15 => ?_)
  exact hret _ _ _ _ (v_15) f_4 L Q dX12_slipsAs_73 hP hS ⟨⟨hI, hF, rfl, rfl⟩, trivial, ⟨by omega, by omega⟩, (Eq.trans (Eq.symm (hs.trans ((spl_e u_8 (spl_e ev_9 (spl_e ev_13 (spl_e ev_15 rfl))))))) hsp)⟩

abbrev WkX12_slipsAs_1_f0_f1 : List (Nat × Nat × Option Nat) := [(0, 0, some 48), (21, 21, some 0)]
set_option maxHeartbeats 4000000 in
set_option maxRecDepth 100000 in
theorem kX12_slipsAs_1_f0_f1 (l : Launch) (D : va_G) (ca : Nat → ClassId) (za h : Nat → Nat) (hh : sgH 26 h) (f : sg_F) (L : sg_L) (Q : sg_Q) (hI : sgI loM hiM f) (x1 : Int32) (hf_0_48 : f 0 48 = 0) (hf_0_49 : f 0 49 = 1) (p0 : 0 ≤ (f 0 48).toInt ∧ (f 0 48).toInt ≤ 0) (sz : Nat) : Met l yX12_slipsAs gwX12_slipsAs { frames := 1, cells := 0, slots := 0, locals := 21 } (sgP D vwCl (tyX ca) 26 h (eM ca h) zcM za f L Q sz [.ref (h 0), .int 1, .int x1]) (sgQi D vwCl 26 h (eM ca h) sz (fun r f1 L1 Q1 => ((sgI loM hiM f1 ∧ sgK WkX12_slipsAs_1_f0_f1 f f1 ∧ L1 = L ∧ Q1 = Q) ∧ True ∧ (1 ≤ (f1 0 48).toInt ∧ (f1 0 48).toInt ≤ 1) ∧ (r, f1) = sX12_slipsAs_1_f0_f1 x1 f L))) 0 0 (sgA 26 h sz) := by
  refine sg_ofWi (cc := cX12_slipsAs) (maxL := 4) RX12 (by decide) rfl rfl (Nat.le_of_ble_eq_true rfl) ?_
  intro p e s m below meth cd Qz ls hx hb hml hown hts hK hZ hP hS hl hret
  have hA := sgY.self (n := 26) (h := h) (sz := s.heap.size)
  have hl : lv_has ls 4 [(0, .ref (h 0)), (1, .int 1), (2, .int x1)] := hl
  obtain ⟨H, hH⟩ : ∃ z : Heap, z = s.heap := ⟨_, rfl⟩
  obtain ⟨locs, hlo⟩ : ∃ z : List Loc, z = [] := ⟨_, rfl⟩
  have hP : va_P D vwCl (sgw 26 h (eM ca h) f L Q) H := by rw [hH]; exact hP
  have hS : va_S (sgA 26 h s.heap.size) s.heap H locs := by rw [hH, hlo]; exact hS
  suffices hgo : W p l e ({ frames := 1, cells := 0, slots := 0, locals := 21 }) s m ([.ref (h 0), .int 1, .int x1] : List Value).toArray below meth cd H locs 0 0 Qz (F0 m 0 ls []) by rw [hH, hlo] at hgo; exact hgo
  clear hH hlo
  obtain ⟨sp, hsp⟩ : ∃ z : Int32 × sg_F, z = sX12_slipsAs_1_f0_f1 x1 f L := ⟨_, rfl⟩
  have hs : sp = sX12_slipsAs_1_f0_f1 x1 f L := hsp
  have o_1 : (f 0 48).toInt = 0 := (congrArg Int32.toInt (show f 0 48 = 0 from hf_0_48)).trans (by decide)
  have hF : sgK WkX12_slipsAs_1_f0_f1 f f := sgK.rf
  refine lv_iload_n hx hb dX12_slipsAs_0 rfl (lv_at hl 1 rfl) ?_
  refine lv_iconst (v := 3) hx hb dX12_slipsAs_1 ic_3 ?_
  refine lv_icmp_eq (tgt := 10) hx hb dX12_slipsAs_2 (by decide) (fun c => absurd c (by decide)) (fun c => ?_)
  refine lv_iload_n hx hb dX12_slipsAs_5 rfl (lv_at hl 1 rfl) ?_
  refine lv_iconst (v := 5) hx hb dX12_slipsAs_6 ic_5 ?_
  refine lv_icmp_ne (tgt := 25) hx hb dX12_slipsAs_7 (by decide) (fun c => ?_) (fun c => absurd c (by decide))
  refine lv_iload_n hx hb dX12_slipsAs_25 rfl (lv_at hl 1 rfl) ?_
  refine lv_iconst (v := 4) hx hb dX12_slipsAs_26 ic_4 ?_
  refine lv_icmp_eq (tgt := 36) hx hb dX12_slipsAs_27 (by decide) (fun c => absurd c (by decide)) (fun c => ?_)
  refine lv_iload_n hx hb dX12_slipsAs_30 rfl (lv_at hl 1 rfl) ?_
  refine lv_bipush (v := 7) hx hb dX12_slipsAs_31 bp_7 ?_
  refine lv_icmp_ne (tgt := 61) hx hb dX12_slipsAs_33 (by decide) (fun c => ?_) (fun c => absurd c (by decide))
  refine lv_aload_n hx hb dX12_slipsAs_61 rfl (lv_at hl 0 rfl) ?_
  refine lv_bipush (v := 11) hx hb dX12_slipsAs_62 bp_11 ?_
  have q_2 : (f 0 48).toInt = 0 := (congrArg Int32.toInt (show f 0 48 = 0 from hf_0_48)).trans (by decide)
  refine sg_callv (va_runV (As := [.int 11]) (rest := []) ⟨hx, hb, hml, hown, hts⟩ (kX12_begins_11_f0 l D ca za h hh f L Q hI hf_0_48 (by have k0 : (11 : Int32).toInt = 11 := ti_11; omega) H.size) (sl_c12_begins_0_0_0_0_12 hts ⟨Nat.le_of_ble_eq_true rfl, Nat.le_of_ble_eq_true rfl⟩) (sl_vM_0 hA hK hP hS hZ) rfl rfl hl.1 rfl (lv_room (Nat.le_of_ble_eq_true rfl)) dX12_slipsAs_64 ⟨Nat.le_refl _, Nat.le_refl _⟩) hA hS (fun f_4 L_5 Q_6 H locs hq hP hS => ?_)
  obtain ⟨⟨hI, hk_f_4, eL9, eQ9⟩, p_7, u_8⟩ := hq
  rw [eL9, eQ9] at hP; clear eL9 eQ9
  have hF : sgK WkX12_slipsAs_1_f0_f1 f f_4 := sgK.tr hF hk_f_4 (by decide +kernel)
  obtain ⟨v_9, ev_9⟩ : ∃ z : Int32, z = f_4 0 48 := ⟨_, rfl⟩
  have q_10 : 0 ≤ v_9.toInt ∧ v_9.toInt ≤ 19 := by rw [ev_9]; exact hI 0 48
  have q_11 : (f_4 0 48).toInt = v_9.toInt := (congrArg Int32.toInt (show f_4 0 48 = v_9 from ev_9.symm))
  refine lv_iload_n hx hb dX12_slipsAs_67 rfl (lv_at hl 2 rfl) ?_
  refine lv_aload_n hx hb dX12_slipsAs_68 rfl (lv_at hl 0 rfl) ?_
  refine sl_gM_0_50_12 (v := (f_4 0 50)) hx hb hts hown hK hP rfl dX12_slipsAs_69 ?_
  refine lv_topi (fun v_13 ev_13 => ?_)
  have q_14 : 0 ≤ v_13.toInt ∧ v_13.toInt ≤ 49 := by rw [ev_13]; exact hI 0 50
  refine lv_ixor hx hb dX12_slipsAs_72 ?_
  refine lv_topi (fun v_15 ev_15 => ?_)
  exact hret _ _ _ _ (v_15) f_4 L Q dX12_slipsAs_73 hP hS ⟨⟨hI, hF, rfl, rfl⟩, trivial, ⟨by omega, by omega⟩, (Eq.trans (Eq.symm (hs.trans ((spl_e u_8 (spl_e ev_9 (spl_e ev_13 (spl_e ev_15 rfl))))))) hsp)⟩

abbrev WkX12_slipsAs_2_f0_f2 : List (Nat × Nat × Option Nat) := [(0, 0, some 48), (21, 21, some 0)]
set_option maxHeartbeats 4000000 in
set_option maxRecDepth 100000 in
theorem kX12_slipsAs_2_f0_f2 (l : Launch) (D : va_G) (ca : Nat → ClassId) (za h : Nat → Nat) (hh : sgH 26 h) (f : sg_F) (L : sg_L) (Q : sg_Q) (hI : sgI loM hiM f) (x1 : Int32) (hf_0_48 : f 0 48 = 0) (hf_0_49 : f 0 49 = 2) (p0 : 0 ≤ (f 0 48).toInt ∧ (f 0 48).toInt ≤ 0) (sz : Nat) : Met l yX12_slipsAs gwX12_slipsAs { frames := 1, cells := 0, slots := 0, locals := 21 } (sgP D vwCl (tyX ca) 26 h (eM ca h) zcM za f L Q sz [.ref (h 0), .int 2, .int x1]) (sgQi D vwCl 26 h (eM ca h) sz (fun r f1 L1 Q1 => ((sgI loM hiM f1 ∧ sgK WkX12_slipsAs_2_f0_f2 f f1 ∧ L1 = L ∧ Q1 = Q) ∧ True ∧ (1 ≤ (f1 0 48).toInt ∧ (f1 0 48).toInt ≤ 1) ∧ (r, f1) = sX12_slipsAs_2_f0_f2 x1 f L))) 0 0 (sgA 26 h sz) := by
  refine sg_ofWi (cc := cX12_slipsAs) (maxL := 4) RX12 (by decide) rfl rfl (Nat.le_of_ble_eq_true rfl) ?_
  intro p e s m below meth cd Qz ls hx hb hml hown hts hK hZ hP hS hl hret
  have hA := sgY.self (n := 26) (h := h) (sz := s.heap.size)
  have hl : lv_has ls 4 [(0, .ref (h 0)), (1, .int 2), (2, .int x1)] := hl
  obtain ⟨H, hH⟩ : ∃ z : Heap, z = s.heap := ⟨_, rfl⟩
  obtain ⟨locs, hlo⟩ : ∃ z : List Loc, z = [] := ⟨_, rfl⟩
  have hP : va_P D vwCl (sgw 26 h (eM ca h) f L Q) H := by rw [hH]; exact hP
  have hS : va_S (sgA 26 h s.heap.size) s.heap H locs := by rw [hH, hlo]; exact hS
  suffices hgo : W p l e ({ frames := 1, cells := 0, slots := 0, locals := 21 }) s m ([.ref (h 0), .int 2, .int x1] : List Value).toArray below meth cd H locs 0 0 Qz (F0 m 0 ls []) by rw [hH, hlo] at hgo; exact hgo
  clear hH hlo
  obtain ⟨sp, hsp⟩ : ∃ z : Int32 × sg_F, z = sX12_slipsAs_2_f0_f2 x1 f L := ⟨_, rfl⟩
  have hs : sp = sX12_slipsAs_2_f0_f2 x1 f L := hsp
  have o_1 : (f 0 48).toInt = 0 := (congrArg Int32.toInt (show f 0 48 = 0 from hf_0_48)).trans (by decide)
  have hF : sgK WkX12_slipsAs_2_f0_f2 f f := sgK.rf
  refine lv_iload_n hx hb dX12_slipsAs_0 rfl (lv_at hl 1 rfl) ?_
  refine lv_iconst (v := 3) hx hb dX12_slipsAs_1 ic_3 ?_
  refine lv_icmp_eq (tgt := 10) hx hb dX12_slipsAs_2 (by decide) (fun c => absurd c (by decide)) (fun c => ?_)
  refine lv_iload_n hx hb dX12_slipsAs_5 rfl (lv_at hl 1 rfl) ?_
  refine lv_iconst (v := 5) hx hb dX12_slipsAs_6 ic_5 ?_
  refine lv_icmp_ne (tgt := 25) hx hb dX12_slipsAs_7 (by decide) (fun c => ?_) (fun c => absurd c (by decide))
  refine lv_iload_n hx hb dX12_slipsAs_25 rfl (lv_at hl 1 rfl) ?_
  refine lv_iconst (v := 4) hx hb dX12_slipsAs_26 ic_4 ?_
  refine lv_icmp_eq (tgt := 36) hx hb dX12_slipsAs_27 (by decide) (fun c => absurd c (by decide)) (fun c => ?_)
  refine lv_iload_n hx hb dX12_slipsAs_30 rfl (lv_at hl 1 rfl) ?_
  refine lv_bipush (v := 7) hx hb dX12_slipsAs_31 bp_7 ?_
  refine lv_icmp_ne (tgt := 61) hx hb dX12_slipsAs_33 (by decide) (fun c => ?_) (fun c => absurd c (by decide))
  refine lv_aload_n hx hb dX12_slipsAs_61 rfl (lv_at hl 0 rfl) ?_
  refine lv_bipush (v := 11) hx hb dX12_slipsAs_62 bp_11 ?_
  have q_2 : (f 0 48).toInt = 0 := (congrArg Int32.toInt (show f 0 48 = 0 from hf_0_48)).trans (by decide)
  refine sg_callv (va_runV (As := [.int 11]) (rest := []) ⟨hx, hb, hml, hown, hts⟩ (kX12_begins_11_f0 l D ca za h hh f L Q hI hf_0_48 (by have k0 : (11 : Int32).toInt = 11 := ti_11; omega) H.size) (sl_c12_begins_0_0_0_0_12 hts ⟨Nat.le_of_ble_eq_true rfl, Nat.le_of_ble_eq_true rfl⟩) (sl_vM_0 hA hK hP hS hZ) rfl rfl hl.1 rfl (lv_room (Nat.le_of_ble_eq_true rfl)) dX12_slipsAs_64 ⟨Nat.le_refl _, Nat.le_refl _⟩) hA hS (fun f_4 L_5 Q_6 H locs hq hP hS => ?_)
  obtain ⟨⟨hI, hk_f_4, eL9, eQ9⟩, p_7, u_8⟩ := hq
  rw [eL9, eQ9] at hP; clear eL9 eQ9
  have hF : sgK WkX12_slipsAs_2_f0_f2 f f_4 := sgK.tr hF hk_f_4 (by decide +kernel)
  obtain ⟨v_9, ev_9⟩ : ∃ z : Int32, z = f_4 0 48 := ⟨_, rfl⟩
  have q_10 : 0 ≤ v_9.toInt ∧ v_9.toInt ≤ 19 := by rw [ev_9]; exact hI 0 48
  have q_11 : (f_4 0 48).toInt = v_9.toInt := (congrArg Int32.toInt (show f_4 0 48 = v_9 from ev_9.symm))
  refine lv_iload_n hx hb dX12_slipsAs_67 rfl (lv_at hl 2 rfl) ?_
  refine lv_aload_n hx hb dX12_slipsAs_68 rfl (lv_at hl 0 rfl) ?_
  refine sl_gM_0_50_12 (v := (f_4 0 50)) hx hb hts hown hK hP rfl dX12_slipsAs_69 ?_
  refine lv_topi (fun v_13 ev_13 => ?_)
  have q_14 : 0 ≤ v_13.toInt ∧ v_13.toInt ≤ 49 := by rw [ev_13]; exact hI 0 50
  refine lv_ixor hx hb dX12_slipsAs_72 ?_
  refine lv_topi (fun v_15 ev_15 => ?_)
  exact hret _ _ _ _ (v_15) f_4 L Q dX12_slipsAs_73 hP hS ⟨⟨hI, hF, rfl, rfl⟩, trivial, ⟨by omega, by omega⟩, (Eq.trans (Eq.symm (hs.trans ((spl_e u_8 (spl_e ev_9 (spl_e ev_13 (spl_e ev_15 rfl))))))) hsp)⟩

abbrev WkX12_begins_40_f0 : List (Nat × Nat × Option Nat) := [(0, 0, some 48), (21, 21, some 0)]
set_option maxHeartbeats 4000000 in
set_option maxRecDepth 100000 in
theorem kX12_begins_40_f0 (l : Launch) (D : va_G) (ca : Nat → ClassId) (za h : Nat → Nat) (hh : sgH 26 h) (f : sg_F) (L : sg_L) (Q : sg_Q) (hI : sgI loM hiM f) (hf_0_48 : f 0 48 = 0) (p0 : 0 ≤ (f 0 48).toInt ∧ (f 0 48).toInt ≤ 0) (sz : Nat) : Met l yX12_begins gwX12_begins { frames := 0, cells := 0, slots := 0, locals := 0 } (sgP D vwCl (tyX ca) 26 h (eM ca h) zcM za f L Q sz [.ref (h 0), .int 40]) (sgQv D vwCl 26 h (eM ca h) sz (fun f1 L1 Q1 => ((sgI loM hiM f1 ∧ sgK WkX12_begins_40_f0 f f1 ∧ L1 = L ∧ Q1 = Q) ∧ (1 ≤ (f1 0 48).toInt ∧ (f1 0 48).toInt ≤ 1) ∧ (f1) = sX12_begins_40_f0 f L))) 0 0 (sgA 26 h sz) := by
  refine sg_ofWv (cc := cX12_begins) (maxL := 2) RX12 (by decide) rfl rfl (Nat.le_of_ble_eq_true rfl) ?_
  intro p e s m below meth cd Qz ls hx hb hml hown hts hK hZ hP hS hl hret
  have hA := sgY.self (n := 26) (h := h) (sz := s.heap.size)
  have hl : lv_has ls 2 [(0, .ref (h 0)), (1, .int 40)] := hl
  obtain ⟨H, hH⟩ : ∃ z : Heap, z = s.heap := ⟨_, rfl⟩
  obtain ⟨locs, hlo⟩ : ∃ z : List Loc, z = [] := ⟨_, rfl⟩
  have hP : va_P D vwCl (sgw 26 h (eM ca h) f L Q) H := by rw [hH]; exact hP
  have hS : va_S (sgA 26 h s.heap.size) s.heap H locs := by rw [hH, hlo]; exact hS
  suffices hgo : W p l e ({ frames := 0, cells := 0, slots := 0, locals := 0 }) s m ([.ref (h 0), .int 40] : List Value).toArray below meth cd H locs 0 0 Qz (F0 m 0 ls []) by rw [hH, hlo] at hgo; exact hgo
  clear hH hlo
  obtain ⟨sp, hsp⟩ : ∃ z : sg_F, z = sX12_begins_40_f0 f L := ⟨_, rfl⟩
  have hs : sp = sX12_begins_40_f0 f L := hsp
  have o_1 : (f 0 48).toInt = 0 := (congrArg Int32.toInt (show f 0 48 = 0 from hf_0_48)).trans (by decide)
  have hF : sgK WkX12_begins_40_f0 f f := sgK.rf
  have blk_19 : ∀ (fp_19 : sg_F) (H : Heap) (locs : List Loc) (ls : Array Slot), sp = sX12_begins_40_f0_b19 fp_19 L → 0 ≤ (fp_19 0 48).toInt ∧ (fp_19 0 48).toInt ≤ 0 → sgI loM hiM fp_19 → sgK WkX12_begins_40_f0 f fp_19 → va_P D vwCl (sgw 26 h (eM ca h) fp_19 L Q) H → va_S (sgA 26 h s.heap.size) s.heap H locs → lv_has ls 2 [(0, .ref (h 0))] → W p l e ({ frames := 0, cells := 0, slots := 0, locals := 0 }) s m ([.ref (h 0), .int 40] : List Value).toArray below meth cd H locs 0 0 Qz (F0 m 19 ls []) := by
    intro fp_19 H locs ls hs hy0_19 hI hF hP hS hl
    obtain ⟨v_2, ev_2⟩ : ∃ z : Int32, z = fp_19 0 48 := ⟨_, rfl⟩
    have q_3 : 0 ≤ v_2.toInt ∧ v_2.toInt ≤ 19 := by rw [ev_2]; exact hI 0 48
    have q_4 : (fp_19 0 48).toInt = v_2.toInt := by rw [ev_2]
    refine lv_aload_n hx hb dX12_begins_19 rfl (lv_at hl 0 rfl) ?_
    refine lv_dup hx hb dX12_begins_20 rfl ?_
    refine sl_gM_0_48_12 (v := v_2) hx hb hts hown hK hP (show fp_19 0 48 = v_2 from ev_2.symm) dX12_begins_21 ?_
    refine lv_iconst (v := 1) hx hb dX12_begins_24 ic_1 ?_
    refine lv_iadd hx hb dX12_begins_25 ?_
    refine lv_topi (fun v_5 ev_5 => ?_)
    have q_6 : v_5.toInt = v_2.toInt + 1 := by rw [ev_5]; first | exact cm_add ti_1 (by omega) (by omega) | (have k1 : (1 : Int32).toInt = 1 := ti_1; exact (bn_addI (by omega) (by omega)).trans (by omega))
    refine sl_pM_0_48_12 (x := v_5) hx hb hts hown hh hA hK hP hS dX12_begins_26 (fun f_7 H locs ef_7 hP hS => ?_)
    have hI : sgI loM hiM f_7 := by rw [ef_7]; exact sgI.put hI 0 48 (show 0 ≤ (v_5 : Int32).toInt ∧ (v_5 : Int32).toInt ≤ 19 from ⟨by omega, by omega⟩)
    have hF : sgK WkX12_begins_40_f0 f f_7 := sgK.put hF ef_7 (by rfl)
    have q_8 : (f_7 0 48).toInt = v_5.toInt := (congrArg Int32.toInt (show f_7 0 48 = v_5 from (by rw [ef_7, sg_up_s, sgu_s])))
    exact hret _ _ _ _ f_7 L Q dX12_begins_29 hP hS ⟨⟨hI, hF, rfl, rfl⟩, ⟨by omega, by omega⟩, (Eq.trans (Eq.symm (hs.trans ((spl_e ev_2 (spl_e ev_5 (spl_e ef_7 rfl)))))) hsp)⟩
  refine lv_aload_n hx hb dX12_begins_0 rfl (lv_at hl 0 rfl) ?_
  refine sl_gM_0_48_12 (v := 0) hx hb hts hown hK hP (show f 0 48 = 0 from hf_0_48) dX12_begins_1 ?_
  refine lv_bipush (v := 24) hx hb dX12_begins_4 bp_24 ?_
  refine lv_icmp_ge (tgt := 19) hx hb dX12_begins_6 (by decide) (fun c => absurd c (by decide)) (fun c => ?_)
  refine lv_aload_n hx hb dX12_begins_9 rfl (lv_at hl 0 rfl) ?_
  refine sl_gM_0_47_12 hx hb hts hown hK hP dX12_begins_10 ?_
  refine lv_aload_n hx hb dX12_begins_13 rfl (lv_at hl 0 rfl) ?_
  refine sl_gM_0_48_12 (v := 0) hx hb hts hown hK hP (show f 0 48 = 0 from hf_0_48) dX12_begins_14 ?_
  refine lv_iload_n hx hb dX12_begins_17 rfl (lv_at hl 1 rfl) ?_
  refine sg_iast hx hb hh hA hK hP hS 21 (by decide) 0 (fun _ => rfl) rfl (i := 0) (x := 40) (vp_in_iff.mpr (by decide)) dX12_begins_18 (fun f_10 H locs ef_10 hP hS => ?_)
  have ef_10 : f_10 = sg_up f 21 (sgu (f 21) 0 40) := ef_10
  have hI : sgI loM hiM f_10 := by rw [ef_10]; exact sgI.put hI 21 0 (show 0 ≤ (40 : Int32).toInt ∧ (40 : Int32).toInt ≤ 81 from by decide)
  have hF : sgK WkX12_begins_40_f0 f f_10 := sgK.put hF ef_10 (by rfl)
  exact blk_19 f_10 _ _ _ (hs.trans ((spl_e ef_10 rfl))) (by have zz0_48 : (f_10 0 48).toInt = 0 := (congrArg Int32.toInt (show f_10 0 48 = 0 from (by rw [ef_10, sg_up_n (by decide)]; exact hf_0_48))).trans (by decide); exact ⟨by omega, by omega⟩) hI hF hP hS (lv_sub hl [0] rfl)

abbrev WkX12_begins_11_f1 : List (Nat × Nat × Option Nat) := [(0, 0, some 48), (21, 21, some 1)]
set_option maxHeartbeats 4000000 in
set_option maxRecDepth 100000 in
theorem kX12_begins_11_f1 (l : Launch) (D : va_G) (ca : Nat → ClassId) (za h : Nat → Nat) (hh : sgH 26 h) (f : sg_F) (L : sg_L) (Q : sg_Q) (hI : sgI loM hiM f) (hf_0_48 : f 0 48 = 1) (p0 : 1 ≤ (f 0 48).toInt ∧ (f 0 48).toInt ≤ 1) (sz : Nat) : Met l yX12_begins gwX12_begins { frames := 0, cells := 0, slots := 0, locals := 0 } (sgP D vwCl (tyX ca) 26 h (eM ca h) zcM za f L Q sz [.ref (h 0), .int 11]) (sgQv D vwCl 26 h (eM ca h) sz (fun f1 L1 Q1 => ((sgI loM hiM f1 ∧ sgK WkX12_begins_11_f1 f f1 ∧ L1 = L ∧ Q1 = Q) ∧ (2 ≤ (f1 0 48).toInt ∧ (f1 0 48).toInt ≤ 2) ∧ (f1) = sX12_begins_11_f1 f L))) 0 0 (sgA 26 h sz) := by
  refine sg_ofWv (cc := cX12_begins) (maxL := 2) RX12 (by decide) rfl rfl (Nat.le_of_ble_eq_true rfl) ?_
  intro p e s m below meth cd Qz ls hx hb hml hown hts hK hZ hP hS hl hret
  have hA := sgY.self (n := 26) (h := h) (sz := s.heap.size)
  have hl : lv_has ls 2 [(0, .ref (h 0)), (1, .int 11)] := hl
  obtain ⟨H, hH⟩ : ∃ z : Heap, z = s.heap := ⟨_, rfl⟩
  obtain ⟨locs, hlo⟩ : ∃ z : List Loc, z = [] := ⟨_, rfl⟩
  have hP : va_P D vwCl (sgw 26 h (eM ca h) f L Q) H := by rw [hH]; exact hP
  have hS : va_S (sgA 26 h s.heap.size) s.heap H locs := by rw [hH, hlo]; exact hS
  suffices hgo : W p l e ({ frames := 0, cells := 0, slots := 0, locals := 0 }) s m ([.ref (h 0), .int 11] : List Value).toArray below meth cd H locs 0 0 Qz (F0 m 0 ls []) by rw [hH, hlo] at hgo; exact hgo
  clear hH hlo
  obtain ⟨sp, hsp⟩ : ∃ z : sg_F, z = sX12_begins_11_f1 f L := ⟨_, rfl⟩
  have hs : sp = sX12_begins_11_f1 f L := hsp
  have o_1 : (f 0 48).toInt = 1 := (congrArg Int32.toInt (show f 0 48 = 1 from hf_0_48)).trans (by decide)
  have hF : sgK WkX12_begins_11_f1 f f := sgK.rf
  have blk_19 : ∀ (fp_19 : sg_F) (H : Heap) (locs : List Loc) (ls : Array Slot), sp = sX12_begins_11_f1_b19 fp_19 L → 1 ≤ (fp_19 0 48).toInt ∧ (fp_19 0 48).toInt ≤ 1 → sgI loM hiM fp_19 → sgK WkX12_begins_11_f1 f fp_19 → va_P D vwCl (sgw 26 h (eM ca h) fp_19 L Q) H → va_S (sgA 26 h s.heap.size) s.heap H locs → lv_has ls 2 [(0, .ref (h 0))] → W p l e ({ frames := 0, cells := 0, slots := 0, locals := 0 }) s m ([.ref (h 0), .int 11] : List Value).toArray below meth cd H locs 0 0 Qz (F0 m 19 ls []) := by
    intro fp_19 H locs ls hs hy0_19 hI hF hP hS hl
    obtain ⟨v_2, ev_2⟩ : ∃ z : Int32, z = fp_19 0 48 := ⟨_, rfl⟩
    have q_3 : 0 ≤ v_2.toInt ∧ v_2.toInt ≤ 19 := by rw [ev_2]; exact hI 0 48
    have q_4 : (fp_19 0 48).toInt = v_2.toInt := by rw [ev_2]
    refine lv_aload_n hx hb dX12_begins_19 rfl (lv_at hl 0 rfl) ?_
    refine lv_dup hx hb dX12_begins_20 rfl ?_
    refine sl_gM_0_48_12 (v := v_2) hx hb hts hown hK hP (show fp_19 0 48 = v_2 from ev_2.symm) dX12_begins_21 ?_
    refine lv_iconst (v := 1) hx hb dX12_begins_24 ic_1 ?_
    refine lv_iadd hx hb dX12_begins_25 ?_
    refine lv_topi (fun v_5 ev_5 => ?_)
    have q_6 : v_5.toInt = v_2.toInt + 1 := by rw [ev_5]; first | exact cm_add ti_1 (by omega) (by omega) | (have k1 : (1 : Int32).toInt = 1 := ti_1; exact (bn_addI (by omega) (by omega)).trans (by omega))
    refine sl_pM_0_48_12 (x := v_5) hx hb hts hown hh hA hK hP hS dX12_begins_26 (fun f_7 H locs ef_7 hP hS => ?_)
    have hI : sgI loM hiM f_7 := by rw [ef_7]; exact sgI.put hI 0 48 (show 0 ≤ (v_5 : Int32).toInt ∧ (v_5 : Int32).toInt ≤ 19 from ⟨by omega, by omega⟩)
    have hF : sgK WkX12_begins_11_f1 f f_7 := sgK.put hF ef_7 (by rfl)
    have q_8 : (f_7 0 48).toInt = v_5.toInt := (congrArg Int32.toInt (show f_7 0 48 = v_5 from (by rw [ef_7, sg_up_s, sgu_s])))
    exact hret _ _ _ _ f_7 L Q dX12_begins_29 hP hS ⟨⟨hI, hF, rfl, rfl⟩, ⟨by omega, by omega⟩, (Eq.trans (Eq.symm (hs.trans ((spl_e ev_2 (spl_e ev_5 (spl_e ef_7 rfl)))))) hsp)⟩
  refine lv_aload_n hx hb dX12_begins_0 rfl (lv_at hl 0 rfl) ?_
  refine sl_gM_0_48_12 (v := 1) hx hb hts hown hK hP (show f 0 48 = 1 from hf_0_48) dX12_begins_1 ?_
  refine lv_bipush (v := 24) hx hb dX12_begins_4 bp_24 ?_
  refine lv_icmp_ge (tgt := 19) hx hb dX12_begins_6 (by decide) (fun c => absurd c (by decide)) (fun c => ?_)
  refine lv_aload_n hx hb dX12_begins_9 rfl (lv_at hl 0 rfl) ?_
  refine sl_gM_0_47_12 hx hb hts hown hK hP dX12_begins_10 ?_
  refine lv_aload_n hx hb dX12_begins_13 rfl (lv_at hl 0 rfl) ?_
  refine sl_gM_0_48_12 (v := 1) hx hb hts hown hK hP (show f 0 48 = 1 from hf_0_48) dX12_begins_14 ?_
  refine lv_iload_n hx hb dX12_begins_17 rfl (lv_at hl 1 rfl) ?_
  refine sg_iast hx hb hh hA hK hP hS 21 (by decide) 0 (fun _ => rfl) rfl (i := 1) (x := 11) (vp_in_iff.mpr (by decide)) dX12_begins_18 (fun f_10 H locs ef_10 hP hS => ?_)
  have ef_10 : f_10 = sg_up f 21 (sgu (f 21) 1 11) := ef_10
  have hI : sgI loM hiM f_10 := by rw [ef_10]; exact sgI.put hI 21 1 (show 0 ≤ (11 : Int32).toInt ∧ (11 : Int32).toInt ≤ 81 from by decide)
  have hF : sgK WkX12_begins_11_f1 f f_10 := sgK.put hF ef_10 (by rfl)
  exact blk_19 f_10 _ _ _ (hs.trans ((spl_e ef_10 rfl))) (by have zz0_48 : (f_10 0 48).toInt = 1 := (congrArg Int32.toInt (show f_10 0 48 = 1 from (by rw [ef_10, sg_up_n (by decide)]; exact hf_0_48))).trans (by decide); exact ⟨by omega, by omega⟩) hI hF hP hS (lv_sub hl [0] rfl)

abbrev WkX12_slipsAs_2_f1_f3 : List (Nat × Nat × Option Nat) := [(0, 0, some 48), (21, 21, some 1)]
set_option maxHeartbeats 4000000 in
set_option maxRecDepth 100000 in
theorem kX12_slipsAs_2_f1_f3 (l : Launch) (D : va_G) (ca : Nat → ClassId) (za h : Nat → Nat) (hh : sgH 26 h) (f : sg_F) (L : sg_L) (Q : sg_Q) (hI : sgI loM hiM f) (x1 : Int32) (hf_0_48 : f 0 48 = 1) (hf_0_49 : f 0 49 = 3) (p0 : 1 ≤ (f 0 48).toInt ∧ (f 0 48).toInt ≤ 1) (sz : Nat) : Met l yX12_slipsAs gwX12_slipsAs { frames := 1, cells := 0, slots := 0, locals := 21 } (sgP D vwCl (tyX ca) 26 h (eM ca h) zcM za f L Q sz [.ref (h 0), .int 2, .int x1]) (sgQi D vwCl 26 h (eM ca h) sz (fun r f1 L1 Q1 => ((sgI loM hiM f1 ∧ sgK WkX12_slipsAs_2_f1_f3 f f1 ∧ L1 = L ∧ Q1 = Q) ∧ True ∧ (2 ≤ (f1 0 48).toInt ∧ (f1 0 48).toInt ≤ 2) ∧ (r, f1) = sX12_slipsAs_2_f1_f3 x1 f L))) 0 0 (sgA 26 h sz) := by
  refine sg_ofWi (cc := cX12_slipsAs) (maxL := 4) RX12 (by decide) rfl rfl (Nat.le_of_ble_eq_true rfl) ?_
  intro p e s m below meth cd Qz ls hx hb hml hown hts hK hZ hP hS hl hret
  have hA := sgY.self (n := 26) (h := h) (sz := s.heap.size)
  have hl : lv_has ls 4 [(0, .ref (h 0)), (1, .int 2), (2, .int x1)] := hl
  obtain ⟨H, hH⟩ : ∃ z : Heap, z = s.heap := ⟨_, rfl⟩
  obtain ⟨locs, hlo⟩ : ∃ z : List Loc, z = [] := ⟨_, rfl⟩
  have hP : va_P D vwCl (sgw 26 h (eM ca h) f L Q) H := by rw [hH]; exact hP
  have hS : va_S (sgA 26 h s.heap.size) s.heap H locs := by rw [hH, hlo]; exact hS
  suffices hgo : W p l e ({ frames := 1, cells := 0, slots := 0, locals := 21 }) s m ([.ref (h 0), .int 2, .int x1] : List Value).toArray below meth cd H locs 0 0 Qz (F0 m 0 ls []) by rw [hH, hlo] at hgo; exact hgo
  clear hH hlo
  obtain ⟨sp, hsp⟩ : ∃ z : Int32 × sg_F, z = sX12_slipsAs_2_f1_f3 x1 f L := ⟨_, rfl⟩
  have hs : sp = sX12_slipsAs_2_f1_f3 x1 f L := hsp
  have o_1 : (f 0 48).toInt = 1 := (congrArg Int32.toInt (show f 0 48 = 1 from hf_0_48)).trans (by decide)
  have hF : sgK WkX12_slipsAs_2_f1_f3 f f := sgK.rf
  refine lv_iload_n hx hb dX12_slipsAs_0 rfl (lv_at hl 1 rfl) ?_
  refine lv_iconst (v := 3) hx hb dX12_slipsAs_1 ic_3 ?_
  refine lv_icmp_eq (tgt := 10) hx hb dX12_slipsAs_2 (by decide) (fun c => absurd c (by decide)) (fun c => ?_)
  refine lv_iload_n hx hb dX12_slipsAs_5 rfl (lv_at hl 1 rfl) ?_
  refine lv_iconst (v := 5) hx hb dX12_slipsAs_6 ic_5 ?_
  refine lv_icmp_ne (tgt := 25) hx hb dX12_slipsAs_7 (by decide) (fun c => ?_) (fun c => absurd c (by decide))
  refine lv_iload_n hx hb dX12_slipsAs_25 rfl (lv_at hl 1 rfl) ?_
  refine lv_iconst (v := 4) hx hb dX12_slipsAs_26 ic_4 ?_
  refine lv_icmp_eq (tgt := 36) hx hb dX12_slipsAs_27 (by decide) (fun c => absurd c (by decide)) (fun c => ?_)
  refine lv_iload_n hx hb dX12_slipsAs_30 rfl (lv_at hl 1 rfl) ?_
  refine lv_bipush (v := 7) hx hb dX12_slipsAs_31 bp_7 ?_
  refine lv_icmp_ne (tgt := 61) hx hb dX12_slipsAs_33 (by decide) (fun c => ?_) (fun c => absurd c (by decide))
  refine lv_aload_n hx hb dX12_slipsAs_61 rfl (lv_at hl 0 rfl) ?_
  refine lv_bipush (v := 11) hx hb dX12_slipsAs_62 bp_11 ?_
  have q_2 : (f 0 48).toInt = 1 := (congrArg Int32.toInt (show f 0 48 = 1 from hf_0_48)).trans (by decide)
  refine sg_callv (va_runV (As := [.int 11]) (rest := []) ⟨hx, hb, hml, hown, hts⟩ (kX12_begins_11_f1 l D ca za h hh f L Q hI hf_0_48 (by have k0 : (11 : Int32).toInt = 11 := ti_11; omega) H.size) (sl_c12_begins_0_0_0_0_12 hts ⟨Nat.le_of_ble_eq_true rfl, Nat.le_of_ble_eq_true rfl⟩) (sl_vM_0 hA hK hP hS hZ) rfl rfl hl.1 rfl (lv_room (Nat.le_of_ble_eq_true rfl)) dX12_slipsAs_64 ⟨Nat.le_refl _, Nat.le_refl _⟩) hA hS (fun f_4 L_5 Q_6 H locs hq hP hS => ?_)
  obtain ⟨⟨hI, hk_f_4, eL9, eQ9⟩, p_7, u_8⟩ := hq
  rw [eL9, eQ9] at hP; clear eL9 eQ9
  have hF : sgK WkX12_slipsAs_2_f1_f3 f f_4 := sgK.tr hF hk_f_4 (by decide +kernel)
  obtain ⟨v_9, ev_9⟩ : ∃ z : Int32, z = f_4 0 48 := ⟨_, rfl⟩
  have q_10 : 0 ≤ v_9.toInt ∧ v_9.toInt ≤ 19 := by rw [ev_9]; exact hI 0 48
  have q_11 : (f_4 0 48).toInt = v_9.toInt := (congrArg Int32.toInt (show f_4 0 48 = v_9 from ev_9.symm))
  refine lv_iload_n hx hb dX12_slipsAs_67 rfl (lv_at hl 2 rfl) ?_
  refine lv_aload_n hx hb dX12_slipsAs_68 rfl (lv_at hl 0 rfl) ?_
  refine sl_gM_0_50_12 (v := (f_4 0 50)) hx hb hts hown hK hP rfl dX12_slipsAs_69 ?_
  refine lv_topi (fun v_13 ev_13 => ?_)
  have q_14 : 0 ≤ v_13.toInt ∧ v_13.toInt ≤ 49 := by rw [ev_13]; exact hI 0 50
  refine lv_ixor hx hb dX12_slipsAs_72 ?_
  refine lv_topi (fun v_15 ev_15 => ?_)
  exact hret _ _ _ _ (v_15) f_4 L Q dX12_slipsAs_73 hP hS ⟨⟨hI, hF, rfl, rfl⟩, trivial, ⟨by omega, by omega⟩, (Eq.trans (Eq.symm (hs.trans ((spl_e u_8 (spl_e ev_9 (spl_e ev_13 (spl_e ev_15 rfl))))))) hsp)⟩

abbrev WkX12_slipsAs_3_f0_f3 : List (Nat × Nat × Option Nat) := [(0, 0, some 48), (21, 21, some 0), (21, 21, some 1)]
set_option maxHeartbeats 4000000 in
set_option maxRecDepth 100000 in
theorem kX12_slipsAs_3_f0_f3 (l : Launch) (D : va_G) (ca : Nat → ClassId) (za h : Nat → Nat) (hh : sgH 26 h) (f : sg_F) (L : sg_L) (Q : sg_Q) (hI : sgI loM hiM f) (x1 : Int32) (hf_0_48 : f 0 48 = 0) (hf_0_49 : f 0 49 = 3) (p0 : 0 ≤ (f 0 48).toInt ∧ (f 0 48).toInt ≤ 0) (sz : Nat) : Met l yX12_slipsAs gwX12_slipsAs { frames := 2, cells := 0, slots := 0, locals := 44 } (sgP D vwCl (tyX ca) 26 h (eM ca h) zcM za f L Q sz [.ref (h 0), .int 3, .int x1]) (sgQi D vwCl 26 h (eM ca h) sz (fun r f1 L1 Q1 => ((sgI loM hiM f1 ∧ sgK WkX12_slipsAs_3_f0_f3 f f1 ∧ L1 = L ∧ Q1 = Q) ∧ True ∧ (2 ≤ (f1 0 48).toInt ∧ (f1 0 48).toInt ≤ 2) ∧ (r, f1) = sX12_slipsAs_3_f0_f3 x1 f L))) 0 0 (sgA 26 h sz) := by
  refine sg_ofWi (cc := cX12_slipsAs) (maxL := 4) RX12 (by decide) rfl rfl (Nat.le_of_ble_eq_true rfl) ?_
  intro p e s m below meth cd Qz ls hx hb hml hown hts hK hZ hP hS hl hret
  have hA := sgY.self (n := 26) (h := h) (sz := s.heap.size)
  have hl : lv_has ls 4 [(0, .ref (h 0)), (1, .int 3), (2, .int x1)] := hl
  obtain ⟨H, hH⟩ : ∃ z : Heap, z = s.heap := ⟨_, rfl⟩
  obtain ⟨locs, hlo⟩ : ∃ z : List Loc, z = [] := ⟨_, rfl⟩
  have hP : va_P D vwCl (sgw 26 h (eM ca h) f L Q) H := by rw [hH]; exact hP
  have hS : va_S (sgA 26 h s.heap.size) s.heap H locs := by rw [hH, hlo]; exact hS
  suffices hgo : W p l e ({ frames := 2, cells := 0, slots := 0, locals := 44 }) s m ([.ref (h 0), .int 3, .int x1] : List Value).toArray below meth cd H locs 0 0 Qz (F0 m 0 ls []) by rw [hH, hlo] at hgo; exact hgo
  clear hH hlo
  obtain ⟨sp, hsp⟩ : ∃ z : Int32 × sg_F, z = sX12_slipsAs_3_f0_f3 x1 f L := ⟨_, rfl⟩
  have hs : sp = sX12_slipsAs_3_f0_f3 x1 f L := hsp
  have o_1 : (f 0 48).toInt = 0 := (congrArg Int32.toInt (show f 0 48 = 0 from hf_0_48)).trans (by decide)
  have hF : sgK WkX12_slipsAs_3_f0_f3 f f := sgK.rf
  have blk_10 : ∀ (fp_10 : sg_F) (H : Heap) (locs : List Loc) (ls : Array Slot), sp = sX12_slipsAs_3_f0_f3_b10 x1 fp_10 L → 0 ≤ (fp_10 0 48).toInt ∧ (fp_10 0 48).toInt ≤ 0 → 3 ≤ (fp_10 0 49).toInt ∧ (fp_10 0 49).toInt ≤ 3 → sgI loM hiM fp_10 → sgK WkX12_slipsAs_3_f0_f3 f fp_10 → va_P D vwCl (sgw 26 h (eM ca h) fp_10 L Q) H → va_S (sgA 26 h s.heap.size) s.heap H locs → lv_has ls 4 [(0, .ref (h 0)), (2, .int x1)] → W p l e ({ frames := 2, cells := 0, slots := 0, locals := 44 }) s m ([.ref (h 0), .int 3, .int x1] : List Value).toArray below meth cd H locs 0 0 Qz (F0 m 10 ls []) := by
    intro fp_10 H locs ls hs hy0_10 hy1_10 hI hF hP hS hl
    obtain ⟨v_2, ev_2⟩ : ∃ z : Int32, z = fp_10 0 48 := ⟨_, rfl⟩
    have q_3 : 0 ≤ v_2.toInt ∧ v_2.toInt ≤ 19 := by rw [ev_2]; exact hI 0 48
    have q_4 : (fp_10 0 48).toInt = v_2.toInt := by rw [ev_2]
    obtain ⟨v_5, ev_5⟩ : ∃ z : Int32, z = fp_10 0 49 := ⟨_, rfl⟩
    have q_6 : 0 ≤ v_5.toInt ∧ v_5.toInt ≤ 7 := by rw [ev_5]; exact hI 0 49
    have q_7 : (fp_10 0 49).toInt = v_5.toInt := by rw [ev_5]
    have m_8 : fp_10 0 49 = 3 := (hF 0 49 (by decide)).trans hf_0_49
    refine lv_aload_n hx hb dX12_slipsAs_10 rfl (lv_at hl 0 rfl) ?_
    refine lv_bipush (v := 40) hx hb dX12_slipsAs_11 bp_40 ?_
    have c_9 : v_2 = 0 := Int32.toInt_inj.mp (by have k9 : (0 : Int32).toInt = 0 := ti_0; omega)
    have q_10 : (fp_10 0 48).toInt = 0 := (congrArg Int32.toInt (show fp_10 0 48 = 0 from (Eq.trans ev_2.symm c_9))).trans (by decide)
    refine sg_callv (va_runV (As := [.int 40]) (rest := []) ⟨hx, hb, hml, hown, hts⟩ (kX12_begins_40_f0 l D ca za h hh fp_10 L Q hI (Eq.trans ev_2.symm c_9) (by have k0 : (40 : Int32).toInt = 40 := ti_40; omega) H.size) (sl_c12_begins_0_0_0_0_12 hts ⟨Nat.le_of_ble_eq_true rfl, Nat.le_of_ble_eq_true rfl⟩) (sl_vM_0 hA hK hP hS hZ) rfl rfl hl.1 rfl (lv_room (Nat.le_of_ble_eq_true rfl)) dX12_slipsAs_13 ⟨Nat.le_refl _, Nat.le_refl _⟩) hA hS (fun f_12 L_13 Q_14 H locs hq hP hS => ?_)
    obtain ⟨⟨hI, hk_f_12, eL9, eQ9⟩, p_15, u_16⟩ := hq
    rw [eL9, eQ9] at hP; clear eL9 eQ9
    have hF : sgK WkX12_slipsAs_3_f0_f3 f f_12 := sgK.tr hF hk_f_12 (by decide +kernel)
    obtain ⟨v_17, ev_17⟩ : ∃ z : Int32, z = f_12 0 48 := ⟨_, rfl⟩
    have q_18 : 0 ≤ v_17.toInt ∧ v_17.toInt ≤ 19 := by rw [ev_17]; exact hI 0 48
    have q_19 : (f_12 0 48).toInt = v_17.toInt := (congrArg Int32.toInt (show f_12 0 48 = v_17 from ev_17.symm))
    refine lv_aload_n hx hb dX12_slipsAs_16 rfl (lv_at hl 0 rfl) ?_
    refine lv_iconst (v := 2) hx hb dX12_slipsAs_17 ic_2 ?_
    refine lv_iload_n hx hb dX12_slipsAs_18 rfl (lv_at hl 1 rfl) ?_
    have c_21 : v_17 = 1 := Int32.toInt_inj.mp (by have k9 : (1 : Int32).toInt = 1 := ti_1; omega)
    have q_22 : (f_12 0 48).toInt = 1 := (congrArg Int32.toInt (show f_12 0 48 = 1 from (Eq.trans ev_17.symm c_21))).trans (by decide)
    refine sg_calli (va_runV (As := [.int 2, .int x1]) (rest := []) ⟨hx, hb, hml, hown, hts⟩ (kX12_slipsAs_2_f1_f3 l D ca za h hh f_12 L Q hI x1 (Eq.trans ev_17.symm c_21) ((hk_f_12 0 49 (by decide)).trans m_8) (by have k0 : (2 : Int32).toInt = 2 := ti_2; omega) H.size) (sl_c12_slipsAs_1_0_0_21_12 hts ⟨Nat.le_of_ble_eq_true rfl, Nat.le_of_ble_eq_true rfl⟩) (sl_vM_0 hA hK hP hS hZ) rfl rfl hl.1 rfl (lv_room (Nat.le_of_ble_eq_true rfl)) dX12_slipsAs_19 ⟨Nat.le_refl _, Nat.le_refl _⟩) hA hS (fun r_27 f_24 L_25 Q_26 H locs hq hP hS => ?_)
    obtain ⟨⟨hI, hk_f_24, eL9, eQ9⟩, hq, p_28, u_29⟩ := hq
    rw [eL9, eQ9] at hP; clear eL9 eQ9
    have hF : sgK WkX12_slipsAs_3_f0_f3 f f_24 := sgK.tr hF hk_f_24 (by decide +kernel)
    obtain ⟨v_30, ev_30⟩ : ∃ z : Int32, z = f_24 0 48 := ⟨_, rfl⟩
    have q_31 : 0 ≤ v_30.toInt ∧ v_30.toInt ≤ 19 := by rw [ev_30]; exact hI 0 48
    have q_32 : (f_24 0 48).toInt = v_30.toInt := (congrArg Int32.toInt (show f_24 0 48 = v_30 from ev_30.symm))
    have k_34 : (2 : Int32).toInt = 2 := by decide
    refine lv_iconst (v := 3) hx hb dX12_slipsAs_22 ic_3 ?_
    refine lv_imul hx hb dX12_slipsAs_23 ?_
    refine lv_topi (fun v_35 ev_35 => ?_)
    exact hret _ _ _ _ (v_35) f_24 L Q dX12_slipsAs_24 hP hS ⟨⟨hI, hF, rfl, rfl⟩, trivial, ⟨by omega, by omega⟩, (Eq.trans (Eq.symm (hs.trans ((spl_e ev_2 (spl_e ev_5 (spl_e u_16 (spl_e ev_17 (spl2_e u_29 (spl_e ev_30 (spl_e ev_35 rfl)))))))))) hsp)⟩
  refine lv_iload_n hx hb dX12_slipsAs_0 rfl (lv_at hl 1 rfl) ?_
  refine lv_iconst (v := 3) hx hb dX12_slipsAs_1 ic_3 ?_
  refine lv_icmp_eq (tgt := 10) hx hb dX12_slipsAs_2 (by decide) (fun c => ?_) (fun c => absurd c (by decide))
  exact blk_10 f _ _ _ hs (by have zz0_48 : (f 0 48).toInt = 0 := (congrArg Int32.toInt (show f 0 48 = 0 from hf_0_48)).trans (by decide); exact ⟨by omega, by omega⟩) (by have zz0_49 : (f 0 49).toInt = 3 := (congrArg Int32.toInt (show f 0 49 = 3 from hf_0_49)).trans (by decide); exact ⟨by omega, by omega⟩) hI hF hP hS (lv_sub hl [0, 2] rfl)

abbrev WkX12_begins_50_f0 : List (Nat × Nat × Option Nat) := [(0, 0, some 48), (21, 21, some 0)]
set_option maxHeartbeats 4000000 in
set_option maxRecDepth 100000 in
theorem kX12_begins_50_f0 (l : Launch) (D : va_G) (ca : Nat → ClassId) (za h : Nat → Nat) (hh : sgH 26 h) (f : sg_F) (L : sg_L) (Q : sg_Q) (hI : sgI loM hiM f) (hf_0_48 : f 0 48 = 0) (p0 : 0 ≤ (f 0 48).toInt ∧ (f 0 48).toInt ≤ 0) (sz : Nat) : Met l yX12_begins gwX12_begins { frames := 0, cells := 0, slots := 0, locals := 0 } (sgP D vwCl (tyX ca) 26 h (eM ca h) zcM za f L Q sz [.ref (h 0), .int 50]) (sgQv D vwCl 26 h (eM ca h) sz (fun f1 L1 Q1 => ((sgI loM hiM f1 ∧ sgK WkX12_begins_50_f0 f f1 ∧ L1 = L ∧ Q1 = Q) ∧ (1 ≤ (f1 0 48).toInt ∧ (f1 0 48).toInt ≤ 1) ∧ (f1) = sX12_begins_50_f0 f L))) 0 0 (sgA 26 h sz) := by
  refine sg_ofWv (cc := cX12_begins) (maxL := 2) RX12 (by decide) rfl rfl (Nat.le_of_ble_eq_true rfl) ?_
  intro p e s m below meth cd Qz ls hx hb hml hown hts hK hZ hP hS hl hret
  have hA := sgY.self (n := 26) (h := h) (sz := s.heap.size)
  have hl : lv_has ls 2 [(0, .ref (h 0)), (1, .int 50)] := hl
  obtain ⟨H, hH⟩ : ∃ z : Heap, z = s.heap := ⟨_, rfl⟩
  obtain ⟨locs, hlo⟩ : ∃ z : List Loc, z = [] := ⟨_, rfl⟩
  have hP : va_P D vwCl (sgw 26 h (eM ca h) f L Q) H := by rw [hH]; exact hP
  have hS : va_S (sgA 26 h s.heap.size) s.heap H locs := by rw [hH, hlo]; exact hS
  suffices hgo : W p l e ({ frames := 0, cells := 0, slots := 0, locals := 0 }) s m ([.ref (h 0), .int 50] : List Value).toArray below meth cd H locs 0 0 Qz (F0 m 0 ls []) by rw [hH, hlo] at hgo; exact hgo
  clear hH hlo
  obtain ⟨sp, hsp⟩ : ∃ z : sg_F, z = sX12_begins_50_f0 f L := ⟨_, rfl⟩
  have hs : sp = sX12_begins_50_f0 f L := hsp
  have o_1 : (f 0 48).toInt = 0 := (congrArg Int32.toInt (show f 0 48 = 0 from hf_0_48)).trans (by decide)
  have hF : sgK WkX12_begins_50_f0 f f := sgK.rf
  have blk_19 : ∀ (fp_19 : sg_F) (H : Heap) (locs : List Loc) (ls : Array Slot), sp = sX12_begins_50_f0_b19 fp_19 L → 0 ≤ (fp_19 0 48).toInt ∧ (fp_19 0 48).toInt ≤ 0 → sgI loM hiM fp_19 → sgK WkX12_begins_50_f0 f fp_19 → va_P D vwCl (sgw 26 h (eM ca h) fp_19 L Q) H → va_S (sgA 26 h s.heap.size) s.heap H locs → lv_has ls 2 [(0, .ref (h 0))] → W p l e ({ frames := 0, cells := 0, slots := 0, locals := 0 }) s m ([.ref (h 0), .int 50] : List Value).toArray below meth cd H locs 0 0 Qz (F0 m 19 ls []) := by
    intro fp_19 H locs ls hs hy0_19 hI hF hP hS hl
    obtain ⟨v_2, ev_2⟩ : ∃ z : Int32, z = fp_19 0 48 := ⟨_, rfl⟩
    have q_3 : 0 ≤ v_2.toInt ∧ v_2.toInt ≤ 19 := by rw [ev_2]; exact hI 0 48
    have q_4 : (fp_19 0 48).toInt = v_2.toInt := by rw [ev_2]
    refine lv_aload_n hx hb dX12_begins_19 rfl (lv_at hl 0 rfl) ?_
    refine lv_dup hx hb dX12_begins_20 rfl ?_
    refine sl_gM_0_48_12 (v := v_2) hx hb hts hown hK hP (show fp_19 0 48 = v_2 from ev_2.symm) dX12_begins_21 ?_
    refine lv_iconst (v := 1) hx hb dX12_begins_24 ic_1 ?_
    refine lv_iadd hx hb dX12_begins_25 ?_
    refine lv_topi (fun v_5 ev_5 => ?_)
    have q_6 : v_5.toInt = v_2.toInt + 1 := by rw [ev_5]; first | exact cm_add ti_1 (by omega) (by omega) | (have k1 : (1 : Int32).toInt = 1 := ti_1; exact (bn_addI (by omega) (by omega)).trans (by omega))
    refine sl_pM_0_48_12 (x := v_5) hx hb hts hown hh hA hK hP hS dX12_begins_26 (fun f_7 H locs ef_7 hP hS => ?_)
    have hI : sgI loM hiM f_7 := by rw [ef_7]; exact sgI.put hI 0 48 (show 0 ≤ (v_5 : Int32).toInt ∧ (v_5 : Int32).toInt ≤ 19 from ⟨by omega, by omega⟩)
    have hF : sgK WkX12_begins_50_f0 f f_7 := sgK.put hF ef_7 (by rfl)
    have q_8 : (f_7 0 48).toInt = v_5.toInt := (congrArg Int32.toInt (show f_7 0 48 = v_5 from (by rw [ef_7, sg_up_s, sgu_s])))
    exact hret _ _ _ _ f_7 L Q dX12_begins_29 hP hS ⟨⟨hI, hF, rfl, rfl⟩, ⟨by omega, by omega⟩, (Eq.trans (Eq.symm (hs.trans ((spl_e ev_2 (spl_e ev_5 (spl_e ef_7 rfl)))))) hsp)⟩
  refine lv_aload_n hx hb dX12_begins_0 rfl (lv_at hl 0 rfl) ?_
  refine sl_gM_0_48_12 (v := 0) hx hb hts hown hK hP (show f 0 48 = 0 from hf_0_48) dX12_begins_1 ?_
  refine lv_bipush (v := 24) hx hb dX12_begins_4 bp_24 ?_
  refine lv_icmp_ge (tgt := 19) hx hb dX12_begins_6 (by decide) (fun c => absurd c (by decide)) (fun c => ?_)
  refine lv_aload_n hx hb dX12_begins_9 rfl (lv_at hl 0 rfl) ?_
  refine sl_gM_0_47_12 hx hb hts hown hK hP dX12_begins_10 ?_
  refine lv_aload_n hx hb dX12_begins_13 rfl (lv_at hl 0 rfl) ?_
  refine sl_gM_0_48_12 (v := 0) hx hb hts hown hK hP (show f 0 48 = 0 from hf_0_48) dX12_begins_14 ?_
  refine lv_iload_n hx hb dX12_begins_17 rfl (lv_at hl 1 rfl) ?_
  refine sg_iast hx hb hh hA hK hP hS 21 (by decide) 0 (fun _ => rfl) rfl (i := 0) (x := 50) (vp_in_iff.mpr (by decide)) dX12_begins_18 (fun f_10 H locs ef_10 hP hS => ?_)
  have ef_10 : f_10 = sg_up f 21 (sgu (f 21) 0 50) := ef_10
  have hI : sgI loM hiM f_10 := by rw [ef_10]; exact sgI.put hI 21 0 (show 0 ≤ (50 : Int32).toInt ∧ (50 : Int32).toInt ≤ 81 from by decide)
  have hF : sgK WkX12_begins_50_f0 f f_10 := sgK.put hF ef_10 (by rfl)
  exact blk_19 f_10 _ _ _ (hs.trans ((spl_e ef_10 rfl))) (by have zz0_48 : (f_10 0 48).toInt = 0 := (congrArg Int32.toInt (show f_10 0 48 = 0 from (by rw [ef_10, sg_up_n (by decide)]; exact hf_0_48))).trans (by decide); exact ⟨by omega, by omega⟩) hI hF hP hS (lv_sub hl [0] rfl)

abbrev WkX12_slipsAs_1_f1_f4 : List (Nat × Nat × Option Nat) := [(0, 0, some 48), (21, 21, some 1)]
set_option maxHeartbeats 4000000 in
set_option maxRecDepth 100000 in
theorem kX12_slipsAs_1_f1_f4 (l : Launch) (D : va_G) (ca : Nat → ClassId) (za h : Nat → Nat) (hh : sgH 26 h) (f : sg_F) (L : sg_L) (Q : sg_Q) (hI : sgI loM hiM f) (x1 : Int32) (hf_0_48 : f 0 48 = 1) (hf_0_49 : f 0 49 = 4) (p0 : 1 ≤ (f 0 48).toInt ∧ (f 0 48).toInt ≤ 1) (sz : Nat) : Met l yX12_slipsAs gwX12_slipsAs { frames := 1, cells := 0, slots := 0, locals := 21 } (sgP D vwCl (tyX ca) 26 h (eM ca h) zcM za f L Q sz [.ref (h 0), .int 1, .int x1]) (sgQi D vwCl 26 h (eM ca h) sz (fun r f1 L1 Q1 => ((sgI loM hiM f1 ∧ sgK WkX12_slipsAs_1_f1_f4 f f1 ∧ L1 = L ∧ Q1 = Q) ∧ True ∧ (2 ≤ (f1 0 48).toInt ∧ (f1 0 48).toInt ≤ 2) ∧ (r, f1) = sX12_slipsAs_1_f1_f4 x1 f L))) 0 0 (sgA 26 h sz) := by
  refine sg_ofWi (cc := cX12_slipsAs) (maxL := 4) RX12 (by decide) rfl rfl (Nat.le_of_ble_eq_true rfl) ?_
  intro p e s m below meth cd Qz ls hx hb hml hown hts hK hZ hP hS hl hret
  have hA := sgY.self (n := 26) (h := h) (sz := s.heap.size)
  have hl : lv_has ls 4 [(0, .ref (h 0)), (1, .int 1), (2, .int x1)] := hl
  obtain ⟨H, hH⟩ : ∃ z : Heap, z = s.heap := ⟨_, rfl⟩
  obtain ⟨locs, hlo⟩ : ∃ z : List Loc, z = [] := ⟨_, rfl⟩
  have hP : va_P D vwCl (sgw 26 h (eM ca h) f L Q) H := by rw [hH]; exact hP
  have hS : va_S (sgA 26 h s.heap.size) s.heap H locs := by rw [hH, hlo]; exact hS
  suffices hgo : W p l e ({ frames := 1, cells := 0, slots := 0, locals := 21 }) s m ([.ref (h 0), .int 1, .int x1] : List Value).toArray below meth cd H locs 0 0 Qz (F0 m 0 ls []) by rw [hH, hlo] at hgo; exact hgo
  clear hH hlo
  obtain ⟨sp, hsp⟩ : ∃ z : Int32 × sg_F, z = sX12_slipsAs_1_f1_f4 x1 f L := ⟨_, rfl⟩
  have hs : sp = sX12_slipsAs_1_f1_f4 x1 f L := hsp
  have o_1 : (f 0 48).toInt = 1 := (congrArg Int32.toInt (show f 0 48 = 1 from hf_0_48)).trans (by decide)
  have hF : sgK WkX12_slipsAs_1_f1_f4 f f := sgK.rf
  refine lv_iload_n hx hb dX12_slipsAs_0 rfl (lv_at hl 1 rfl) ?_
  refine lv_iconst (v := 3) hx hb dX12_slipsAs_1 ic_3 ?_
  refine lv_icmp_eq (tgt := 10) hx hb dX12_slipsAs_2 (by decide) (fun c => absurd c (by decide)) (fun c => ?_)
  refine lv_iload_n hx hb dX12_slipsAs_5 rfl (lv_at hl 1 rfl) ?_
  refine lv_iconst (v := 5) hx hb dX12_slipsAs_6 ic_5 ?_
  refine lv_icmp_ne (tgt := 25) hx hb dX12_slipsAs_7 (by decide) (fun c => ?_) (fun c => absurd c (by decide))
  refine lv_iload_n hx hb dX12_slipsAs_25 rfl (lv_at hl 1 rfl) ?_
  refine lv_iconst (v := 4) hx hb dX12_slipsAs_26 ic_4 ?_
  refine lv_icmp_eq (tgt := 36) hx hb dX12_slipsAs_27 (by decide) (fun c => absurd c (by decide)) (fun c => ?_)
  refine lv_iload_n hx hb dX12_slipsAs_30 rfl (lv_at hl 1 rfl) ?_
  refine lv_bipush (v := 7) hx hb dX12_slipsAs_31 bp_7 ?_
  refine lv_icmp_ne (tgt := 61) hx hb dX12_slipsAs_33 (by decide) (fun c => ?_) (fun c => absurd c (by decide))
  refine lv_aload_n hx hb dX12_slipsAs_61 rfl (lv_at hl 0 rfl) ?_
  refine lv_bipush (v := 11) hx hb dX12_slipsAs_62 bp_11 ?_
  have q_2 : (f 0 48).toInt = 1 := (congrArg Int32.toInt (show f 0 48 = 1 from hf_0_48)).trans (by decide)
  refine sg_callv (va_runV (As := [.int 11]) (rest := []) ⟨hx, hb, hml, hown, hts⟩ (kX12_begins_11_f1 l D ca za h hh f L Q hI hf_0_48 (by have k0 : (11 : Int32).toInt = 11 := ti_11; omega) H.size) (sl_c12_begins_0_0_0_0_12 hts ⟨Nat.le_of_ble_eq_true rfl, Nat.le_of_ble_eq_true rfl⟩) (sl_vM_0 hA hK hP hS hZ) rfl rfl hl.1 rfl (lv_room (Nat.le_of_ble_eq_true rfl)) dX12_slipsAs_64 ⟨Nat.le_refl _, Nat.le_refl _⟩) hA hS (fun f_4 L_5 Q_6 H locs hq hP hS => ?_)
  obtain ⟨⟨hI, hk_f_4, eL9, eQ9⟩, p_7, u_8⟩ := hq
  rw [eL9, eQ9] at hP; clear eL9 eQ9
  have hF : sgK WkX12_slipsAs_1_f1_f4 f f_4 := sgK.tr hF hk_f_4 (by decide +kernel)
  obtain ⟨v_9, ev_9⟩ : ∃ z : Int32, z = f_4 0 48 := ⟨_, rfl⟩
  have q_10 : 0 ≤ v_9.toInt ∧ v_9.toInt ≤ 19 := by rw [ev_9]; exact hI 0 48
  have q_11 : (f_4 0 48).toInt = v_9.toInt := (congrArg Int32.toInt (show f_4 0 48 = v_9 from ev_9.symm))
  refine lv_iload_n hx hb dX12_slipsAs_67 rfl (lv_at hl 2 rfl) ?_
  refine lv_aload_n hx hb dX12_slipsAs_68 rfl (lv_at hl 0 rfl) ?_
  refine sl_gM_0_50_12 (v := (f_4 0 50)) hx hb hts hown hK hP rfl dX12_slipsAs_69 ?_
  refine lv_topi (fun v_13 ev_13 => ?_)
  have q_14 : 0 ≤ v_13.toInt ∧ v_13.toInt ≤ 49 := by rw [ev_13]; exact hI 0 50
  refine lv_ixor hx hb dX12_slipsAs_72 ?_
  refine lv_topi (fun v_15 ev_15 => ?_)
  exact hret _ _ _ _ (v_15) f_4 L Q dX12_slipsAs_73 hP hS ⟨⟨hI, hF, rfl, rfl⟩, trivial, ⟨by omega, by omega⟩, (Eq.trans (Eq.symm (hs.trans ((spl_e u_8 (spl_e ev_9 (spl_e ev_13 (spl_e ev_15 rfl))))))) hsp)⟩

abbrev WkX12_setsAs_0_f3_f4 : List (Nat × Nat × Option Nat) := [(0, 0, some 48), (21, 21, some 3)]
set_option maxHeartbeats 4000000 in
set_option maxRecDepth 100000 in
theorem kX12_setsAs_0_f3_f4 (l : Launch) (D : va_G) (ca : Nat → ClassId) (za h : Nat → Nat) (hh : sgH 26 h) (f : sg_F) (L : sg_L) (Q : sg_Q) (hI : sgI loM hiM f) (x1 : Int32) (hf_0_48 : f 0 48 = 3) (hf_0_49 : f 0 49 = 4) (p0 : 3 ≤ (f 0 48).toInt ∧ (f 0 48).toInt ≤ 3) (sz : Nat) : Met l yX12_setsAs gwX12_setsAs { frames := 1, cells := 0, slots := 0, locals := 21 } (sgP D vwCl (tyX ca) 26 h (eM ca h) zcM za f L Q sz [.ref (h 0), .int 0, .int x1]) (sgQi D vwCl 26 h (eM ca h) sz (fun r f1 L1 Q1 => ((sgI loM hiM f1 ∧ sgK WkX12_setsAs_0_f3_f4 f f1 ∧ L1 = L ∧ Q1 = Q) ∧ True ∧ (4 ≤ (f1 0 48).toInt ∧ (f1 0 48).toInt ≤ 4) ∧ (r, f1) = sX12_setsAs_0_f3_f4 x1 f L))) 0 0 (sgA 26 h sz) := by
  refine sg_ofWi (cc := cX12_setsAs) (maxL := 3) RX12 (by decide) rfl rfl (Nat.le_of_ble_eq_true rfl) ?_
  intro p e s m below meth cd Qz ls hx hb hml hown hts hK hZ hP hS hl hret
  have hA := sgY.self (n := 26) (h := h) (sz := s.heap.size)
  have hl : lv_has ls 3 [(0, .ref (h 0)), (1, .int 0), (2, .int x1)] := hl
  obtain ⟨H, hH⟩ : ∃ z : Heap, z = s.heap := ⟨_, rfl⟩
  obtain ⟨locs, hlo⟩ : ∃ z : List Loc, z = [] := ⟨_, rfl⟩
  have hP : va_P D vwCl (sgw 26 h (eM ca h) f L Q) H := by rw [hH]; exact hP
  have hS : va_S (sgA 26 h s.heap.size) s.heap H locs := by rw [hH, hlo]; exact hS
  suffices hgo : W p l e ({ frames := 1, cells := 0, slots := 0, locals := 21 }) s m ([.ref (h 0), .int 0, .int x1] : List Value).toArray below meth cd H locs 0 0 Qz (F0 m 0 ls []) by rw [hH, hlo] at hgo; exact hgo
  clear hH hlo
  obtain ⟨sp, hsp⟩ : ∃ z : Int32 × sg_F, z = sX12_setsAs_0_f3_f4 x1 f L := ⟨_, rfl⟩
  have hs : sp = sX12_setsAs_0_f3_f4 x1 f L := hsp
  have o_1 : (f 0 48).toInt = 3 := (congrArg Int32.toInt (show f 0 48 = 3 from hf_0_48)).trans (by decide)
  have hF : sgK WkX12_setsAs_0_f3_f4 f f := sgK.rf
  refine lv_iload_n hx hb dX12_setsAs_0 rfl (lv_at hl 1 rfl) ?_
  refine lv_iconst (v := 1) hx hb dX12_setsAs_1 ic_1 ?_
  refine lv_icmp_eq (tgt := 16) hx hb dX12_setsAs_2 (by decide) (fun c => absurd c (by decide)) (fun c => ?_)
  refine lv_iload_n hx hb dX12_setsAs_5 rfl (lv_at hl 1 rfl) ?_
  refine lv_iconst (v := 4) hx hb dX12_setsAs_6 ic_4 ?_
  refine lv_icmp_eq (tgt := 16) hx hb dX12_setsAs_7 (by decide) (fun c => absurd c (by decide)) (fun c => ?_)
  refine lv_iload_n hx hb dX12_setsAs_10 rfl (lv_at hl 1 rfl) ?_
  refine lv_bipush (v := 7) hx hb dX12_setsAs_11 bp_7 ?_
  refine lv_icmp_ne (tgt := 31) hx hb dX12_setsAs_13 (by decide) (fun c => ?_) (fun c => absurd c (by decide))
  refine lv_iload_n hx hb dX12_setsAs_31 rfl (lv_at hl 1 rfl) ?_
  refine lv_bipush (v := 6) hx hb dX12_setsAs_32 bp_6 ?_
  refine lv_icmp_ne (tgt := 52) hx hb dX12_setsAs_34 (by decide) (fun c => ?_) (fun c => absurd c (by decide))
  refine lv_aload_n hx hb dX12_setsAs_52 rfl (lv_at hl 0 rfl) ?_
  refine lv_iconst (v := 1) hx hb dX12_setsAs_53 ic_1 ?_
  have q_2 : (f 0 48).toInt = 3 := (congrArg Int32.toInt (show f 0 48 = 3 from hf_0_48)).trans (by decide)
  refine sg_callv (va_runV (As := [.int 1]) (rest := []) ⟨hx, hb, hml, hown, hts⟩ (kX12_begins_1_f3 l D ca za h hh f L Q hI hf_0_48 (by have k0 : (1 : Int32).toInt = 1 := ti_1; omega) H.size) (sl_c12_begins_0_0_0_0_12 hts ⟨Nat.le_of_ble_eq_true rfl, Nat.le_of_ble_eq_true rfl⟩) (sl_vM_0 hA hK hP hS hZ) rfl rfl hl.1 rfl (lv_room (Nat.le_of_ble_eq_true rfl)) dX12_setsAs_54 ⟨Nat.le_refl _, Nat.le_refl _⟩) hA hS (fun f_4 L_5 Q_6 H locs hq hP hS => ?_)
  obtain ⟨⟨hI, hk_f_4, eL9, eQ9⟩, p_7, u_8⟩ := hq
  rw [eL9, eQ9] at hP; clear eL9 eQ9
  have hF : sgK WkX12_setsAs_0_f3_f4 f f_4 := sgK.tr hF hk_f_4 (by decide +kernel)
  obtain ⟨v_9, ev_9⟩ : ∃ z : Int32, z = f_4 0 48 := ⟨_, rfl⟩
  have q_10 : 0 ≤ v_9.toInt ∧ v_9.toInt ≤ 19 := by rw [ev_9]; exact hI 0 48
  have q_11 : (f_4 0 48).toInt = v_9.toInt := (congrArg Int32.toInt (show f_4 0 48 = v_9 from ev_9.symm))
  refine lv_iload_n hx hb dX12_setsAs_57 rfl (lv_at hl 2 rfl) ?_
  refine lv_aload_n hx hb dX12_setsAs_58 rfl (lv_at hl 0 rfl) ?_
  refine sl_gM_0_50_12 (v := (f_4 0 50)) hx hb hts hown hK hP rfl dX12_setsAs_59 ?_
  refine lv_topi (fun v_13 ev_13 => ?_)
  have q_14 : 0 ≤ v_13.toInt ∧ v_13.toInt ≤ 49 := by rw [ev_13]; exact hI 0 50
  refine lv_iadd hx hb dX12_setsAs_62 ?_
  refine lv_topi (fun v_15 ev_15 => ?_)
  exact hret _ _ _ _ (v_15) f_4 L Q dX12_setsAs_63 hP hS ⟨⟨hI, hF, rfl, rfl⟩, trivial, ⟨by omega, by omega⟩, (Eq.trans (Eq.symm (hs.trans ((spl_e u_8 (spl_e ev_9 (spl_e ev_13 (spl_e ev_15 rfl))))))) hsp)⟩

abbrev WkX12_setsAs_4_f2_f4 : List (Nat × Nat × Option Nat) := [(0, 0, some 48), (21, 21, some 2), (21, 21, some 3)]
set_option maxHeartbeats 4000000 in
set_option maxRecDepth 100000 in
theorem kX12_setsAs_4_f2_f4 (l : Launch) (D : va_G) (ca : Nat → ClassId) (za h : Nat → Nat) (hh : sgH 26 h) (f : sg_F) (L : sg_L) (Q : sg_Q) (hI : sgI loM hiM f) (x1 : Int32) (hf_0_48 : f 0 48 = 2) (hf_0_49 : f 0 49 = 4) (p0 : 2 ≤ (f 0 48).toInt ∧ (f 0 48).toInt ≤ 2) (sz : Nat) : Met l yX12_setsAs gwX12_setsAs { frames := 2, cells := 0, slots := 0, locals := 43 } (sgP D vwCl (tyX ca) 26 h (eM ca h) zcM za f L Q sz [.ref (h 0), .int 4, .int x1]) (sgQi D vwCl 26 h (eM ca h) sz (fun r f1 L1 Q1 => ((sgI loM hiM f1 ∧ sgK WkX12_setsAs_4_f2_f4 f f1 ∧ L1 = L ∧ Q1 = Q) ∧ True ∧ (4 ≤ (f1 0 48).toInt ∧ (f1 0 48).toInt ≤ 4) ∧ (r, f1) = sX12_setsAs_4_f2_f4 x1 f L))) 0 0 (sgA 26 h sz) := by
  refine sg_ofWi (cc := cX12_setsAs) (maxL := 3) RX12 (by decide) rfl rfl (Nat.le_of_ble_eq_true rfl) ?_
  intro p e s m below meth cd Qz ls hx hb hml hown hts hK hZ hP hS hl hret
  have hA := sgY.self (n := 26) (h := h) (sz := s.heap.size)
  have hl : lv_has ls 3 [(0, .ref (h 0)), (1, .int 4), (2, .int x1)] := hl
  obtain ⟨H, hH⟩ : ∃ z : Heap, z = s.heap := ⟨_, rfl⟩
  obtain ⟨locs, hlo⟩ : ∃ z : List Loc, z = [] := ⟨_, rfl⟩
  have hP : va_P D vwCl (sgw 26 h (eM ca h) f L Q) H := by rw [hH]; exact hP
  have hS : va_S (sgA 26 h s.heap.size) s.heap H locs := by rw [hH, hlo]; exact hS
  suffices hgo : W p l e ({ frames := 2, cells := 0, slots := 0, locals := 43 }) s m ([.ref (h 0), .int 4, .int x1] : List Value).toArray below meth cd H locs 0 0 Qz (F0 m 0 ls []) by rw [hH, hlo] at hgo; exact hgo
  clear hH hlo
  obtain ⟨sp, hsp⟩ : ∃ z : Int32 × sg_F, z = sX12_setsAs_4_f2_f4 x1 f L := ⟨_, rfl⟩
  have hs : sp = sX12_setsAs_4_f2_f4 x1 f L := hsp
  have o_1 : (f 0 48).toInt = 2 := (congrArg Int32.toInt (show f 0 48 = 2 from hf_0_48)).trans (by decide)
  have hF : sgK WkX12_setsAs_4_f2_f4 f f := sgK.rf
  have blk_16 : ∀ (fp_16 : sg_F) (H : Heap) (locs : List Loc) (ls : Array Slot), sp = sX12_setsAs_4_f2_f4_b16 x1 fp_16 L → 2 ≤ (fp_16 0 48).toInt ∧ (fp_16 0 48).toInt ≤ 2 → 4 ≤ (fp_16 0 49).toInt ∧ (fp_16 0 49).toInt ≤ 4 → sgI loM hiM fp_16 → sgK WkX12_setsAs_4_f2_f4 f fp_16 → va_P D vwCl (sgw 26 h (eM ca h) fp_16 L Q) H → va_S (sgA 26 h s.heap.size) s.heap H locs → lv_has ls 3 [(0, .ref (h 0)), (2, .int x1)] → W p l e ({ frames := 2, cells := 0, slots := 0, locals := 43 }) s m ([.ref (h 0), .int 4, .int x1] : List Value).toArray below meth cd H locs 0 0 Qz (F0 m 16 ls []) := by
    intro fp_16 H locs ls hs hy0_16 hy1_16 hI hF hP hS hl
    obtain ⟨v_2, ev_2⟩ : ∃ z : Int32, z = fp_16 0 48 := ⟨_, rfl⟩
    have q_3 : 0 ≤ v_2.toInt ∧ v_2.toInt ≤ 19 := by rw [ev_2]; exact hI 0 48
    have q_4 : (fp_16 0 48).toInt = v_2.toInt := by rw [ev_2]
    obtain ⟨v_5, ev_5⟩ : ∃ z : Int32, z = fp_16 0 49 := ⟨_, rfl⟩
    have q_6 : 0 ≤ v_5.toInt ∧ v_5.toInt ≤ 7 := by rw [ev_5]; exact hI 0 49
    have q_7 : (fp_16 0 49).toInt = v_5.toInt := by rw [ev_5]
    have m_8 : fp_16 0 49 = 4 := (hF 0 49 (by decide)).trans hf_0_49
    refine lv_aload_n hx hb dX12_setsAs_16 rfl (lv_at hl 0 rfl) ?_
    refine lv_bipush (v := 20) hx hb dX12_setsAs_17 bp_20 ?_
    have c_9 : v_2 = 2 := Int32.toInt_inj.mp (by have k9 : (2 : Int32).toInt = 2 := ti_2; omega)
    have q_10 : (fp_16 0 48).toInt = 2 := (congrArg Int32.toInt (show fp_16 0 48 = 2 from (Eq.trans ev_2.symm c_9))).trans (by decide)
    refine sg_callv (va_runV (As := [.int 20]) (rest := []) ⟨hx, hb, hml, hown, hts⟩ (kX12_begins_20_f2 l D ca za h hh fp_16 L Q hI (Eq.trans ev_2.symm c_9) (by have k0 : (20 : Int32).toInt = 20 := ti_20; omega) H.size) (sl_c12_begins_0_0_0_0_12 hts ⟨Nat.le_of_ble_eq_true rfl, Nat.le_of_ble_eq_true rfl⟩) (sl_vM_0 hA hK hP hS hZ) rfl rfl hl.1 rfl (lv_room (Nat.le_of_ble_eq_true rfl)) dX12_setsAs_19 ⟨Nat.le_refl _, Nat.le_refl _⟩) hA hS (fun f_12 L_13 Q_14 H locs hq hP hS => ?_)
    obtain ⟨⟨hI, hk_f_12, eL9, eQ9⟩, p_15, u_16⟩ := hq
    rw [eL9, eQ9] at hP; clear eL9 eQ9
    have hF : sgK WkX12_setsAs_4_f2_f4 f f_12 := sgK.tr hF hk_f_12 (by decide +kernel)
    obtain ⟨v_17, ev_17⟩ : ∃ z : Int32, z = f_12 0 48 := ⟨_, rfl⟩
    have q_18 : 0 ≤ v_17.toInt ∧ v_17.toInt ≤ 19 := by rw [ev_17]; exact hI 0 48
    have q_19 : (f_12 0 48).toInt = v_17.toInt := (congrArg Int32.toInt (show f_12 0 48 = v_17 from ev_17.symm))
    refine lv_aload_n hx hb dX12_setsAs_22 rfl (lv_at hl 0 rfl) ?_
    refine lv_iconst (v := 0) hx hb dX12_setsAs_23 ic_0 ?_
    refine lv_iload_n hx hb dX12_setsAs_24 rfl (lv_at hl 1 rfl) ?_
    have c_21 : v_17 = 3 := Int32.toInt_inj.mp (by have k9 : (3 : Int32).toInt = 3 := ti_3; omega)
    have q_22 : (f_12 0 48).toInt = 3 := (congrArg Int32.toInt (show f_12 0 48 = 3 from (Eq.trans ev_17.symm c_21))).trans (by decide)
    refine sg_calli (va_runV (As := [.int 0, .int x1]) (rest := []) ⟨hx, hb, hml, hown, hts⟩ (kX12_setsAs_0_f3_f4 l D ca za h hh f_12 L Q hI x1 (Eq.trans ev_17.symm c_21) ((hk_f_12 0 49 (by decide)).trans m_8) (by have k0 : (0 : Int32).toInt = 0 := ti_0; omega) H.size) (sl_c12_setsAs_1_0_0_21_12 hts ⟨Nat.le_of_ble_eq_true rfl, Nat.le_of_ble_eq_true rfl⟩) (sl_vM_0 hA hK hP hS hZ) rfl rfl hl.1 rfl (lv_room (Nat.le_of_ble_eq_true rfl)) dX12_setsAs_25 ⟨Nat.le_refl _, Nat.le_refl _⟩) hA hS (fun r_27 f_24 L_25 Q_26 H locs hq hP hS => ?_)
    obtain ⟨⟨hI, hk_f_24, eL9, eQ9⟩, hq, p_28, u_29⟩ := hq
    rw [eL9, eQ9] at hP; clear eL9 eQ9
    have hF : sgK WkX12_setsAs_4_f2_f4 f f_24 := sgK.tr hF hk_f_24 (by decide +kernel)
    obtain ⟨v_30, ev_30⟩ : ∃ z : Int32, z = f_24 0 48 := ⟨_, rfl⟩
    have q_31 : 0 ≤ v_30.toInt ∧ v_30.toInt ≤ 19 := by rw [ev_30]; exact hI 0 48
    have q_32 : (f_24 0 48).toInt = v_30.toInt := (congrArg Int32.toInt (show f_24 0 48 = v_30 from ev_30.symm))
    have k_34 : (0 : Int32).toInt = 0 := by decide
    refine lv_iconst (v := 3) hx hb dX12_setsAs_28 ic_3 ?_
    refine lv_iadd hx hb dX12_setsAs_29 ?_
    refine lv_topi (fun v_35 ev_35 => ?_)
    exact hret _ _ _ _ (v_35) f_24 L Q dX12_setsAs_30 hP hS ⟨⟨hI, hF, rfl, rfl⟩, trivial, ⟨by omega, by omega⟩, (Eq.trans (Eq.symm (hs.trans ((spl_e ev_2 (spl_e ev_5 (spl_e u_16 (spl_e ev_17 (spl2_e u_29 (spl_e ev_30 (spl_e ev_35 rfl)))))))))) hsp)⟩
  refine lv_iload_n hx hb dX12_setsAs_0 rfl (lv_at hl 1 rfl) ?_
  refine lv_iconst (v := 1) hx hb dX12_setsAs_1 ic_1 ?_
  refine lv_icmp_eq (tgt := 16) hx hb dX12_setsAs_2 (by decide) (fun c => absurd c (by decide)) (fun c => ?_)
  refine lv_iload_n hx hb dX12_setsAs_5 rfl (lv_at hl 1 rfl) ?_
  refine lv_iconst (v := 4) hx hb dX12_setsAs_6 ic_4 ?_
  refine lv_icmp_eq (tgt := 16) hx hb dX12_setsAs_7 (by decide) (fun c => ?_) (fun c => absurd c (by decide))
  exact blk_16 f _ _ _ hs (by have zz0_48 : (f 0 48).toInt = 2 := (congrArg Int32.toInt (show f 0 48 = 2 from hf_0_48)).trans (by decide); exact ⟨by omega, by omega⟩) (by have zz0_49 : (f 0 49).toInt = 4 := (congrArg Int32.toInt (show f 0 49 = 4 from hf_0_49)).trans (by decide); exact ⟨by omega, by omega⟩) hI hF hP hS (lv_sub hl [0, 2] rfl)

abbrev WkX12_slipsAs_4_f0_f4 : List (Nat × Nat × Option Nat) := [(0, 0, some 48), (21, 21, some 0), (21, 21, some 1), (21, 21, some 2), (21, 21, some 3)]
set_option maxHeartbeats 4000000 in
set_option maxRecDepth 100000 in
theorem kX12_slipsAs_4_f0_f4 (l : Launch) (D : va_G) (ca : Nat → ClassId) (za h : Nat → Nat) (hh : sgH 26 h) (f : sg_F) (L : sg_L) (Q : sg_Q) (hI : sgI loM hiM f) (x1 : Int32) (hf_0_48 : f 0 48 = 0) (hf_0_49 : f 0 49 = 4) (p0 : 0 ≤ (f 0 48).toInt ∧ (f 0 48).toInt ≤ 0) (sz : Nat) : Met l yX12_slipsAs gwX12_slipsAs { frames := 3, cells := 0, slots := 0, locals := 65 } (sgP D vwCl (tyX ca) 26 h (eM ca h) zcM za f L Q sz [.ref (h 0), .int 4, .int x1]) (sgQi D vwCl 26 h (eM ca h) sz (fun r f1 L1 Q1 => ((sgI loM hiM f1 ∧ sgK WkX12_slipsAs_4_f0_f4 f f1 ∧ L1 = L ∧ Q1 = Q) ∧ True ∧ (4 ≤ (f1 0 48).toInt ∧ (f1 0 48).toInt ≤ 4) ∧ (r, f1) = sX12_slipsAs_4_f0_f4 x1 f L))) 0 0 (sgA 26 h sz) := by
  refine sg_ofWi (cc := cX12_slipsAs) (maxL := 4) RX12 (by decide) rfl rfl (Nat.le_of_ble_eq_true rfl) ?_
  intro p e s m below meth cd Qz ls hx hb hml hown hts hK hZ hP hS hl hret
  have hA := sgY.self (n := 26) (h := h) (sz := s.heap.size)
  have hl : lv_has ls 4 [(0, .ref (h 0)), (1, .int 4), (2, .int x1)] := hl
  obtain ⟨H, hH⟩ : ∃ z : Heap, z = s.heap := ⟨_, rfl⟩
  obtain ⟨locs, hlo⟩ : ∃ z : List Loc, z = [] := ⟨_, rfl⟩
  have hP : va_P D vwCl (sgw 26 h (eM ca h) f L Q) H := by rw [hH]; exact hP
  have hS : va_S (sgA 26 h s.heap.size) s.heap H locs := by rw [hH, hlo]; exact hS
  suffices hgo : W p l e ({ frames := 3, cells := 0, slots := 0, locals := 65 }) s m ([.ref (h 0), .int 4, .int x1] : List Value).toArray below meth cd H locs 0 0 Qz (F0 m 0 ls []) by rw [hH, hlo] at hgo; exact hgo
  clear hH hlo
  obtain ⟨sp, hsp⟩ : ∃ z : Int32 × sg_F, z = sX12_slipsAs_4_f0_f4 x1 f L := ⟨_, rfl⟩
  have hs : sp = sX12_slipsAs_4_f0_f4 x1 f L := hsp
  have o_1 : (f 0 48).toInt = 0 := (congrArg Int32.toInt (show f 0 48 = 0 from hf_0_48)).trans (by decide)
  have hF : sgK WkX12_slipsAs_4_f0_f4 f f := sgK.rf
  have blk_36 : ∀ (fp_36 : sg_F) (H : Heap) (locs : List Loc) (ls : Array Slot), sp = sX12_slipsAs_4_f0_f4_b36 x1 fp_36 L → 0 ≤ (fp_36 0 48).toInt ∧ (fp_36 0 48).toInt ≤ 0 → 4 ≤ (fp_36 0 49).toInt ∧ (fp_36 0 49).toInt ≤ 4 → sgI loM hiM fp_36 → sgK WkX12_slipsAs_4_f0_f4 f fp_36 → va_P D vwCl (sgw 26 h (eM ca h) fp_36 L Q) H → va_S (sgA 26 h s.heap.size) s.heap H locs → lv_has ls 4 [(0, .ref (h 0)), (2, .int x1)] → W p l e ({ frames := 3, cells := 0, slots := 0, locals := 65 }) s m ([.ref (h 0), .int 4, .int x1] : List Value).toArray below meth cd H locs 0 0 Qz (F0 m 36 ls []) := by
    intro fp_36 H locs ls hs hy0_36 hy1_36 hI hF hP hS hl
    obtain ⟨v_2, ev_2⟩ : ∃ z : Int32, z = fp_36 0 48 := ⟨_, rfl⟩
    have q_3 : 0 ≤ v_2.toInt ∧ v_2.toInt ≤ 19 := by rw [ev_2]; exact hI 0 48
    have q_4 : (fp_36 0 48).toInt = v_2.toInt := by rw [ev_2]
    obtain ⟨v_5, ev_5⟩ : ∃ z : Int32, z = fp_36 0 49 := ⟨_, rfl⟩
    have q_6 : 0 ≤ v_5.toInt ∧ v_5.toInt ≤ 7 := by rw [ev_5]; exact hI 0 49
    have q_7 : (fp_36 0 49).toInt = v_5.toInt := by rw [ev_5]
    have m_8 : fp_36 0 49 = 4 := (hF 0 49 (by decide)).trans hf_0_49
    refine lv_aload_n hx hb dX12_slipsAs_36 rfl (lv_at hl 0 rfl) ?_
    refine lv_bipush (v := 50) hx hb dX12_slipsAs_37 bp_50 ?_
    have c_9 : v_2 = 0 := Int32.toInt_inj.mp (by have k9 : (0 : Int32).toInt = 0 := ti_0; omega)
    have q_10 : (fp_36 0 48).toInt = 0 := (congrArg Int32.toInt (show fp_36 0 48 = 0 from (Eq.trans ev_2.symm c_9))).trans (by decide)
    refine sg_callv (va_runV (As := [.int 50]) (rest := []) ⟨hx, hb, hml, hown, hts⟩ (kX12_begins_50_f0 l D ca za h hh fp_36 L Q hI (Eq.trans ev_2.symm c_9) (by have k0 : (50 : Int32).toInt = 50 := ti_50; omega) H.size) (sl_c12_begins_0_0_0_0_12 hts ⟨Nat.le_of_ble_eq_true rfl, Nat.le_of_ble_eq_true rfl⟩) (sl_vM_0 hA hK hP hS hZ) rfl rfl hl.1 rfl (lv_room (Nat.le_of_ble_eq_true rfl)) dX12_slipsAs_39 ⟨Nat.le_refl _, Nat.le_refl _⟩) hA hS (fun f_12 L_13 Q_14 H locs hq hP hS => ?_)
    obtain ⟨⟨hI, hk_f_12, eL9, eQ9⟩, p_15, u_16⟩ := hq
    rw [eL9, eQ9] at hP; clear eL9 eQ9
    have hF : sgK WkX12_slipsAs_4_f0_f4 f f_12 := sgK.tr hF hk_f_12 (by decide +kernel)
    obtain ⟨v_17, ev_17⟩ : ∃ z : Int32, z = f_12 0 48 := ⟨_, rfl⟩
    have q_18 : 0 ≤ v_17.toInt ∧ v_17.toInt ≤ 19 := by rw [ev_17]; exact hI 0 48
    have q_19 : (f_12 0 48).toInt = v_17.toInt := (congrArg Int32.toInt (show f_12 0 48 = v_17 from ev_17.symm))
    refine lv_aload_n hx hb dX12_slipsAs_42 rfl (lv_at hl 0 rfl) ?_
    refine lv_iconst (v := 1) hx hb dX12_slipsAs_43 ic_1 ?_
    refine lv_iload_n hx hb dX12_slipsAs_44 rfl (lv_at hl 1 rfl) ?_
    have c_21 : v_17 = 1 := Int32.toInt_inj.mp (by have k9 : (1 : Int32).toInt = 1 := ti_1; omega)
    have q_22 : (f_12 0 48).toInt = 1 := (congrArg Int32.toInt (show f_12 0 48 = 1 from (Eq.trans ev_17.symm c_21))).trans (by decide)
    refine sg_calli (va_runV (As := [.int 1, .int x1]) (rest := []) ⟨hx, hb, hml, hown, hts⟩ (kX12_slipsAs_1_f1_f4 l D ca za h hh f_12 L Q hI x1 (Eq.trans ev_17.symm c_21) ((hk_f_12 0 49 (by decide)).trans m_8) (by have k0 : (1 : Int32).toInt = 1 := ti_1; omega) H.size) (sl_c12_slipsAs_1_0_0_21_12 hts ⟨Nat.le_of_ble_eq_true rfl, Nat.le_of_ble_eq_true rfl⟩) (sl_vM_0 hA hK hP hS hZ) rfl rfl hl.1 rfl (lv_room (Nat.le_of_ble_eq_true rfl)) dX12_slipsAs_45 ⟨Nat.le_refl _, Nat.le_refl _⟩) hA hS (fun r_27 f_24 L_25 Q_26 H locs hq hP hS => ?_)
    obtain ⟨⟨hI, hk_f_24, eL9, eQ9⟩, hq, p_28, u_29⟩ := hq
    rw [eL9, eQ9] at hP; clear eL9 eQ9
    have hF : sgK WkX12_slipsAs_4_f0_f4 f f_24 := sgK.tr hF hk_f_24 (by decide +kernel)
    obtain ⟨v_30, ev_30⟩ : ∃ z : Int32, z = f_24 0 48 := ⟨_, rfl⟩
    have q_31 : 0 ≤ v_30.toInt ∧ v_30.toInt ≤ 19 := by rw [ev_30]; exact hI 0 48
    have q_32 : (f_24 0 48).toInt = v_30.toInt := (congrArg Int32.toInt (show f_24 0 48 = v_30 from ev_30.symm))
    have k_34 : (1 : Int32).toInt = 1 := by decide
    refine lv_istore_n (lv' := [(3, .int r_27), (0, .ref (h 0)), (2, .int x1)]) hx hb dX12_slipsAs_48 rfl hl (by decide) rfl (fun ls hl => ?_)
    refine lv_iload_n hx hb dX12_slipsAs_49 rfl (lv_at hl 0 rfl) ?_
    refine lv_aload_n hx hb dX12_slipsAs_50 rfl (lv_at hl 1 rfl) ?_
    refine lv_aload_n hx hb dX12_slipsAs_51 rfl (lv_at hl 1 rfl) ?_
    refine sl_gM_0_49_12 (v := 4) hx hb hts hown hK hP (show f_24 0 49 = 4 from ((hk_f_24 0 49 (by decide)).trans ((hk_f_12 0 49 (by decide)).trans m_8))) dX12_slipsAs_52 ?_
    refine lv_iconst (v := 2) hx hb dX12_slipsAs_55 ic_2 ?_
    have c_35 : v_30 = 2 := Int32.toInt_inj.mp (by have k9 : (2 : Int32).toInt = 2 := ti_2; omega)
    have q_36 : (f_24 0 48).toInt = 2 := (congrArg Int32.toInt (show f_24 0 48 = 2 from (Eq.trans ev_30.symm c_35))).trans (by decide)
    refine sg_calli (va_runV (As := [.int 4, .int 2]) (rest := [.int r_27]) ⟨hx, hb, hml, hown, hts⟩ (kX12_setsAs_4_f2_f4 l D ca za h hh f_24 L Q hI 2 (Eq.trans ev_30.symm c_35) ((hk_f_24 0 49 (by decide)).trans ((hk_f_12 0 49 (by decide)).trans m_8)) (by have k0 : (4 : Int32).toInt = 4 := ti_4; have k1 : (2 : Int32).toInt = 2 := ti_2; omega) H.size) (sl_c12_setsAs_2_0_0_43_12 hts ⟨Nat.le_of_ble_eq_true rfl, Nat.le_of_ble_eq_true rfl⟩) (sl_vM_0 hA hK hP hS hZ) rfl rfl hl.1 rfl (lv_room (Nat.le_of_ble_eq_true rfl)) dX12_slipsAs_56 ⟨Nat.le_refl _, Nat.le_refl _⟩) hA hS (fun r_41 f_38 L_39 Q_40 H locs hq hP hS => ?_)
    obtain ⟨⟨hI, hk_f_38, eL9, eQ9⟩, hq, p_42, u_43⟩ := hq
    rw [eL9, eQ9] at hP; clear eL9 eQ9
    have hF : sgK WkX12_slipsAs_4_f0_f4 f f_38 := sgK.tr hF hk_f_38 (by decide +kernel)
    obtain ⟨v_44, ev_44⟩ : ∃ z : Int32, z = f_38 0 48 := ⟨_, rfl⟩
    have q_45 : 0 ≤ v_44.toInt ∧ v_44.toInt ≤ 19 := by rw [ev_44]; exact hI 0 48
    have q_46 : (f_38 0 48).toInt = v_44.toInt := (congrArg Int32.toInt (show f_38 0 48 = v_44 from ev_44.symm))
    have k_48 : (4 : Int32).toInt = 4 := by decide
    have k_49 : (2 : Int32).toInt = 2 := by decide
    refine lv_isub hx hb dX12_slipsAs_59 ?_
    refine lv_topi (fun v_50 ev_50 => ?_)
    exact hret _ _ _ _ (v_50) f_38 L Q dX12_slipsAs_60 hP hS ⟨⟨hI, hF, rfl, rfl⟩, trivial, ⟨by omega, by omega⟩, (Eq.trans (Eq.symm (hs.trans ((spl_e ev_2 (spl_e ev_5 (spl_e u_16 (spl_e ev_17 (spl2_e u_29 (spl_e ev_30 (spl2_e u_43 (spl_e ev_44 (spl_e ev_50 rfl)))))))))))) hsp)⟩
  refine lv_iload_n hx hb dX12_slipsAs_0 rfl (lv_at hl 1 rfl) ?_
  refine lv_iconst (v := 3) hx hb dX12_slipsAs_1 ic_3 ?_
  refine lv_icmp_eq (tgt := 10) hx hb dX12_slipsAs_2 (by decide) (fun c => absurd c (by decide)) (fun c => ?_)
  refine lv_iload_n hx hb dX12_slipsAs_5 rfl (lv_at hl 1 rfl) ?_
  refine lv_iconst (v := 5) hx hb dX12_slipsAs_6 ic_5 ?_
  refine lv_icmp_ne (tgt := 25) hx hb dX12_slipsAs_7 (by decide) (fun c => ?_) (fun c => absurd c (by decide))
  refine lv_iload_n hx hb dX12_slipsAs_25 rfl (lv_at hl 1 rfl) ?_
  refine lv_iconst (v := 4) hx hb dX12_slipsAs_26 ic_4 ?_
  refine lv_icmp_eq (tgt := 36) hx hb dX12_slipsAs_27 (by decide) (fun c => ?_) (fun c => absurd c (by decide))
  exact blk_36 f _ _ _ hs (by have zz0_48 : (f 0 48).toInt = 0 := (congrArg Int32.toInt (show f 0 48 = 0 from hf_0_48)).trans (by decide); exact ⟨by omega, by omega⟩) (by have zz0_49 : (f 0 49).toInt = 4 := (congrArg Int32.toInt (show f 0 49 = 4 from hf_0_49)).trans (by decide); exact ⟨by omega, by omega⟩) hI hF hP hS (lv_sub hl [0, 2] rfl)

abbrev WkX12_slipsAs_2_f1_f5 : List (Nat × Nat × Option Nat) := [(0, 0, some 48), (21, 21, some 1)]
set_option maxHeartbeats 4000000 in
set_option maxRecDepth 100000 in
theorem kX12_slipsAs_2_f1_f5 (l : Launch) (D : va_G) (ca : Nat → ClassId) (za h : Nat → Nat) (hh : sgH 26 h) (f : sg_F) (L : sg_L) (Q : sg_Q) (hI : sgI loM hiM f) (x1 : Int32) (hf_0_48 : f 0 48 = 1) (hf_0_49 : f 0 49 = 5) (p0 : 1 ≤ (f 0 48).toInt ∧ (f 0 48).toInt ≤ 1) (sz : Nat) : Met l yX12_slipsAs gwX12_slipsAs { frames := 1, cells := 0, slots := 0, locals := 21 } (sgP D vwCl (tyX ca) 26 h (eM ca h) zcM za f L Q sz [.ref (h 0), .int 2, .int x1]) (sgQi D vwCl 26 h (eM ca h) sz (fun r f1 L1 Q1 => ((sgI loM hiM f1 ∧ sgK WkX12_slipsAs_2_f1_f5 f f1 ∧ L1 = L ∧ Q1 = Q) ∧ True ∧ (2 ≤ (f1 0 48).toInt ∧ (f1 0 48).toInt ≤ 2) ∧ (r, f1) = sX12_slipsAs_2_f1_f5 x1 f L))) 0 0 (sgA 26 h sz) := by
  refine sg_ofWi (cc := cX12_slipsAs) (maxL := 4) RX12 (by decide) rfl rfl (Nat.le_of_ble_eq_true rfl) ?_
  intro p e s m below meth cd Qz ls hx hb hml hown hts hK hZ hP hS hl hret
  have hA := sgY.self (n := 26) (h := h) (sz := s.heap.size)
  have hl : lv_has ls 4 [(0, .ref (h 0)), (1, .int 2), (2, .int x1)] := hl
  obtain ⟨H, hH⟩ : ∃ z : Heap, z = s.heap := ⟨_, rfl⟩
  obtain ⟨locs, hlo⟩ : ∃ z : List Loc, z = [] := ⟨_, rfl⟩
  have hP : va_P D vwCl (sgw 26 h (eM ca h) f L Q) H := by rw [hH]; exact hP
  have hS : va_S (sgA 26 h s.heap.size) s.heap H locs := by rw [hH, hlo]; exact hS
  suffices hgo : W p l e ({ frames := 1, cells := 0, slots := 0, locals := 21 }) s m ([.ref (h 0), .int 2, .int x1] : List Value).toArray below meth cd H locs 0 0 Qz (F0 m 0 ls []) by rw [hH, hlo] at hgo; exact hgo
  clear hH hlo
  obtain ⟨sp, hsp⟩ : ∃ z : Int32 × sg_F, z = sX12_slipsAs_2_f1_f5 x1 f L := ⟨_, rfl⟩
  have hs : sp = sX12_slipsAs_2_f1_f5 x1 f L := hsp
  have o_1 : (f 0 48).toInt = 1 := (congrArg Int32.toInt (show f 0 48 = 1 from hf_0_48)).trans (by decide)
  have hF : sgK WkX12_slipsAs_2_f1_f5 f f := sgK.rf
  refine lv_iload_n hx hb dX12_slipsAs_0 rfl (lv_at hl 1 rfl) ?_
  refine lv_iconst (v := 3) hx hb dX12_slipsAs_1 ic_3 ?_
  refine lv_icmp_eq (tgt := 10) hx hb dX12_slipsAs_2 (by decide) (fun c => absurd c (by decide)) (fun c => ?_)
  refine lv_iload_n hx hb dX12_slipsAs_5 rfl (lv_at hl 1 rfl) ?_
  refine lv_iconst (v := 5) hx hb dX12_slipsAs_6 ic_5 ?_
  refine lv_icmp_ne (tgt := 25) hx hb dX12_slipsAs_7 (by decide) (fun c => ?_) (fun c => absurd c (by decide))
  refine lv_iload_n hx hb dX12_slipsAs_25 rfl (lv_at hl 1 rfl) ?_
  refine lv_iconst (v := 4) hx hb dX12_slipsAs_26 ic_4 ?_
  refine lv_icmp_eq (tgt := 36) hx hb dX12_slipsAs_27 (by decide) (fun c => absurd c (by decide)) (fun c => ?_)
  refine lv_iload_n hx hb dX12_slipsAs_30 rfl (lv_at hl 1 rfl) ?_
  refine lv_bipush (v := 7) hx hb dX12_slipsAs_31 bp_7 ?_
  refine lv_icmp_ne (tgt := 61) hx hb dX12_slipsAs_33 (by decide) (fun c => ?_) (fun c => absurd c (by decide))
  refine lv_aload_n hx hb dX12_slipsAs_61 rfl (lv_at hl 0 rfl) ?_
  refine lv_bipush (v := 11) hx hb dX12_slipsAs_62 bp_11 ?_
  have q_2 : (f 0 48).toInt = 1 := (congrArg Int32.toInt (show f 0 48 = 1 from hf_0_48)).trans (by decide)
  refine sg_callv (va_runV (As := [.int 11]) (rest := []) ⟨hx, hb, hml, hown, hts⟩ (kX12_begins_11_f1 l D ca za h hh f L Q hI hf_0_48 (by have k0 : (11 : Int32).toInt = 11 := ti_11; omega) H.size) (sl_c12_begins_0_0_0_0_12 hts ⟨Nat.le_of_ble_eq_true rfl, Nat.le_of_ble_eq_true rfl⟩) (sl_vM_0 hA hK hP hS hZ) rfl rfl hl.1 rfl (lv_room (Nat.le_of_ble_eq_true rfl)) dX12_slipsAs_64 ⟨Nat.le_refl _, Nat.le_refl _⟩) hA hS (fun f_4 L_5 Q_6 H locs hq hP hS => ?_)
  obtain ⟨⟨hI, hk_f_4, eL9, eQ9⟩, p_7, u_8⟩ := hq
  rw [eL9, eQ9] at hP; clear eL9 eQ9
  have hF : sgK WkX12_slipsAs_2_f1_f5 f f_4 := sgK.tr hF hk_f_4 (by decide +kernel)
  obtain ⟨v_9, ev_9⟩ : ∃ z : Int32, z = f_4 0 48 := ⟨_, rfl⟩
  have q_10 : 0 ≤ v_9.toInt ∧ v_9.toInt ≤ 19 := by rw [ev_9]; exact hI 0 48
  have q_11 : (f_4 0 48).toInt = v_9.toInt := (congrArg Int32.toInt (show f_4 0 48 = v_9 from ev_9.symm))
  refine lv_iload_n hx hb dX12_slipsAs_67 rfl (lv_at hl 2 rfl) ?_
  refine lv_aload_n hx hb dX12_slipsAs_68 rfl (lv_at hl 0 rfl) ?_
  refine sl_gM_0_50_12 (v := (f_4 0 50)) hx hb hts hown hK hP rfl dX12_slipsAs_69 ?_
  refine lv_topi (fun v_13 ev_13 => ?_)
  have q_14 : 0 ≤ v_13.toInt ∧ v_13.toInt ≤ 49 := by rw [ev_13]; exact hI 0 50
  refine lv_ixor hx hb dX12_slipsAs_72 ?_
  refine lv_topi (fun v_15 ev_15 => ?_)
  exact hret _ _ _ _ (v_15) f_4 L Q dX12_slipsAs_73 hP hS ⟨⟨hI, hF, rfl, rfl⟩, trivial, ⟨by omega, by omega⟩, (Eq.trans (Eq.symm (hs.trans ((spl_e u_8 (spl_e ev_9 (spl_e ev_13 (spl_e ev_15 rfl))))))) hsp)⟩

abbrev WkX12_slipsAs_5_f0_f5 : List (Nat × Nat × Option Nat) := [(0, 0, some 48), (21, 21, some 0), (21, 21, some 1)]
set_option maxHeartbeats 4000000 in
set_option maxRecDepth 100000 in
theorem kX12_slipsAs_5_f0_f5 (l : Launch) (D : va_G) (ca : Nat → ClassId) (za h : Nat → Nat) (hh : sgH 26 h) (f : sg_F) (L : sg_L) (Q : sg_Q) (hI : sgI loM hiM f) (x1 : Int32) (hf_0_48 : f 0 48 = 0) (hf_0_49 : f 0 49 = 5) (p0 : 0 ≤ (f 0 48).toInt ∧ (f 0 48).toInt ≤ 0) (sz : Nat) : Met l yX12_slipsAs gwX12_slipsAs { frames := 2, cells := 0, slots := 0, locals := 44 } (sgP D vwCl (tyX ca) 26 h (eM ca h) zcM za f L Q sz [.ref (h 0), .int 5, .int x1]) (sgQi D vwCl 26 h (eM ca h) sz (fun r f1 L1 Q1 => ((sgI loM hiM f1 ∧ sgK WkX12_slipsAs_5_f0_f5 f f1 ∧ L1 = L ∧ Q1 = Q) ∧ True ∧ (2 ≤ (f1 0 48).toInt ∧ (f1 0 48).toInt ≤ 2) ∧ (r, f1) = sX12_slipsAs_5_f0_f5 x1 f L))) 0 0 (sgA 26 h sz) := by
  refine sg_ofWi (cc := cX12_slipsAs) (maxL := 4) RX12 (by decide) rfl rfl (Nat.le_of_ble_eq_true rfl) ?_
  intro p e s m below meth cd Qz ls hx hb hml hown hts hK hZ hP hS hl hret
  have hA := sgY.self (n := 26) (h := h) (sz := s.heap.size)
  have hl : lv_has ls 4 [(0, .ref (h 0)), (1, .int 5), (2, .int x1)] := hl
  obtain ⟨H, hH⟩ : ∃ z : Heap, z = s.heap := ⟨_, rfl⟩
  obtain ⟨locs, hlo⟩ : ∃ z : List Loc, z = [] := ⟨_, rfl⟩
  have hP : va_P D vwCl (sgw 26 h (eM ca h) f L Q) H := by rw [hH]; exact hP
  have hS : va_S (sgA 26 h s.heap.size) s.heap H locs := by rw [hH, hlo]; exact hS
  suffices hgo : W p l e ({ frames := 2, cells := 0, slots := 0, locals := 44 }) s m ([.ref (h 0), .int 5, .int x1] : List Value).toArray below meth cd H locs 0 0 Qz (F0 m 0 ls []) by rw [hH, hlo] at hgo; exact hgo
  clear hH hlo
  obtain ⟨sp, hsp⟩ : ∃ z : Int32 × sg_F, z = sX12_slipsAs_5_f0_f5 x1 f L := ⟨_, rfl⟩
  have hs : sp = sX12_slipsAs_5_f0_f5 x1 f L := hsp
  have o_1 : (f 0 48).toInt = 0 := (congrArg Int32.toInt (show f 0 48 = 0 from hf_0_48)).trans (by decide)
  have hF : sgK WkX12_slipsAs_5_f0_f5 f f := sgK.rf
  have blk_10 : ∀ (fp_10 : sg_F) (H : Heap) (locs : List Loc) (ls : Array Slot), sp = sX12_slipsAs_5_f0_f5_b10 x1 fp_10 L → 0 ≤ (fp_10 0 48).toInt ∧ (fp_10 0 48).toInt ≤ 0 → 5 ≤ (fp_10 0 49).toInt ∧ (fp_10 0 49).toInt ≤ 5 → sgI loM hiM fp_10 → sgK WkX12_slipsAs_5_f0_f5 f fp_10 → va_P D vwCl (sgw 26 h (eM ca h) fp_10 L Q) H → va_S (sgA 26 h s.heap.size) s.heap H locs → lv_has ls 4 [(0, .ref (h 0)), (2, .int x1)] → W p l e ({ frames := 2, cells := 0, slots := 0, locals := 44 }) s m ([.ref (h 0), .int 5, .int x1] : List Value).toArray below meth cd H locs 0 0 Qz (F0 m 10 ls []) := by
    intro fp_10 H locs ls hs hy0_10 hy1_10 hI hF hP hS hl
    obtain ⟨v_2, ev_2⟩ : ∃ z : Int32, z = fp_10 0 48 := ⟨_, rfl⟩
    have q_3 : 0 ≤ v_2.toInt ∧ v_2.toInt ≤ 19 := by rw [ev_2]; exact hI 0 48
    have q_4 : (fp_10 0 48).toInt = v_2.toInt := by rw [ev_2]
    obtain ⟨v_5, ev_5⟩ : ∃ z : Int32, z = fp_10 0 49 := ⟨_, rfl⟩
    have q_6 : 0 ≤ v_5.toInt ∧ v_5.toInt ≤ 7 := by rw [ev_5]; exact hI 0 49
    have q_7 : (fp_10 0 49).toInt = v_5.toInt := by rw [ev_5]
    have m_8 : fp_10 0 49 = 5 := (hF 0 49 (by decide)).trans hf_0_49
    refine lv_aload_n hx hb dX12_slipsAs_10 rfl (lv_at hl 0 rfl) ?_
    refine lv_bipush (v := 40) hx hb dX12_slipsAs_11 bp_40 ?_
    have c_9 : v_2 = 0 := Int32.toInt_inj.mp (by have k9 : (0 : Int32).toInt = 0 := ti_0; omega)
    have q_10 : (fp_10 0 48).toInt = 0 := (congrArg Int32.toInt (show fp_10 0 48 = 0 from (Eq.trans ev_2.symm c_9))).trans (by decide)
    refine sg_callv (va_runV (As := [.int 40]) (rest := []) ⟨hx, hb, hml, hown, hts⟩ (kX12_begins_40_f0 l D ca za h hh fp_10 L Q hI (Eq.trans ev_2.symm c_9) (by have k0 : (40 : Int32).toInt = 40 := ti_40; omega) H.size) (sl_c12_begins_0_0_0_0_12 hts ⟨Nat.le_of_ble_eq_true rfl, Nat.le_of_ble_eq_true rfl⟩) (sl_vM_0 hA hK hP hS hZ) rfl rfl hl.1 rfl (lv_room (Nat.le_of_ble_eq_true rfl)) dX12_slipsAs_13 ⟨Nat.le_refl _, Nat.le_refl _⟩) hA hS (fun f_12 L_13 Q_14 H locs hq hP hS => ?_)
    obtain ⟨⟨hI, hk_f_12, eL9, eQ9⟩, p_15, u_16⟩ := hq
    rw [eL9, eQ9] at hP; clear eL9 eQ9
    have hF : sgK WkX12_slipsAs_5_f0_f5 f f_12 := sgK.tr hF hk_f_12 (by decide +kernel)
    obtain ⟨v_17, ev_17⟩ : ∃ z : Int32, z = f_12 0 48 := ⟨_, rfl⟩
    have q_18 : 0 ≤ v_17.toInt ∧ v_17.toInt ≤ 19 := by rw [ev_17]; exact hI 0 48
    have q_19 : (f_12 0 48).toInt = v_17.toInt := (congrArg Int32.toInt (show f_12 0 48 = v_17 from ev_17.symm))
    refine lv_aload_n hx hb dX12_slipsAs_16 rfl (lv_at hl 0 rfl) ?_
    refine lv_iconst (v := 2) hx hb dX12_slipsAs_17 ic_2 ?_
    refine lv_iload_n hx hb dX12_slipsAs_18 rfl (lv_at hl 1 rfl) ?_
    have c_21 : v_17 = 1 := Int32.toInt_inj.mp (by have k9 : (1 : Int32).toInt = 1 := ti_1; omega)
    have q_22 : (f_12 0 48).toInt = 1 := (congrArg Int32.toInt (show f_12 0 48 = 1 from (Eq.trans ev_17.symm c_21))).trans (by decide)
    refine sg_calli (va_runV (As := [.int 2, .int x1]) (rest := []) ⟨hx, hb, hml, hown, hts⟩ (kX12_slipsAs_2_f1_f5 l D ca za h hh f_12 L Q hI x1 (Eq.trans ev_17.symm c_21) ((hk_f_12 0 49 (by decide)).trans m_8) (by have k0 : (2 : Int32).toInt = 2 := ti_2; omega) H.size) (sl_c12_slipsAs_1_0_0_21_12 hts ⟨Nat.le_of_ble_eq_true rfl, Nat.le_of_ble_eq_true rfl⟩) (sl_vM_0 hA hK hP hS hZ) rfl rfl hl.1 rfl (lv_room (Nat.le_of_ble_eq_true rfl)) dX12_slipsAs_19 ⟨Nat.le_refl _, Nat.le_refl _⟩) hA hS (fun r_27 f_24 L_25 Q_26 H locs hq hP hS => ?_)
    obtain ⟨⟨hI, hk_f_24, eL9, eQ9⟩, hq, p_28, u_29⟩ := hq
    rw [eL9, eQ9] at hP; clear eL9 eQ9
    have hF : sgK WkX12_slipsAs_5_f0_f5 f f_24 := sgK.tr hF hk_f_24 (by decide +kernel)
    obtain ⟨v_30, ev_30⟩ : ∃ z : Int32, z = f_24 0 48 := ⟨_, rfl⟩
    have q_31 : 0 ≤ v_30.toInt ∧ v_30.toInt ≤ 19 := by rw [ev_30]; exact hI 0 48
    have q_32 : (f_24 0 48).toInt = v_30.toInt := (congrArg Int32.toInt (show f_24 0 48 = v_30 from ev_30.symm))
    have k_34 : (2 : Int32).toInt = 2 := by decide
    refine lv_iconst (v := 3) hx hb dX12_slipsAs_22 ic_3 ?_
    refine lv_imul hx hb dX12_slipsAs_23 ?_
    refine lv_topi (fun v_35 ev_35 => ?_)
    exact hret _ _ _ _ (v_35) f_24 L Q dX12_slipsAs_24 hP hS ⟨⟨hI, hF, rfl, rfl⟩, trivial, ⟨by omega, by omega⟩, (Eq.trans (Eq.symm (hs.trans ((spl_e ev_2 (spl_e ev_5 (spl_e u_16 (spl_e ev_17 (spl2_e u_29 (spl_e ev_30 (spl_e ev_35 rfl)))))))))) hsp)⟩
  refine lv_iload_n hx hb dX12_slipsAs_0 rfl (lv_at hl 1 rfl) ?_
  refine lv_iconst (v := 3) hx hb dX12_slipsAs_1 ic_3 ?_
  refine lv_icmp_eq (tgt := 10) hx hb dX12_slipsAs_2 (by decide) (fun c => absurd c (by decide)) (fun c => ?_)
  refine lv_iload_n hx hb dX12_slipsAs_5 rfl (lv_at hl 1 rfl) ?_
  refine lv_iconst (v := 5) hx hb dX12_slipsAs_6 ic_5 ?_
  refine lv_icmp_ne (tgt := 25) hx hb dX12_slipsAs_7 (by decide) (fun c => absurd c (by decide)) (fun c => ?_)
  exact blk_10 f _ _ _ hs (by have zz0_48 : (f 0 48).toInt = 0 := (congrArg Int32.toInt (show f 0 48 = 0 from hf_0_48)).trans (by decide); exact ⟨by omega, by omega⟩) (by have zz0_49 : (f 0 49).toInt = 5 := (congrArg Int32.toInt (show f 0 49 = 5 from hf_0_49)).trans (by decide); exact ⟨by omega, by omega⟩) hI hF hP hS (lv_sub hl [0, 2] rfl)

abbrev WkX12_slipsAs_6_f0_f6 : List (Nat × Nat × Option Nat) := [(0, 0, some 48), (21, 21, some 0)]
set_option maxHeartbeats 4000000 in
set_option maxRecDepth 100000 in
theorem kX12_slipsAs_6_f0_f6 (l : Launch) (D : va_G) (ca : Nat → ClassId) (za h : Nat → Nat) (hh : sgH 26 h) (f : sg_F) (L : sg_L) (Q : sg_Q) (hI : sgI loM hiM f) (x1 : Int32) (hf_0_48 : f 0 48 = 0) (hf_0_49 : f 0 49 = 6) (p0 : 0 ≤ (f 0 48).toInt ∧ (f 0 48).toInt ≤ 0) (sz : Nat) : Met l yX12_slipsAs gwX12_slipsAs { frames := 1, cells := 0, slots := 0, locals := 21 } (sgP D vwCl (tyX ca) 26 h (eM ca h) zcM za f L Q sz [.ref (h 0), .int 6, .int x1]) (sgQi D vwCl 26 h (eM ca h) sz (fun r f1 L1 Q1 => ((sgI loM hiM f1 ∧ sgK WkX12_slipsAs_6_f0_f6 f f1 ∧ L1 = L ∧ Q1 = Q) ∧ True ∧ (1 ≤ (f1 0 48).toInt ∧ (f1 0 48).toInt ≤ 1) ∧ (r, f1) = sX12_slipsAs_6_f0_f6 x1 f L))) 0 0 (sgA 26 h sz) := by
  refine sg_ofWi (cc := cX12_slipsAs) (maxL := 4) RX12 (by decide) rfl rfl (Nat.le_of_ble_eq_true rfl) ?_
  intro p e s m below meth cd Qz ls hx hb hml hown hts hK hZ hP hS hl hret
  have hA := sgY.self (n := 26) (h := h) (sz := s.heap.size)
  have hl : lv_has ls 4 [(0, .ref (h 0)), (1, .int 6), (2, .int x1)] := hl
  obtain ⟨H, hH⟩ : ∃ z : Heap, z = s.heap := ⟨_, rfl⟩
  obtain ⟨locs, hlo⟩ : ∃ z : List Loc, z = [] := ⟨_, rfl⟩
  have hP : va_P D vwCl (sgw 26 h (eM ca h) f L Q) H := by rw [hH]; exact hP
  have hS : va_S (sgA 26 h s.heap.size) s.heap H locs := by rw [hH, hlo]; exact hS
  suffices hgo : W p l e ({ frames := 1, cells := 0, slots := 0, locals := 21 }) s m ([.ref (h 0), .int 6, .int x1] : List Value).toArray below meth cd H locs 0 0 Qz (F0 m 0 ls []) by rw [hH, hlo] at hgo; exact hgo
  clear hH hlo
  obtain ⟨sp, hsp⟩ : ∃ z : Int32 × sg_F, z = sX12_slipsAs_6_f0_f6 x1 f L := ⟨_, rfl⟩
  have hs : sp = sX12_slipsAs_6_f0_f6 x1 f L := hsp
  have o_1 : (f 0 48).toInt = 0 := (congrArg Int32.toInt (show f 0 48 = 0 from hf_0_48)).trans (by decide)
  have hF : sgK WkX12_slipsAs_6_f0_f6 f f := sgK.rf
  refine lv_iload_n hx hb dX12_slipsAs_0 rfl (lv_at hl 1 rfl) ?_
  refine lv_iconst (v := 3) hx hb dX12_slipsAs_1 ic_3 ?_
  refine lv_icmp_eq (tgt := 10) hx hb dX12_slipsAs_2 (by decide) (fun c => absurd c (by decide)) (fun c => ?_)
  refine lv_iload_n hx hb dX12_slipsAs_5 rfl (lv_at hl 1 rfl) ?_
  refine lv_iconst (v := 5) hx hb dX12_slipsAs_6 ic_5 ?_
  refine lv_icmp_ne (tgt := 25) hx hb dX12_slipsAs_7 (by decide) (fun c => ?_) (fun c => absurd c (by decide))
  refine lv_iload_n hx hb dX12_slipsAs_25 rfl (lv_at hl 1 rfl) ?_
  refine lv_iconst (v := 4) hx hb dX12_slipsAs_26 ic_4 ?_
  refine lv_icmp_eq (tgt := 36) hx hb dX12_slipsAs_27 (by decide) (fun c => absurd c (by decide)) (fun c => ?_)
  refine lv_iload_n hx hb dX12_slipsAs_30 rfl (lv_at hl 1 rfl) ?_
  refine lv_bipush (v := 7) hx hb dX12_slipsAs_31 bp_7 ?_
  refine lv_icmp_ne (tgt := 61) hx hb dX12_slipsAs_33 (by decide) (fun c => ?_) (fun c => absurd c (by decide))
  refine lv_aload_n hx hb dX12_slipsAs_61 rfl (lv_at hl 0 rfl) ?_
  refine lv_bipush (v := 11) hx hb dX12_slipsAs_62 bp_11 ?_
  have q_2 : (f 0 48).toInt = 0 := (congrArg Int32.toInt (show f 0 48 = 0 from hf_0_48)).trans (by decide)
  refine sg_callv (va_runV (As := [.int 11]) (rest := []) ⟨hx, hb, hml, hown, hts⟩ (kX12_begins_11_f0 l D ca za h hh f L Q hI hf_0_48 (by have k0 : (11 : Int32).toInt = 11 := ti_11; omega) H.size) (sl_c12_begins_0_0_0_0_12 hts ⟨Nat.le_of_ble_eq_true rfl, Nat.le_of_ble_eq_true rfl⟩) (sl_vM_0 hA hK hP hS hZ) rfl rfl hl.1 rfl (lv_room (Nat.le_of_ble_eq_true rfl)) dX12_slipsAs_64 ⟨Nat.le_refl _, Nat.le_refl _⟩) hA hS (fun f_4 L_5 Q_6 H locs hq hP hS => ?_)
  obtain ⟨⟨hI, hk_f_4, eL9, eQ9⟩, p_7, u_8⟩ := hq
  rw [eL9, eQ9] at hP; clear eL9 eQ9
  have hF : sgK WkX12_slipsAs_6_f0_f6 f f_4 := sgK.tr hF hk_f_4 (by decide +kernel)
  obtain ⟨v_9, ev_9⟩ : ∃ z : Int32, z = f_4 0 48 := ⟨_, rfl⟩
  have q_10 : 0 ≤ v_9.toInt ∧ v_9.toInt ≤ 19 := by rw [ev_9]; exact hI 0 48
  have q_11 : (f_4 0 48).toInt = v_9.toInt := (congrArg Int32.toInt (show f_4 0 48 = v_9 from ev_9.symm))
  refine lv_iload_n hx hb dX12_slipsAs_67 rfl (lv_at hl 2 rfl) ?_
  refine lv_aload_n hx hb dX12_slipsAs_68 rfl (lv_at hl 0 rfl) ?_
  refine sl_gM_0_50_12 (v := (f_4 0 50)) hx hb hts hown hK hP rfl dX12_slipsAs_69 ?_
  refine lv_topi (fun v_13 ev_13 => ?_)
  have q_14 : 0 ≤ v_13.toInt ∧ v_13.toInt ≤ 49 := by rw [ev_13]; exact hI 0 50
  refine lv_ixor hx hb dX12_slipsAs_72 ?_
  refine lv_topi (fun v_15 ev_15 => ?_)
  exact hret _ _ _ _ (v_15) f_4 L Q dX12_slipsAs_73 hP hS ⟨⟨hI, hF, rfl, rfl⟩, trivial, ⟨by omega, by omega⟩, (Eq.trans (Eq.symm (hs.trans ((spl_e u_8 (spl_e ev_9 (spl_e ev_13 (spl_e ev_15 rfl))))))) hsp)⟩

abbrev WkX12_slipsAs_1_f1_f7 : List (Nat × Nat × Option Nat) := [(0, 0, some 48), (21, 21, some 1)]
set_option maxHeartbeats 4000000 in
set_option maxRecDepth 100000 in
theorem kX12_slipsAs_1_f1_f7 (l : Launch) (D : va_G) (ca : Nat → ClassId) (za h : Nat → Nat) (hh : sgH 26 h) (f : sg_F) (L : sg_L) (Q : sg_Q) (hI : sgI loM hiM f) (x1 : Int32) (hf_0_48 : f 0 48 = 1) (hf_0_49 : f 0 49 = 7) (p0 : 1 ≤ (f 0 48).toInt ∧ (f 0 48).toInt ≤ 1) (sz : Nat) : Met l yX12_slipsAs gwX12_slipsAs { frames := 1, cells := 0, slots := 0, locals := 21 } (sgP D vwCl (tyX ca) 26 h (eM ca h) zcM za f L Q sz [.ref (h 0), .int 1, .int x1]) (sgQi D vwCl 26 h (eM ca h) sz (fun r f1 L1 Q1 => ((sgI loM hiM f1 ∧ sgK WkX12_slipsAs_1_f1_f7 f f1 ∧ L1 = L ∧ Q1 = Q) ∧ True ∧ (2 ≤ (f1 0 48).toInt ∧ (f1 0 48).toInt ≤ 2) ∧ (r, f1) = sX12_slipsAs_1_f1_f7 x1 f L))) 0 0 (sgA 26 h sz) := by
  refine sg_ofWi (cc := cX12_slipsAs) (maxL := 4) RX12 (by decide) rfl rfl (Nat.le_of_ble_eq_true rfl) ?_
  intro p e s m below meth cd Qz ls hx hb hml hown hts hK hZ hP hS hl hret
  have hA := sgY.self (n := 26) (h := h) (sz := s.heap.size)
  have hl : lv_has ls 4 [(0, .ref (h 0)), (1, .int 1), (2, .int x1)] := hl
  obtain ⟨H, hH⟩ : ∃ z : Heap, z = s.heap := ⟨_, rfl⟩
  obtain ⟨locs, hlo⟩ : ∃ z : List Loc, z = [] := ⟨_, rfl⟩
  have hP : va_P D vwCl (sgw 26 h (eM ca h) f L Q) H := by rw [hH]; exact hP
  have hS : va_S (sgA 26 h s.heap.size) s.heap H locs := by rw [hH, hlo]; exact hS
  suffices hgo : W p l e ({ frames := 1, cells := 0, slots := 0, locals := 21 }) s m ([.ref (h 0), .int 1, .int x1] : List Value).toArray below meth cd H locs 0 0 Qz (F0 m 0 ls []) by rw [hH, hlo] at hgo; exact hgo
  clear hH hlo
  obtain ⟨sp, hsp⟩ : ∃ z : Int32 × sg_F, z = sX12_slipsAs_1_f1_f7 x1 f L := ⟨_, rfl⟩
  have hs : sp = sX12_slipsAs_1_f1_f7 x1 f L := hsp
  have o_1 : (f 0 48).toInt = 1 := (congrArg Int32.toInt (show f 0 48 = 1 from hf_0_48)).trans (by decide)
  have hF : sgK WkX12_slipsAs_1_f1_f7 f f := sgK.rf
  refine lv_iload_n hx hb dX12_slipsAs_0 rfl (lv_at hl 1 rfl) ?_
  refine lv_iconst (v := 3) hx hb dX12_slipsAs_1 ic_3 ?_
  refine lv_icmp_eq (tgt := 10) hx hb dX12_slipsAs_2 (by decide) (fun c => absurd c (by decide)) (fun c => ?_)
  refine lv_iload_n hx hb dX12_slipsAs_5 rfl (lv_at hl 1 rfl) ?_
  refine lv_iconst (v := 5) hx hb dX12_slipsAs_6 ic_5 ?_
  refine lv_icmp_ne (tgt := 25) hx hb dX12_slipsAs_7 (by decide) (fun c => ?_) (fun c => absurd c (by decide))
  refine lv_iload_n hx hb dX12_slipsAs_25 rfl (lv_at hl 1 rfl) ?_
  refine lv_iconst (v := 4) hx hb dX12_slipsAs_26 ic_4 ?_
  refine lv_icmp_eq (tgt := 36) hx hb dX12_slipsAs_27 (by decide) (fun c => absurd c (by decide)) (fun c => ?_)
  refine lv_iload_n hx hb dX12_slipsAs_30 rfl (lv_at hl 1 rfl) ?_
  refine lv_bipush (v := 7) hx hb dX12_slipsAs_31 bp_7 ?_
  refine lv_icmp_ne (tgt := 61) hx hb dX12_slipsAs_33 (by decide) (fun c => ?_) (fun c => absurd c (by decide))
  refine lv_aload_n hx hb dX12_slipsAs_61 rfl (lv_at hl 0 rfl) ?_
  refine lv_bipush (v := 11) hx hb dX12_slipsAs_62 bp_11 ?_
  have q_2 : (f 0 48).toInt = 1 := (congrArg Int32.toInt (show f 0 48 = 1 from hf_0_48)).trans (by decide)
  refine sg_callv (va_runV (As := [.int 11]) (rest := []) ⟨hx, hb, hml, hown, hts⟩ (kX12_begins_11_f1 l D ca za h hh f L Q hI hf_0_48 (by have k0 : (11 : Int32).toInt = 11 := ti_11; omega) H.size) (sl_c12_begins_0_0_0_0_12 hts ⟨Nat.le_of_ble_eq_true rfl, Nat.le_of_ble_eq_true rfl⟩) (sl_vM_0 hA hK hP hS hZ) rfl rfl hl.1 rfl (lv_room (Nat.le_of_ble_eq_true rfl)) dX12_slipsAs_64 ⟨Nat.le_refl _, Nat.le_refl _⟩) hA hS (fun f_4 L_5 Q_6 H locs hq hP hS => ?_)
  obtain ⟨⟨hI, hk_f_4, eL9, eQ9⟩, p_7, u_8⟩ := hq
  rw [eL9, eQ9] at hP; clear eL9 eQ9
  have hF : sgK WkX12_slipsAs_1_f1_f7 f f_4 := sgK.tr hF hk_f_4 (by decide +kernel)
  obtain ⟨v_9, ev_9⟩ : ∃ z : Int32, z = f_4 0 48 := ⟨_, rfl⟩
  have q_10 : 0 ≤ v_9.toInt ∧ v_9.toInt ≤ 19 := by rw [ev_9]; exact hI 0 48
  have q_11 : (f_4 0 48).toInt = v_9.toInt := (congrArg Int32.toInt (show f_4 0 48 = v_9 from ev_9.symm))
  refine lv_iload_n hx hb dX12_slipsAs_67 rfl (lv_at hl 2 rfl) ?_
  refine lv_aload_n hx hb dX12_slipsAs_68 rfl (lv_at hl 0 rfl) ?_
  refine sl_gM_0_50_12 (v := (f_4 0 50)) hx hb hts hown hK hP rfl dX12_slipsAs_69 ?_
  refine lv_topi (fun v_13 ev_13 => ?_)
  have q_14 : 0 ≤ v_13.toInt ∧ v_13.toInt ≤ 49 := by rw [ev_13]; exact hI 0 50
  refine lv_ixor hx hb dX12_slipsAs_72 ?_
  refine lv_topi (fun v_15 ev_15 => ?_)
  exact hret _ _ _ _ (v_15) f_4 L Q dX12_slipsAs_73 hP hS ⟨⟨hI, hF, rfl, rfl⟩, trivial, ⟨by omega, by omega⟩, (Eq.trans (Eq.symm (hs.trans ((spl_e u_8 (spl_e ev_9 (spl_e ev_13 (spl_e ev_15 rfl))))))) hsp)⟩

abbrev WkX12_slipsAs_7_f0_f7 : List (Nat × Nat × Option Nat) := [(0, 0, some 48), (21, 21, some 0), (21, 21, some 1), (21, 21, some 2), (21, 21, some 3)]
set_option maxHeartbeats 4000000 in
set_option maxRecDepth 100000 in
theorem kX12_slipsAs_7_f0_f7 (l : Launch) (D : va_G) (ca : Nat → ClassId) (za h : Nat → Nat) (hh : sgH 26 h) (f : sg_F) (L : sg_L) (Q : sg_Q) (hI : sgI loM hiM f) (x1 : Int32) (hf_0_48 : f 0 48 = 0) (hf_0_49 : f 0 49 = 7) (p0 : 0 ≤ (f 0 48).toInt ∧ (f 0 48).toInt ≤ 0) (sz : Nat) : Met l yX12_slipsAs gwX12_slipsAs { frames := 3, cells := 0, slots := 0, locals := 65 } (sgP D vwCl (tyX ca) 26 h (eM ca h) zcM za f L Q sz [.ref (h 0), .int 7, .int x1]) (sgQi D vwCl 26 h (eM ca h) sz (fun r f1 L1 Q1 => ((sgI loM hiM f1 ∧ sgK WkX12_slipsAs_7_f0_f7 f f1 ∧ L1 = L ∧ Q1 = Q) ∧ True ∧ (4 ≤ (f1 0 48).toInt ∧ (f1 0 48).toInt ≤ 4) ∧ (r, f1) = sX12_slipsAs_7_f0_f7 x1 f L))) 0 0 (sgA 26 h sz) := by
  refine sg_ofWi (cc := cX12_slipsAs) (maxL := 4) RX12 (by decide) rfl rfl (Nat.le_of_ble_eq_true rfl) ?_
  intro p e s m below meth cd Qz ls hx hb hml hown hts hK hZ hP hS hl hret
  have hA := sgY.self (n := 26) (h := h) (sz := s.heap.size)
  have hl : lv_has ls 4 [(0, .ref (h 0)), (1, .int 7), (2, .int x1)] := hl
  obtain ⟨H, hH⟩ : ∃ z : Heap, z = s.heap := ⟨_, rfl⟩
  obtain ⟨locs, hlo⟩ : ∃ z : List Loc, z = [] := ⟨_, rfl⟩
  have hP : va_P D vwCl (sgw 26 h (eM ca h) f L Q) H := by rw [hH]; exact hP
  have hS : va_S (sgA 26 h s.heap.size) s.heap H locs := by rw [hH, hlo]; exact hS
  suffices hgo : W p l e ({ frames := 3, cells := 0, slots := 0, locals := 65 }) s m ([.ref (h 0), .int 7, .int x1] : List Value).toArray below meth cd H locs 0 0 Qz (F0 m 0 ls []) by rw [hH, hlo] at hgo; exact hgo
  clear hH hlo
  obtain ⟨sp, hsp⟩ : ∃ z : Int32 × sg_F, z = sX12_slipsAs_7_f0_f7 x1 f L := ⟨_, rfl⟩
  have hs : sp = sX12_slipsAs_7_f0_f7 x1 f L := hsp
  have o_1 : (f 0 48).toInt = 0 := (congrArg Int32.toInt (show f 0 48 = 0 from hf_0_48)).trans (by decide)
  have hF : sgK WkX12_slipsAs_7_f0_f7 f f := sgK.rf
  have blk_36 : ∀ (fp_36 : sg_F) (H : Heap) (locs : List Loc) (ls : Array Slot), sp = sX12_slipsAs_7_f0_f7_b36 x1 fp_36 L → 0 ≤ (fp_36 0 48).toInt ∧ (fp_36 0 48).toInt ≤ 0 → 7 ≤ (fp_36 0 49).toInt ∧ (fp_36 0 49).toInt ≤ 7 → sgI loM hiM fp_36 → sgK WkX12_slipsAs_7_f0_f7 f fp_36 → va_P D vwCl (sgw 26 h (eM ca h) fp_36 L Q) H → va_S (sgA 26 h s.heap.size) s.heap H locs → lv_has ls 4 [(0, .ref (h 0)), (2, .int x1)] → W p l e ({ frames := 3, cells := 0, slots := 0, locals := 65 }) s m ([.ref (h 0), .int 7, .int x1] : List Value).toArray below meth cd H locs 0 0 Qz (F0 m 36 ls []) := by
    intro fp_36 H locs ls hs hy0_36 hy1_36 hI hF hP hS hl
    obtain ⟨v_2, ev_2⟩ : ∃ z : Int32, z = fp_36 0 48 := ⟨_, rfl⟩
    have q_3 : 0 ≤ v_2.toInt ∧ v_2.toInt ≤ 19 := by rw [ev_2]; exact hI 0 48
    have q_4 : (fp_36 0 48).toInt = v_2.toInt := by rw [ev_2]
    obtain ⟨v_5, ev_5⟩ : ∃ z : Int32, z = fp_36 0 49 := ⟨_, rfl⟩
    have q_6 : 0 ≤ v_5.toInt ∧ v_5.toInt ≤ 7 := by rw [ev_5]; exact hI 0 49
    have q_7 : (fp_36 0 49).toInt = v_5.toInt := by rw [ev_5]
    have m_8 : fp_36 0 49 = 7 := (hF 0 49 (by decide)).trans hf_0_49
    refine lv_aload_n hx hb dX12_slipsAs_36 rfl (lv_at hl 0 rfl) ?_
    refine lv_bipush (v := 50) hx hb dX12_slipsAs_37 bp_50 ?_
    have c_9 : v_2 = 0 := Int32.toInt_inj.mp (by have k9 : (0 : Int32).toInt = 0 := ti_0; omega)
    have q_10 : (fp_36 0 48).toInt = 0 := (congrArg Int32.toInt (show fp_36 0 48 = 0 from (Eq.trans ev_2.symm c_9))).trans (by decide)
    refine sg_callv (va_runV (As := [.int 50]) (rest := []) ⟨hx, hb, hml, hown, hts⟩ (kX12_begins_50_f0 l D ca za h hh fp_36 L Q hI (Eq.trans ev_2.symm c_9) (by have k0 : (50 : Int32).toInt = 50 := ti_50; omega) H.size) (sl_c12_begins_0_0_0_0_12 hts ⟨Nat.le_of_ble_eq_true rfl, Nat.le_of_ble_eq_true rfl⟩) (sl_vM_0 hA hK hP hS hZ) rfl rfl hl.1 rfl (lv_room (Nat.le_of_ble_eq_true rfl)) dX12_slipsAs_39 ⟨Nat.le_refl _, Nat.le_refl _⟩) hA hS (fun f_12 L_13 Q_14 H locs hq hP hS => ?_)
    obtain ⟨⟨hI, hk_f_12, eL9, eQ9⟩, p_15, u_16⟩ := hq
    rw [eL9, eQ9] at hP; clear eL9 eQ9
    have hF : sgK WkX12_slipsAs_7_f0_f7 f f_12 := sgK.tr hF hk_f_12 (by decide +kernel)
    obtain ⟨v_17, ev_17⟩ : ∃ z : Int32, z = f_12 0 48 := ⟨_, rfl⟩
    have q_18 : 0 ≤ v_17.toInt ∧ v_17.toInt ≤ 19 := by rw [ev_17]; exact hI 0 48
    have q_19 : (f_12 0 48).toInt = v_17.toInt := (congrArg Int32.toInt (show f_12 0 48 = v_17 from ev_17.symm))
    refine lv_aload_n hx hb dX12_slipsAs_42 rfl (lv_at hl 0 rfl) ?_
    refine lv_iconst (v := 1) hx hb dX12_slipsAs_43 ic_1 ?_
    refine lv_iload_n hx hb dX12_slipsAs_44 rfl (lv_at hl 1 rfl) ?_
    have c_21 : v_17 = 1 := Int32.toInt_inj.mp (by have k9 : (1 : Int32).toInt = 1 := ti_1; omega)
    have q_22 : (f_12 0 48).toInt = 1 := (congrArg Int32.toInt (show f_12 0 48 = 1 from (Eq.trans ev_17.symm c_21))).trans (by decide)
    refine sg_calli (va_runV (As := [.int 1, .int x1]) (rest := []) ⟨hx, hb, hml, hown, hts⟩ (kX12_slipsAs_1_f1_f7 l D ca za h hh f_12 L Q hI x1 (Eq.trans ev_17.symm c_21) ((hk_f_12 0 49 (by decide)).trans m_8) (by have k0 : (1 : Int32).toInt = 1 := ti_1; omega) H.size) (sl_c12_slipsAs_1_0_0_21_12 hts ⟨Nat.le_of_ble_eq_true rfl, Nat.le_of_ble_eq_true rfl⟩) (sl_vM_0 hA hK hP hS hZ) rfl rfl hl.1 rfl (lv_room (Nat.le_of_ble_eq_true rfl)) dX12_slipsAs_45 ⟨Nat.le_refl _, Nat.le_refl _⟩) hA hS (fun r_27 f_24 L_25 Q_26 H locs hq hP hS => ?_)
    obtain ⟨⟨hI, hk_f_24, eL9, eQ9⟩, hq, p_28, u_29⟩ := hq
    rw [eL9, eQ9] at hP; clear eL9 eQ9
    have hF : sgK WkX12_slipsAs_7_f0_f7 f f_24 := sgK.tr hF hk_f_24 (by decide +kernel)
    obtain ⟨v_30, ev_30⟩ : ∃ z : Int32, z = f_24 0 48 := ⟨_, rfl⟩
    have q_31 : 0 ≤ v_30.toInt ∧ v_30.toInt ≤ 19 := by rw [ev_30]; exact hI 0 48
    have q_32 : (f_24 0 48).toInt = v_30.toInt := (congrArg Int32.toInt (show f_24 0 48 = v_30 from ev_30.symm))
    have k_34 : (1 : Int32).toInt = 1 := by decide
    refine lv_istore_n (lv' := [(3, .int r_27), (0, .ref (h 0)), (2, .int x1)]) hx hb dX12_slipsAs_48 rfl hl (by decide) rfl (fun ls hl => ?_)
    refine lv_iload_n hx hb dX12_slipsAs_49 rfl (lv_at hl 0 rfl) ?_
    refine lv_aload_n hx hb dX12_slipsAs_50 rfl (lv_at hl 1 rfl) ?_
    refine lv_aload_n hx hb dX12_slipsAs_51 rfl (lv_at hl 1 rfl) ?_
    refine sl_gM_0_49_12 (v := 7) hx hb hts hown hK hP (show f_24 0 49 = 7 from ((hk_f_24 0 49 (by decide)).trans ((hk_f_12 0 49 (by decide)).trans m_8))) dX12_slipsAs_52 ?_
    refine lv_iconst (v := 2) hx hb dX12_slipsAs_55 ic_2 ?_
    have c_35 : v_30 = 2 := Int32.toInt_inj.mp (by have k9 : (2 : Int32).toInt = 2 := ti_2; omega)
    have q_36 : (f_24 0 48).toInt = 2 := (congrArg Int32.toInt (show f_24 0 48 = 2 from (Eq.trans ev_30.symm c_35))).trans (by decide)
    refine sg_calli (va_runV (As := [.int 7, .int 2]) (rest := [.int r_27]) ⟨hx, hb, hml, hown, hts⟩ (kX12_setsAs_7_f2_f7 l D ca za h hh f_24 L Q hI 2 (Eq.trans ev_30.symm c_35) ((hk_f_24 0 49 (by decide)).trans ((hk_f_12 0 49 (by decide)).trans m_8)) (by have k0 : (7 : Int32).toInt = 7 := ti_7; have k1 : (2 : Int32).toInt = 2 := ti_2; omega) H.size) (sl_c12_setsAs_2_0_0_43_12 hts ⟨Nat.le_of_ble_eq_true rfl, Nat.le_of_ble_eq_true rfl⟩) (sl_vM_0 hA hK hP hS hZ) rfl rfl hl.1 rfl (lv_room (Nat.le_of_ble_eq_true rfl)) dX12_slipsAs_56 ⟨Nat.le_refl _, Nat.le_refl _⟩) hA hS (fun r_41 f_38 L_39 Q_40 H locs hq hP hS => ?_)
    obtain ⟨⟨hI, hk_f_38, eL9, eQ9⟩, hq, p_42, u_43⟩ := hq
    rw [eL9, eQ9] at hP; clear eL9 eQ9
    have hF : sgK WkX12_slipsAs_7_f0_f7 f f_38 := sgK.tr hF hk_f_38 (by decide +kernel)
    obtain ⟨v_44, ev_44⟩ : ∃ z : Int32, z = f_38 0 48 := ⟨_, rfl⟩
    have q_45 : 0 ≤ v_44.toInt ∧ v_44.toInt ≤ 19 := by rw [ev_44]; exact hI 0 48
    have q_46 : (f_38 0 48).toInt = v_44.toInt := (congrArg Int32.toInt (show f_38 0 48 = v_44 from ev_44.symm))
    have k_48 : (7 : Int32).toInt = 7 := by decide
    have k_49 : (2 : Int32).toInt = 2 := by decide
    refine lv_isub hx hb dX12_slipsAs_59 ?_
    refine lv_topi (fun v_50 ev_50 => ?_)
    exact hret _ _ _ _ (v_50) f_38 L Q dX12_slipsAs_60 hP hS ⟨⟨hI, hF, rfl, rfl⟩, trivial, ⟨by omega, by omega⟩, (Eq.trans (Eq.symm (hs.trans ((spl_e ev_2 (spl_e ev_5 (spl_e u_16 (spl_e ev_17 (spl2_e u_29 (spl_e ev_30 (spl2_e u_43 (spl_e ev_44 (spl_e ev_50 rfl)))))))))))) hsp)⟩
  refine lv_iload_n hx hb dX12_slipsAs_0 rfl (lv_at hl 1 rfl) ?_
  refine lv_iconst (v := 3) hx hb dX12_slipsAs_1 ic_3 ?_
  refine lv_icmp_eq (tgt := 10) hx hb dX12_slipsAs_2 (by decide) (fun c => absurd c (by decide)) (fun c => ?_)
  refine lv_iload_n hx hb dX12_slipsAs_5 rfl (lv_at hl 1 rfl) ?_
  refine lv_iconst (v := 5) hx hb dX12_slipsAs_6 ic_5 ?_
  refine lv_icmp_ne (tgt := 25) hx hb dX12_slipsAs_7 (by decide) (fun c => ?_) (fun c => absurd c (by decide))
  refine lv_iload_n hx hb dX12_slipsAs_25 rfl (lv_at hl 1 rfl) ?_
  refine lv_iconst (v := 4) hx hb dX12_slipsAs_26 ic_4 ?_
  refine lv_icmp_eq (tgt := 36) hx hb dX12_slipsAs_27 (by decide) (fun c => absurd c (by decide)) (fun c => ?_)
  refine lv_iload_n hx hb dX12_slipsAs_30 rfl (lv_at hl 1 rfl) ?_
  refine lv_bipush (v := 7) hx hb dX12_slipsAs_31 bp_7 ?_
  refine lv_icmp_ne (tgt := 61) hx hb dX12_slipsAs_33 (by decide) (fun c => absurd c (by decide)) (fun c => ?_)
  exact blk_36 f _ _ _ hs (by have zz0_48 : (f 0 48).toInt = 0 := (congrArg Int32.toInt (show f 0 48 = 0 from hf_0_48)).trans (by decide); exact ⟨by omega, by omega⟩) (by have zz0_49 : (f 0 49).toInt = 7 := (congrArg Int32.toInt (show f 0 49 = 7 from hf_0_49)).trans (by decide); exact ⟨by omega, by omega⟩) hI hF hP hS (lv_sub hl [0, 2] rfl)

abbrev WkX12_begins_2_f0 : List (Nat × Nat × Option Nat) := [(0, 0, some 48), (21, 21, some 0)]
set_option maxHeartbeats 4000000 in
set_option maxRecDepth 100000 in
theorem kX12_begins_2_f0 (l : Launch) (D : va_G) (ca : Nat → ClassId) (za h : Nat → Nat) (hh : sgH 26 h) (f : sg_F) (L : sg_L) (Q : sg_Q) (hI : sgI loM hiM f) (hf_0_48 : f 0 48 = 0) (p0 : 0 ≤ (f 0 48).toInt ∧ (f 0 48).toInt ≤ 0) (sz : Nat) : Met l yX12_begins gwX12_begins { frames := 0, cells := 0, slots := 0, locals := 0 } (sgP D vwCl (tyX ca) 26 h (eM ca h) zcM za f L Q sz [.ref (h 0), .int 2]) (sgQv D vwCl 26 h (eM ca h) sz (fun f1 L1 Q1 => ((sgI loM hiM f1 ∧ sgK WkX12_begins_2_f0 f f1 ∧ L1 = L ∧ Q1 = Q) ∧ (1 ≤ (f1 0 48).toInt ∧ (f1 0 48).toInt ≤ 1) ∧ (f1) = sX12_begins_2_f0 f L))) 0 0 (sgA 26 h sz) := by
  refine sg_ofWv (cc := cX12_begins) (maxL := 2) RX12 (by decide) rfl rfl (Nat.le_of_ble_eq_true rfl) ?_
  intro p e s m below meth cd Qz ls hx hb hml hown hts hK hZ hP hS hl hret
  have hA := sgY.self (n := 26) (h := h) (sz := s.heap.size)
  have hl : lv_has ls 2 [(0, .ref (h 0)), (1, .int 2)] := hl
  obtain ⟨H, hH⟩ : ∃ z : Heap, z = s.heap := ⟨_, rfl⟩
  obtain ⟨locs, hlo⟩ : ∃ z : List Loc, z = [] := ⟨_, rfl⟩
  have hP : va_P D vwCl (sgw 26 h (eM ca h) f L Q) H := by rw [hH]; exact hP
  have hS : va_S (sgA 26 h s.heap.size) s.heap H locs := by rw [hH, hlo]; exact hS
  suffices hgo : W p l e ({ frames := 0, cells := 0, slots := 0, locals := 0 }) s m ([.ref (h 0), .int 2] : List Value).toArray below meth cd H locs 0 0 Qz (F0 m 0 ls []) by rw [hH, hlo] at hgo; exact hgo
  clear hH hlo
  obtain ⟨sp, hsp⟩ : ∃ z : sg_F, z = sX12_begins_2_f0 f L := ⟨_, rfl⟩
  have hs : sp = sX12_begins_2_f0 f L := hsp
  have o_1 : (f 0 48).toInt = 0 := (congrArg Int32.toInt (show f 0 48 = 0 from hf_0_48)).trans (by decide)
  have hF : sgK WkX12_begins_2_f0 f f := sgK.rf
  have blk_19 : ∀ (fp_19 : sg_F) (H : Heap) (locs : List Loc) (ls : Array Slot), sp = sX12_begins_2_f0_b19 fp_19 L → 0 ≤ (fp_19 0 48).toInt ∧ (fp_19 0 48).toInt ≤ 0 → sgI loM hiM fp_19 → sgK WkX12_begins_2_f0 f fp_19 → va_P D vwCl (sgw 26 h (eM ca h) fp_19 L Q) H → va_S (sgA 26 h s.heap.size) s.heap H locs → lv_has ls 2 [(0, .ref (h 0))] → W p l e ({ frames := 0, cells := 0, slots := 0, locals := 0 }) s m ([.ref (h 0), .int 2] : List Value).toArray below meth cd H locs 0 0 Qz (F0 m 19 ls []) := by
    intro fp_19 H locs ls hs hy0_19 hI hF hP hS hl
    obtain ⟨v_2, ev_2⟩ : ∃ z : Int32, z = fp_19 0 48 := ⟨_, rfl⟩
    have q_3 : 0 ≤ v_2.toInt ∧ v_2.toInt ≤ 19 := by rw [ev_2]; exact hI 0 48
    have q_4 : (fp_19 0 48).toInt = v_2.toInt := by rw [ev_2]
    refine lv_aload_n hx hb dX12_begins_19 rfl (lv_at hl 0 rfl) ?_
    refine lv_dup hx hb dX12_begins_20 rfl ?_
    refine sl_gM_0_48_12 (v := v_2) hx hb hts hown hK hP (show fp_19 0 48 = v_2 from ev_2.symm) dX12_begins_21 ?_
    refine lv_iconst (v := 1) hx hb dX12_begins_24 ic_1 ?_
    refine lv_iadd hx hb dX12_begins_25 ?_
    refine lv_topi (fun v_5 ev_5 => ?_)
    have q_6 : v_5.toInt = v_2.toInt + 1 := by rw [ev_5]; first | exact cm_add ti_1 (by omega) (by omega) | (have k1 : (1 : Int32).toInt = 1 := ti_1; exact (bn_addI (by omega) (by omega)).trans (by omega))
    refine sl_pM_0_48_12 (x := v_5) hx hb hts hown hh hA hK hP hS dX12_begins_26 (fun f_7 H locs ef_7 hP hS => ?_)
    have hI : sgI loM hiM f_7 := by rw [ef_7]; exact sgI.put hI 0 48 (show 0 ≤ (v_5 : Int32).toInt ∧ (v_5 : Int32).toInt ≤ 19 from ⟨by omega, by omega⟩)
    have hF : sgK WkX12_begins_2_f0 f f_7 := sgK.put hF ef_7 (by rfl)
    have q_8 : (f_7 0 48).toInt = v_5.toInt := (congrArg Int32.toInt (show f_7 0 48 = v_5 from (by rw [ef_7, sg_up_s, sgu_s])))
    exact hret _ _ _ _ f_7 L Q dX12_begins_29 hP hS ⟨⟨hI, hF, rfl, rfl⟩, ⟨by omega, by omega⟩, (Eq.trans (Eq.symm (hs.trans ((spl_e ev_2 (spl_e ev_5 (spl_e ef_7 rfl)))))) hsp)⟩
  refine lv_aload_n hx hb dX12_begins_0 rfl (lv_at hl 0 rfl) ?_
  refine sl_gM_0_48_12 (v := 0) hx hb hts hown hK hP (show f 0 48 = 0 from hf_0_48) dX12_begins_1 ?_
  refine lv_bipush (v := 24) hx hb dX12_begins_4 bp_24 ?_
  refine lv_icmp_ge (tgt := 19) hx hb dX12_begins_6 (by decide) (fun c => absurd c (by decide)) (fun c => ?_)
  refine lv_aload_n hx hb dX12_begins_9 rfl (lv_at hl 0 rfl) ?_
  refine sl_gM_0_47_12 hx hb hts hown hK hP dX12_begins_10 ?_
  refine lv_aload_n hx hb dX12_begins_13 rfl (lv_at hl 0 rfl) ?_
  refine sl_gM_0_48_12 (v := 0) hx hb hts hown hK hP (show f 0 48 = 0 from hf_0_48) dX12_begins_14 ?_
  refine lv_iload_n hx hb dX12_begins_17 rfl (lv_at hl 1 rfl) ?_
  refine sg_iast hx hb hh hA hK hP hS 21 (by decide) 0 (fun _ => rfl) rfl (i := 0) (x := 2) (vp_in_iff.mpr (by decide)) dX12_begins_18 (fun f_10 H locs ef_10 hP hS => ?_)
  have ef_10 : f_10 = sg_up f 21 (sgu (f 21) 0 2) := ef_10
  have hI : sgI loM hiM f_10 := by rw [ef_10]; exact sgI.put hI 21 0 (show 0 ≤ (2 : Int32).toInt ∧ (2 : Int32).toInt ≤ 81 from by decide)
  have hF : sgK WkX12_begins_2_f0 f f_10 := sgK.put hF ef_10 (by rfl)
  exact blk_19 f_10 _ _ _ (hs.trans ((spl_e ef_10 rfl))) (by have zz0_48 : (f_10 0 48).toInt = 0 := (congrArg Int32.toInt (show f_10 0 48 = 0 from (by rw [ef_10, sg_up_n (by decide)]; exact hf_0_48))).trans (by decide); exact ⟨by omega, by omega⟩) hI hF hP hS (lv_sub hl [0] rfl)

abbrev WkX12_setsAs_0_f2_f0 : List (Nat × Nat × Option Nat) := [(0, 0, some 48), (21, 21, some 2)]
set_option maxHeartbeats 4000000 in
set_option maxRecDepth 100000 in
theorem kX12_setsAs_0_f2_f0 (l : Launch) (D : va_G) (ca : Nat → ClassId) (za h : Nat → Nat) (hh : sgH 26 h) (f : sg_F) (L : sg_L) (Q : sg_Q) (hI : sgI loM hiM f) (x1 : Int32) (hf_0_48 : f 0 48 = 2) (hf_0_49 : f 0 49 = 0) (p0 : 2 ≤ (f 0 48).toInt ∧ (f 0 48).toInt ≤ 2) (sz : Nat) : Met l yX12_setsAs gwX12_setsAs { frames := 1, cells := 0, slots := 0, locals := 21 } (sgP D vwCl (tyX ca) 26 h (eM ca h) zcM za f L Q sz [.ref (h 0), .int 0, .int x1]) (sgQi D vwCl 26 h (eM ca h) sz (fun r f1 L1 Q1 => ((sgI loM hiM f1 ∧ sgK WkX12_setsAs_0_f2_f0 f f1 ∧ L1 = L ∧ Q1 = Q) ∧ True ∧ (3 ≤ (f1 0 48).toInt ∧ (f1 0 48).toInt ≤ 3) ∧ (r, f1) = sX12_setsAs_0_f2_f0 x1 f L))) 0 0 (sgA 26 h sz) := by
  refine sg_ofWi (cc := cX12_setsAs) (maxL := 3) RX12 (by decide) rfl rfl (Nat.le_of_ble_eq_true rfl) ?_
  intro p e s m below meth cd Qz ls hx hb hml hown hts hK hZ hP hS hl hret
  have hA := sgY.self (n := 26) (h := h) (sz := s.heap.size)
  have hl : lv_has ls 3 [(0, .ref (h 0)), (1, .int 0), (2, .int x1)] := hl
  obtain ⟨H, hH⟩ : ∃ z : Heap, z = s.heap := ⟨_, rfl⟩
  obtain ⟨locs, hlo⟩ : ∃ z : List Loc, z = [] := ⟨_, rfl⟩
  have hP : va_P D vwCl (sgw 26 h (eM ca h) f L Q) H := by rw [hH]; exact hP
  have hS : va_S (sgA 26 h s.heap.size) s.heap H locs := by rw [hH, hlo]; exact hS
  suffices hgo : W p l e ({ frames := 1, cells := 0, slots := 0, locals := 21 }) s m ([.ref (h 0), .int 0, .int x1] : List Value).toArray below meth cd H locs 0 0 Qz (F0 m 0 ls []) by rw [hH, hlo] at hgo; exact hgo
  clear hH hlo
  obtain ⟨sp, hsp⟩ : ∃ z : Int32 × sg_F, z = sX12_setsAs_0_f2_f0 x1 f L := ⟨_, rfl⟩
  have hs : sp = sX12_setsAs_0_f2_f0 x1 f L := hsp
  have o_1 : (f 0 48).toInt = 2 := (congrArg Int32.toInt (show f 0 48 = 2 from hf_0_48)).trans (by decide)
  have hF : sgK WkX12_setsAs_0_f2_f0 f f := sgK.rf
  refine lv_iload_n hx hb dX12_setsAs_0 rfl (lv_at hl 1 rfl) ?_
  refine lv_iconst (v := 1) hx hb dX12_setsAs_1 ic_1 ?_
  refine lv_icmp_eq (tgt := 16) hx hb dX12_setsAs_2 (by decide) (fun c => absurd c (by decide)) (fun c => ?_)
  refine lv_iload_n hx hb dX12_setsAs_5 rfl (lv_at hl 1 rfl) ?_
  refine lv_iconst (v := 4) hx hb dX12_setsAs_6 ic_4 ?_
  refine lv_icmp_eq (tgt := 16) hx hb dX12_setsAs_7 (by decide) (fun c => absurd c (by decide)) (fun c => ?_)
  refine lv_iload_n hx hb dX12_setsAs_10 rfl (lv_at hl 1 rfl) ?_
  refine lv_bipush (v := 7) hx hb dX12_setsAs_11 bp_7 ?_
  refine lv_icmp_ne (tgt := 31) hx hb dX12_setsAs_13 (by decide) (fun c => ?_) (fun c => absurd c (by decide))
  refine lv_iload_n hx hb dX12_setsAs_31 rfl (lv_at hl 1 rfl) ?_
  refine lv_bipush (v := 6) hx hb dX12_setsAs_32 bp_6 ?_
  refine lv_icmp_ne (tgt := 52) hx hb dX12_setsAs_34 (by decide) (fun c => ?_) (fun c => absurd c (by decide))
  refine lv_aload_n hx hb dX12_setsAs_52 rfl (lv_at hl 0 rfl) ?_
  refine lv_iconst (v := 1) hx hb dX12_setsAs_53 ic_1 ?_
  have q_2 : (f 0 48).toInt = 2 := (congrArg Int32.toInt (show f 0 48 = 2 from hf_0_48)).trans (by decide)
  refine sg_callv (va_runV (As := [.int 1]) (rest := []) ⟨hx, hb, hml, hown, hts⟩ (kX12_begins_1_f2 l D ca za h hh f L Q hI hf_0_48 (by have k0 : (1 : Int32).toInt = 1 := ti_1; omega) H.size) (sl_c12_begins_0_0_0_0_12 hts ⟨Nat.le_of_ble_eq_true rfl, Nat.le_of_ble_eq_true rfl⟩) (sl_vM_0 hA hK hP hS hZ) rfl rfl hl.1 rfl (lv_room (Nat.le_of_ble_eq_true rfl)) dX12_setsAs_54 ⟨Nat.le_refl _, Nat.le_refl _⟩) hA hS (fun f_4 L_5 Q_6 H locs hq hP hS => ?_)
  obtain ⟨⟨hI, hk_f_4, eL9, eQ9⟩, p_7, u_8⟩ := hq
  rw [eL9, eQ9] at hP; clear eL9 eQ9
  have hF : sgK WkX12_setsAs_0_f2_f0 f f_4 := sgK.tr hF hk_f_4 (by decide +kernel)
  obtain ⟨v_9, ev_9⟩ : ∃ z : Int32, z = f_4 0 48 := ⟨_, rfl⟩
  have q_10 : 0 ≤ v_9.toInt ∧ v_9.toInt ≤ 19 := by rw [ev_9]; exact hI 0 48
  have q_11 : (f_4 0 48).toInt = v_9.toInt := (congrArg Int32.toInt (show f_4 0 48 = v_9 from ev_9.symm))
  refine lv_iload_n hx hb dX12_setsAs_57 rfl (lv_at hl 2 rfl) ?_
  refine lv_aload_n hx hb dX12_setsAs_58 rfl (lv_at hl 0 rfl) ?_
  refine sl_gM_0_50_12 (v := (f_4 0 50)) hx hb hts hown hK hP rfl dX12_setsAs_59 ?_
  refine lv_topi (fun v_13 ev_13 => ?_)
  have q_14 : 0 ≤ v_13.toInt ∧ v_13.toInt ≤ 49 := by rw [ev_13]; exact hI 0 50
  refine lv_iadd hx hb dX12_setsAs_62 ?_
  refine lv_topi (fun v_15 ev_15 => ?_)
  exact hret _ _ _ _ (v_15) f_4 L Q dX12_setsAs_63 hP hS ⟨⟨hI, hF, rfl, rfl⟩, trivial, ⟨by omega, by omega⟩, (Eq.trans (Eq.symm (hs.trans ((spl_e u_8 (spl_e ev_9 (spl_e ev_13 (spl_e ev_15 rfl))))))) hsp)⟩

abbrev WkX12_sitsAs_0_f1_f0 : List (Nat × Nat × Option Nat) := [(0, 0, some 48), (21, 21, some 1), (21, 21, some 2)]
set_option maxHeartbeats 4000000 in
set_option maxRecDepth 100000 in
theorem kX12_sitsAs_0_f1_f0 (l : Launch) (D : va_G) (ca : Nat → ClassId) (za h : Nat → Nat) (hh : sgH 26 h) (f : sg_F) (L : sg_L) (Q : sg_Q) (hI : sgI loM hiM f) (x1 : Int32) (hf_0_48 : f 0 48 = 1) (hf_0_49 : f 0 49 = 0) (p0 : 1 ≤ (f 0 48).toInt ∧ (f 0 48).toInt ≤ 1) (sz : Nat) : Met l yX12_sitsAs gwX12_sitsAs { frames := 2, cells := 0, slots := 0, locals := 43 } (sgP D vwCl (tyX ca) 26 h (eM ca h) zcM za f L Q sz [.ref (h 0), .int 0, .int x1]) (sgQi D vwCl 26 h (eM ca h) sz (fun r f1 L1 Q1 => ((sgI loM hiM f1 ∧ sgK WkX12_sitsAs_0_f1_f0 f f1 ∧ L1 = L ∧ Q1 = Q) ∧ True ∧ (3 ≤ (f1 0 48).toInt ∧ (f1 0 48).toInt ≤ 3) ∧ (r, f1) = sX12_sitsAs_0_f1_f0 x1 f L))) 0 0 (sgA 26 h sz) := by
  refine sg_ofWi (cc := cX12_sitsAs) (maxL := 4) RX12 (by decide) rfl rfl (Nat.le_of_ble_eq_true rfl) ?_
  intro p e s m below meth cd Qz ls hx hb hml hown hts hK hZ hP hS hl hret
  have hA := sgY.self (n := 26) (h := h) (sz := s.heap.size)
  have hl : lv_has ls 4 [(0, .ref (h 0)), (1, .int 0), (2, .int x1)] := hl
  obtain ⟨H, hH⟩ : ∃ z : Heap, z = s.heap := ⟨_, rfl⟩
  obtain ⟨locs, hlo⟩ : ∃ z : List Loc, z = [] := ⟨_, rfl⟩
  have hP : va_P D vwCl (sgw 26 h (eM ca h) f L Q) H := by rw [hH]; exact hP
  have hS : va_S (sgA 26 h s.heap.size) s.heap H locs := by rw [hH, hlo]; exact hS
  suffices hgo : W p l e ({ frames := 2, cells := 0, slots := 0, locals := 43 }) s m ([.ref (h 0), .int 0, .int x1] : List Value).toArray below meth cd H locs 0 0 Qz (F0 m 0 ls []) by rw [hH, hlo] at hgo; exact hgo
  clear hH hlo
  obtain ⟨sp, hsp⟩ : ∃ z : Int32 × sg_F, z = sX12_sitsAs_0_f1_f0 x1 f L := ⟨_, rfl⟩
  have hs : sp = sX12_sitsAs_0_f1_f0 x1 f L := hsp
  have o_1 : (f 0 48).toInt = 1 := (congrArg Int32.toInt (show f 0 48 = 1 from hf_0_48)).trans (by decide)
  have hF : sgK WkX12_sitsAs_0_f1_f0 f f := sgK.rf
  refine lv_iload_n hx hb dX12_sitsAs_0 rfl (lv_at hl 1 rfl) ?_
  refine lv_iconst (v := 3) hx hb dX12_sitsAs_1 ic_3 ?_
  refine lv_icmp_eq (tgt := 10) hx hb dX12_sitsAs_2 (by decide) (fun c => absurd c (by decide)) (fun c => ?_)
  refine lv_iload_n hx hb dX12_sitsAs_5 rfl (lv_at hl 1 rfl) ?_
  refine lv_iconst (v := 5) hx hb dX12_sitsAs_6 ic_5 ?_
  refine lv_icmp_ne (tgt := 25) hx hb dX12_sitsAs_7 (by decide) (fun c => ?_) (fun c => absurd c (by decide))
  refine lv_iload_n hx hb dX12_sitsAs_25 rfl (lv_at hl 1 rfl) ?_
  refine lv_iconst (v := 2) hx hb dX12_sitsAs_26 ic_2 ?_
  refine lv_icmp_ne (tgt := 44) hx hb dX12_sitsAs_27 (by decide) (fun c => ?_) (fun c => absurd c (by decide))
  refine lv_iload_n hx hb dX12_sitsAs_44 rfl (lv_at hl 1 rfl) ?_
  refine lv_bipush (v := 7) hx hb dX12_sitsAs_45 bp_7 ?_
  refine lv_icmp_ne (tgt := 75) hx hb dX12_sitsAs_47 (by decide) (fun c => ?_) (fun c => absurd c (by decide))
  refine lv_aload_n hx hb dX12_sitsAs_75 rfl (lv_at hl 0 rfl) ?_
  refine lv_bipush (v := 10) hx hb dX12_sitsAs_76 bp_10 ?_
  have q_2 : (f 0 48).toInt = 1 := (congrArg Int32.toInt (show f 0 48 = 1 from hf_0_48)).trans (by decide)
  refine sg_callv (va_runV (As := [.int 10]) (rest := []) ⟨hx, hb, hml, hown, hts⟩ (kX12_begins_10_f1 l D ca za h hh f L Q hI hf_0_48 (by have k0 : (10 : Int32).toInt = 10 := ti_10; omega) H.size) (sl_c12_begins_0_0_0_0_12 hts ⟨Nat.le_of_ble_eq_true rfl, Nat.le_of_ble_eq_true rfl⟩) (sl_vM_0 hA hK hP hS hZ) rfl rfl hl.1 rfl (lv_room (Nat.le_of_ble_eq_true rfl)) dX12_sitsAs_78 ⟨Nat.le_refl _, Nat.le_refl _⟩) hA hS (fun f_4 L_5 Q_6 H locs hq hP hS => ?_)
  obtain ⟨⟨hI, hk_f_4, eL9, eQ9⟩, p_7, u_8⟩ := hq
  rw [eL9, eQ9] at hP; clear eL9 eQ9
  have hF : sgK WkX12_sitsAs_0_f1_f0 f f_4 := sgK.tr hF hk_f_4 (by decide +kernel)
  obtain ⟨v_9, ev_9⟩ : ∃ z : Int32, z = f_4 0 48 := ⟨_, rfl⟩
  have q_10 : 0 ≤ v_9.toInt ∧ v_9.toInt ≤ 19 := by rw [ev_9]; exact hI 0 48
  have q_11 : (f_4 0 48).toInt = v_9.toInt := (congrArg Int32.toInt (show f_4 0 48 = v_9 from ev_9.symm))
  refine lv_aload_n hx hb dX12_sitsAs_81 rfl (lv_at hl 0 rfl) ?_
  refine lv_aload_n hx hb dX12_sitsAs_82 rfl (lv_at hl 0 rfl) ?_
  refine sl_gM_0_49_12 (v := 0) hx hb hts hown hK hP (show f_4 0 49 = 0 from ((hk_f_4 0 49 (by decide)).trans hf_0_49)) dX12_sitsAs_83 ?_
  refine lv_iload_n hx hb dX12_sitsAs_86 rfl (lv_at hl 2 rfl) ?_
  have c_13 : v_9 = 2 := Int32.toInt_inj.mp (by have k9 : (2 : Int32).toInt = 2 := ti_2; omega)
  have q_14 : (f_4 0 48).toInt = 2 := (congrArg Int32.toInt (show f_4 0 48 = 2 from (Eq.trans ev_9.symm c_13))).trans (by decide)
  refine sg_calli (va_runV (As := [.int 0, .int x1]) (rest := []) ⟨hx, hb, hml, hown, hts⟩ (kX12_setsAs_0_f2_f0 l D ca za h hh f_4 L Q hI x1 (Eq.trans ev_9.symm c_13) ((hk_f_4 0 49 (by decide)).trans hf_0_49) (by have k0 : (0 : Int32).toInt = 0 := ti_0; omega) H.size) (sl_c12_setsAs_1_0_0_21_12 hts ⟨Nat.le_of_ble_eq_true rfl, Nat.le_of_ble_eq_true rfl⟩) (sl_vM_0 hA hK hP hS hZ) rfl rfl hl.1 rfl (lv_room (Nat.le_of_ble_eq_true rfl)) dX12_sitsAs_87 ⟨Nat.le_refl _, Nat.le_refl _⟩) hA hS (fun r_19 f_16 L_17 Q_18 H locs hq hP hS => ?_)
  obtain ⟨⟨hI, hk_f_16, eL9, eQ9⟩, hq, p_20, u_21⟩ := hq
  rw [eL9, eQ9] at hP; clear eL9 eQ9
  have hF : sgK WkX12_sitsAs_0_f1_f0 f f_16 := sgK.tr hF hk_f_16 (by decide +kernel)
  obtain ⟨v_22, ev_22⟩ : ∃ z : Int32, z = f_16 0 48 := ⟨_, rfl⟩
  have q_23 : 0 ≤ v_22.toInt ∧ v_22.toInt ≤ 19 := by rw [ev_22]; exact hI 0 48
  have q_24 : (f_16 0 48).toInt = v_22.toInt := (congrArg Int32.toInt (show f_16 0 48 = v_22 from ev_22.symm))
  have k_26 : (0 : Int32).toInt = 0 := by decide
  refine lv_iconst (v := 2) hx hb dX12_sitsAs_90 ic_2 ?_
  refine lv_imul hx hb dX12_sitsAs_91 ?_
  refine lv_topi (fun v_27 ev_27 => ?_)
  exact hret _ _ _ _ (v_27) f_16 L Q dX12_sitsAs_92 hP hS ⟨⟨hI, hF, rfl, rfl⟩, trivial, ⟨by omega, by omega⟩, (Eq.trans (Eq.symm (hs.trans ((spl_e u_8 (spl_e ev_9 (spl2_e u_21 (spl_e ev_22 (spl_e ev_27 rfl)))))))) hsp)⟩

abbrev WkX12_begins_11_f3 : List (Nat × Nat × Option Nat) := [(0, 0, some 48), (21, 21, some 3)]
set_option maxHeartbeats 4000000 in
set_option maxRecDepth 100000 in
theorem kX12_begins_11_f3 (l : Launch) (D : va_G) (ca : Nat → ClassId) (za h : Nat → Nat) (hh : sgH 26 h) (f : sg_F) (L : sg_L) (Q : sg_Q) (hI : sgI loM hiM f) (hf_0_48 : f 0 48 = 3) (p0 : 3 ≤ (f 0 48).toInt ∧ (f 0 48).toInt ≤ 3) (sz : Nat) : Met l yX12_begins gwX12_begins { frames := 0, cells := 0, slots := 0, locals := 0 } (sgP D vwCl (tyX ca) 26 h (eM ca h) zcM za f L Q sz [.ref (h 0), .int 11]) (sgQv D vwCl 26 h (eM ca h) sz (fun f1 L1 Q1 => ((sgI loM hiM f1 ∧ sgK WkX12_begins_11_f3 f f1 ∧ L1 = L ∧ Q1 = Q) ∧ (4 ≤ (f1 0 48).toInt ∧ (f1 0 48).toInt ≤ 4) ∧ (f1) = sX12_begins_11_f3 f L))) 0 0 (sgA 26 h sz) := by
  refine sg_ofWv (cc := cX12_begins) (maxL := 2) RX12 (by decide) rfl rfl (Nat.le_of_ble_eq_true rfl) ?_
  intro p e s m below meth cd Qz ls hx hb hml hown hts hK hZ hP hS hl hret
  have hA := sgY.self (n := 26) (h := h) (sz := s.heap.size)
  have hl : lv_has ls 2 [(0, .ref (h 0)), (1, .int 11)] := hl
  obtain ⟨H, hH⟩ : ∃ z : Heap, z = s.heap := ⟨_, rfl⟩
  obtain ⟨locs, hlo⟩ : ∃ z : List Loc, z = [] := ⟨_, rfl⟩
  have hP : va_P D vwCl (sgw 26 h (eM ca h) f L Q) H := by rw [hH]; exact hP
  have hS : va_S (sgA 26 h s.heap.size) s.heap H locs := by rw [hH, hlo]; exact hS
  suffices hgo : W p l e ({ frames := 0, cells := 0, slots := 0, locals := 0 }) s m ([.ref (h 0), .int 11] : List Value).toArray below meth cd H locs 0 0 Qz (F0 m 0 ls []) by rw [hH, hlo] at hgo; exact hgo
  clear hH hlo
  obtain ⟨sp, hsp⟩ : ∃ z : sg_F, z = sX12_begins_11_f3 f L := ⟨_, rfl⟩
  have hs : sp = sX12_begins_11_f3 f L := hsp
  have o_1 : (f 0 48).toInt = 3 := (congrArg Int32.toInt (show f 0 48 = 3 from hf_0_48)).trans (by decide)
  have hF : sgK WkX12_begins_11_f3 f f := sgK.rf
  have blk_19 : ∀ (fp_19 : sg_F) (H : Heap) (locs : List Loc) (ls : Array Slot), sp = sX12_begins_11_f3_b19 fp_19 L → 3 ≤ (fp_19 0 48).toInt ∧ (fp_19 0 48).toInt ≤ 3 → sgI loM hiM fp_19 → sgK WkX12_begins_11_f3 f fp_19 → va_P D vwCl (sgw 26 h (eM ca h) fp_19 L Q) H → va_S (sgA 26 h s.heap.size) s.heap H locs → lv_has ls 2 [(0, .ref (h 0))] → W p l e ({ frames := 0, cells := 0, slots := 0, locals := 0 }) s m ([.ref (h 0), .int 11] : List Value).toArray below meth cd H locs 0 0 Qz (F0 m 19 ls []) := by
    intro fp_19 H locs ls hs hy0_19 hI hF hP hS hl
    obtain ⟨v_2, ev_2⟩ : ∃ z : Int32, z = fp_19 0 48 := ⟨_, rfl⟩
    have q_3 : 0 ≤ v_2.toInt ∧ v_2.toInt ≤ 19 := by rw [ev_2]; exact hI 0 48
    have q_4 : (fp_19 0 48).toInt = v_2.toInt := by rw [ev_2]
    refine lv_aload_n hx hb dX12_begins_19 rfl (lv_at hl 0 rfl) ?_
    refine lv_dup hx hb dX12_begins_20 rfl ?_
    refine sl_gM_0_48_12 (v := v_2) hx hb hts hown hK hP (show fp_19 0 48 = v_2 from ev_2.symm) dX12_begins_21 ?_
    refine lv_iconst (v := 1) hx hb dX12_begins_24 ic_1 ?_
    refine lv_iadd hx hb dX12_begins_25 ?_
    refine lv_topi (fun v_5 ev_5 => ?_)
    have q_6 : v_5.toInt = v_2.toInt + 1 := by rw [ev_5]; first | exact cm_add ti_1 (by omega) (by omega) | (have k1 : (1 : Int32).toInt = 1 := ti_1; exact (bn_addI (by omega) (by omega)).trans (by omega))
    refine sl_pM_0_48_12 (x := v_5) hx hb hts hown hh hA hK hP hS dX12_begins_26 (fun f_7 H locs ef_7 hP hS => ?_)
    have hI : sgI loM hiM f_7 := by rw [ef_7]; exact sgI.put hI 0 48 (show 0 ≤ (v_5 : Int32).toInt ∧ (v_5 : Int32).toInt ≤ 19 from ⟨by omega, by omega⟩)
    have hF : sgK WkX12_begins_11_f3 f f_7 := sgK.put hF ef_7 (by rfl)
    have q_8 : (f_7 0 48).toInt = v_5.toInt := (congrArg Int32.toInt (show f_7 0 48 = v_5 from (by rw [ef_7, sg_up_s, sgu_s])))
    exact hret _ _ _ _ f_7 L Q dX12_begins_29 hP hS ⟨⟨hI, hF, rfl, rfl⟩, ⟨by omega, by omega⟩, (Eq.trans (Eq.symm (hs.trans ((spl_e ev_2 (spl_e ev_5 (spl_e ef_7 rfl)))))) hsp)⟩
  refine lv_aload_n hx hb dX12_begins_0 rfl (lv_at hl 0 rfl) ?_
  refine sl_gM_0_48_12 (v := 3) hx hb hts hown hK hP (show f 0 48 = 3 from hf_0_48) dX12_begins_1 ?_
  refine lv_bipush (v := 24) hx hb dX12_begins_4 bp_24 ?_
  refine lv_icmp_ge (tgt := 19) hx hb dX12_begins_6 (by decide) (fun c => absurd c (by decide)) (fun c => ?_)
  refine lv_aload_n hx hb dX12_begins_9 rfl (lv_at hl 0 rfl) ?_
  refine sl_gM_0_47_12 hx hb hts hown hK hP dX12_begins_10 ?_
  refine lv_aload_n hx hb dX12_begins_13 rfl (lv_at hl 0 rfl) ?_
  refine sl_gM_0_48_12 (v := 3) hx hb hts hown hK hP (show f 0 48 = 3 from hf_0_48) dX12_begins_14 ?_
  refine lv_iload_n hx hb dX12_begins_17 rfl (lv_at hl 1 rfl) ?_
  refine sg_iast hx hb hh hA hK hP hS 21 (by decide) 0 (fun _ => rfl) rfl (i := 3) (x := 11) (vp_in_iff.mpr (by decide)) dX12_begins_18 (fun f_10 H locs ef_10 hP hS => ?_)
  have ef_10 : f_10 = sg_up f 21 (sgu (f 21) 3 11) := ef_10
  have hI : sgI loM hiM f_10 := by rw [ef_10]; exact sgI.put hI 21 3 (show 0 ≤ (11 : Int32).toInt ∧ (11 : Int32).toInt ≤ 81 from by decide)
  have hF : sgK WkX12_begins_11_f3 f f_10 := sgK.put hF ef_10 (by rfl)
  exact blk_19 f_10 _ _ _ (hs.trans ((spl_e ef_10 rfl))) (by have zz0_48 : (f_10 0 48).toInt = 3 := (congrArg Int32.toInt (show f_10 0 48 = 3 from (by rw [ef_10, sg_up_n (by decide)]; exact hf_0_48))).trans (by decide); exact ⟨by omega, by omega⟩) hI hF hP hS (lv_sub hl [0] rfl)

abbrev WkX12_slipsAs_0_f3_f0 : List (Nat × Nat × Option Nat) := [(0, 0, some 48), (21, 21, some 3)]
set_option maxHeartbeats 4000000 in
set_option maxRecDepth 100000 in
theorem kX12_slipsAs_0_f3_f0 (l : Launch) (D : va_G) (ca : Nat → ClassId) (za h : Nat → Nat) (hh : sgH 26 h) (f : sg_F) (L : sg_L) (Q : sg_Q) (hI : sgI loM hiM f) (x1 : Int32) (hf_0_48 : f 0 48 = 3) (hf_0_49 : f 0 49 = 0) (b1 : 1 ≤ x1.toInt ∧ x1.toInt ≤ 1) (p0 : 3 ≤ (f 0 48).toInt ∧ (f 0 48).toInt ≤ 3) (sz : Nat) : Met l yX12_slipsAs gwX12_slipsAs { frames := 1, cells := 0, slots := 0, locals := 21 } (sgP D vwCl (tyX ca) 26 h (eM ca h) zcM za f L Q sz [.ref (h 0), .int 0, .int x1]) (sgQi D vwCl 26 h (eM ca h) sz (fun r f1 L1 Q1 => ((sgI loM hiM f1 ∧ sgK WkX12_slipsAs_0_f3_f0 f f1 ∧ L1 = L ∧ Q1 = Q) ∧ True ∧ (4 ≤ (f1 0 48).toInt ∧ (f1 0 48).toInt ≤ 4) ∧ (r, f1) = sX12_slipsAs_0_f3_f0 x1 f L))) 0 0 (sgA 26 h sz) := by
  refine sg_ofWi (cc := cX12_slipsAs) (maxL := 4) RX12 (by decide) rfl rfl (Nat.le_of_ble_eq_true rfl) ?_
  intro p e s m below meth cd Qz ls hx hb hml hown hts hK hZ hP hS hl hret
  have hA := sgY.self (n := 26) (h := h) (sz := s.heap.size)
  have hl : lv_has ls 4 [(0, .ref (h 0)), (1, .int 0), (2, .int x1)] := hl
  obtain ⟨H, hH⟩ : ∃ z : Heap, z = s.heap := ⟨_, rfl⟩
  obtain ⟨locs, hlo⟩ : ∃ z : List Loc, z = [] := ⟨_, rfl⟩
  have hP : va_P D vwCl (sgw 26 h (eM ca h) f L Q) H := by rw [hH]; exact hP
  have hS : va_S (sgA 26 h s.heap.size) s.heap H locs := by rw [hH, hlo]; exact hS
  suffices hgo : W p l e ({ frames := 1, cells := 0, slots := 0, locals := 21 }) s m ([.ref (h 0), .int 0, .int x1] : List Value).toArray below meth cd H locs 0 0 Qz (F0 m 0 ls []) by rw [hH, hlo] at hgo; exact hgo
  clear hH hlo
  obtain ⟨sp, hsp⟩ : ∃ z : Int32 × sg_F, z = sX12_slipsAs_0_f3_f0 x1 f L := ⟨_, rfl⟩
  have hs : sp = sX12_slipsAs_0_f3_f0 x1 f L := hsp
  have o_1 : (f 0 48).toInt = 3 := (congrArg Int32.toInt (show f 0 48 = 3 from hf_0_48)).trans (by decide)
  have hF : sgK WkX12_slipsAs_0_f3_f0 f f := sgK.rf
  refine lv_iload_n hx hb dX12_slipsAs_0 rfl (lv_at hl 1 rfl) ?_
  refine lv_iconst (v := 3) hx hb dX12_slipsAs_1 ic_3 ?_
  refine lv_icmp_eq (tgt := 10) hx hb dX12_slipsAs_2 (by decide) (fun c => absurd c (by decide)) (fun c => ?_)
  refine lv_iload_n hx hb dX12_slipsAs_5 rfl (lv_at hl 1 rfl) ?_
  refine lv_iconst (v := 5) hx hb dX12_slipsAs_6 ic_5 ?_
  refine lv_icmp_ne (tgt := 25) hx hb dX12_slipsAs_7 (by decide) (fun c => ?_) (fun c => absurd c (by decide))
  refine lv_iload_n hx hb dX12_slipsAs_25 rfl (lv_at hl 1 rfl) ?_
  refine lv_iconst (v := 4) hx hb dX12_slipsAs_26 ic_4 ?_
  refine lv_icmp_eq (tgt := 36) hx hb dX12_slipsAs_27 (by decide) (fun c => absurd c (by decide)) (fun c => ?_)
  refine lv_iload_n hx hb dX12_slipsAs_30 rfl (lv_at hl 1 rfl) ?_
  refine lv_bipush (v := 7) hx hb dX12_slipsAs_31 bp_7 ?_
  refine lv_icmp_ne (tgt := 61) hx hb dX12_slipsAs_33 (by decide) (fun c => ?_) (fun c => absurd c (by decide))
  refine lv_aload_n hx hb dX12_slipsAs_61 rfl (lv_at hl 0 rfl) ?_
  refine lv_bipush (v := 11) hx hb dX12_slipsAs_62 bp_11 ?_
  have q_2 : (f 0 48).toInt = 3 := (congrArg Int32.toInt (show f 0 48 = 3 from hf_0_48)).trans (by decide)
  refine sg_callv (va_runV (As := [.int 11]) (rest := []) ⟨hx, hb, hml, hown, hts⟩ (kX12_begins_11_f3 l D ca za h hh f L Q hI hf_0_48 (by have k0 : (11 : Int32).toInt = 11 := ti_11; omega) H.size) (sl_c12_begins_0_0_0_0_12 hts ⟨Nat.le_of_ble_eq_true rfl, Nat.le_of_ble_eq_true rfl⟩) (sl_vM_0 hA hK hP hS hZ) rfl rfl hl.1 rfl (lv_room (Nat.le_of_ble_eq_true rfl)) dX12_slipsAs_64 ⟨Nat.le_refl _, Nat.le_refl _⟩) hA hS (fun f_4 L_5 Q_6 H locs hq hP hS => ?_)
  obtain ⟨⟨hI, hk_f_4, eL9, eQ9⟩, p_7, u_8⟩ := hq
  rw [eL9, eQ9] at hP; clear eL9 eQ9
  have hF : sgK WkX12_slipsAs_0_f3_f0 f f_4 := sgK.tr hF hk_f_4 (by decide +kernel)
  obtain ⟨v_9, ev_9⟩ : ∃ z : Int32, z = f_4 0 48 := ⟨_, rfl⟩
  have q_10 : 0 ≤ v_9.toInt ∧ v_9.toInt ≤ 19 := by rw [ev_9]; exact hI 0 48
  have q_11 : (f_4 0 48).toInt = v_9.toInt := (congrArg Int32.toInt (show f_4 0 48 = v_9 from ev_9.symm))
  refine lv_iload_n hx hb dX12_slipsAs_67 rfl (lv_at hl 2 rfl) ?_
  refine lv_aload_n hx hb dX12_slipsAs_68 rfl (lv_at hl 0 rfl) ?_
  refine sl_gM_0_50_12 (v := (f_4 0 50)) hx hb hts hown hK hP rfl dX12_slipsAs_69 ?_
  refine lv_topi (fun v_13 ev_13 => ?_)
  have q_14 : 0 ≤ v_13.toInt ∧ v_13.toInt ≤ 49 := by rw [ev_13]; exact hI 0 50
  refine lv_ixor hx hb dX12_slipsAs_72 ?_
  refine lv_topi (fun v_15 ev_15 => ?_)
  exact hret _ _ _ _ (v_15) f_4 L Q dX12_slipsAs_73 hP hS ⟨⟨hI, hF, rfl, rfl⟩, trivial, ⟨by omega, by omega⟩, (Eq.trans (Eq.symm (hs.trans ((spl_e u_8 (spl_e ev_9 (spl_e ev_13 (spl_e ev_15 rfl))))))) hsp)⟩

abbrev WkX12_tellsAs_0_f0_f0 : List (Nat × Nat × Option Nat) := [(0, 0, some 48), (21, 21, some 0), (21, 21, some 1), (21, 21, some 2), (21, 21, some 3)]
set_option maxHeartbeats 4000000 in
set_option maxRecDepth 100000 in
theorem kX12_tellsAs_0_f0_f0 (l : Launch) (D : va_G) (ca : Nat → ClassId) (za h : Nat → Nat) (hh : sgH 26 h) (f : sg_F) (L : sg_L) (Q : sg_Q) (hI : sgI loM hiM f) (x1 : Int32) (hf_0_48 : f 0 48 = 0) (hf_0_49 : f 0 49 = 0) (p0 : 0 ≤ (f 0 48).toInt ∧ (f 0 48).toInt ≤ 0) (sz : Nat) : Met l yX12_tellsAs gwX12_tellsAs { frames := 3, cells := 0, slots := 0, locals := 66 } (sgP D vwCl (tyX ca) 26 h (eM ca h) zcM za f L Q sz [.ref (h 0), .int 0, .int x1]) (sgQi D vwCl 26 h (eM ca h) sz (fun r f1 L1 Q1 => ((sgI loM hiM f1 ∧ sgK WkX12_tellsAs_0_f0_f0 f f1 ∧ L1 = L ∧ Q1 = Q) ∧ True ∧ (4 ≤ (f1 0 48).toInt ∧ (f1 0 48).toInt ≤ 4) ∧ (r, f1) = sX12_tellsAs_0_f0_f0 x1 f L))) 0 0 (sgA 26 h sz) := by
  refine sg_ofWi (cc := cX12_tellsAs) (maxL := 4) RX12 (by decide) rfl rfl (Nat.le_of_ble_eq_true rfl) ?_
  intro p e s m below meth cd Qz ls hx hb hml hown hts hK hZ hP hS hl hret
  have hA := sgY.self (n := 26) (h := h) (sz := s.heap.size)
  have hl : lv_has ls 4 [(0, .ref (h 0)), (1, .int 0), (2, .int x1)] := hl
  obtain ⟨H, hH⟩ : ∃ z : Heap, z = s.heap := ⟨_, rfl⟩
  obtain ⟨locs, hlo⟩ : ∃ z : List Loc, z = [] := ⟨_, rfl⟩
  have hP : va_P D vwCl (sgw 26 h (eM ca h) f L Q) H := by rw [hH]; exact hP
  have hS : va_S (sgA 26 h s.heap.size) s.heap H locs := by rw [hH, hlo]; exact hS
  suffices hgo : W p l e ({ frames := 3, cells := 0, slots := 0, locals := 66 }) s m ([.ref (h 0), .int 0, .int x1] : List Value).toArray below meth cd H locs 0 0 Qz (F0 m 0 ls []) by rw [hH, hlo] at hgo; exact hgo
  clear hH hlo
  obtain ⟨sp, hsp⟩ : ∃ z : Int32 × sg_F, z = sX12_tellsAs_0_f0_f0 x1 f L := ⟨_, rfl⟩
  have hs : sp = sX12_tellsAs_0_f0_f0 x1 f L := hsp
  have o_1 : (f 0 48).toInt = 0 := (congrArg Int32.toInt (show f 0 48 = 0 from hf_0_48)).trans (by decide)
  have hF : sgK WkX12_tellsAs_0_f0_f0 f f := sgK.rf
  refine lv_iload_n hx hb dX12_tellsAs_0 rfl (lv_at hl 1 rfl) ?_
  refine lv_iconst (v := 5) hx hb dX12_tellsAs_1 ic_5 ?_
  refine lv_icmp_ne (tgt := 20) hx hb dX12_tellsAs_2 (by decide) (fun c => ?_) (fun c => absurd c (by decide))
  refine lv_iload_n hx hb dX12_tellsAs_20 rfl (lv_at hl 1 rfl) ?_
  refine lv_bipush (v := 7) hx hb dX12_tellsAs_21 bp_7 ?_
  refine lv_icmp_ne (tgt := 41) hx hb dX12_tellsAs_23 (by decide) (fun c => ?_) (fun c => absurd c (by decide))
  refine lv_aload_n hx hb dX12_tellsAs_41 rfl (lv_at hl 0 rfl) ?_
  refine lv_iconst (v := 2) hx hb dX12_tellsAs_42 ic_2 ?_
  have q_2 : (f 0 48).toInt = 0 := (congrArg Int32.toInt (show f 0 48 = 0 from hf_0_48)).trans (by decide)
  refine sg_callv (va_runV (As := [.int 2]) (rest := []) ⟨hx, hb, hml, hown, hts⟩ (kX12_begins_2_f0 l D ca za h hh f L Q hI hf_0_48 (by have k0 : (2 : Int32).toInt = 2 := ti_2; omega) H.size) (sl_c12_begins_0_0_0_0_12 hts ⟨Nat.le_of_ble_eq_true rfl, Nat.le_of_ble_eq_true rfl⟩) (sl_vM_0 hA hK hP hS hZ) rfl rfl hl.1 rfl (lv_room (Nat.le_of_ble_eq_true rfl)) dX12_tellsAs_43 ⟨Nat.le_refl _, Nat.le_refl _⟩) hA hS (fun f_4 L_5 Q_6 H locs hq hP hS => ?_)
  obtain ⟨⟨hI, hk_f_4, eL9, eQ9⟩, p_7, u_8⟩ := hq
  rw [eL9, eQ9] at hP; clear eL9 eQ9
  have hF : sgK WkX12_tellsAs_0_f0_f0 f f_4 := sgK.tr hF hk_f_4 (by decide +kernel)
  obtain ⟨v_9, ev_9⟩ : ∃ z : Int32, z = f_4 0 48 := ⟨_, rfl⟩
  have q_10 : 0 ≤ v_9.toInt ∧ v_9.toInt ≤ 19 := by rw [ev_9]; exact hI 0 48
  have q_11 : (f_4 0 48).toInt = v_9.toInt := (congrArg Int32.toInt (show f_4 0 48 = v_9 from ev_9.symm))
  refine lv_aload_n hx hb dX12_tellsAs_46 rfl (lv_at hl 0 rfl) ?_
  refine lv_aload_n hx hb dX12_tellsAs_47 rfl (lv_at hl 0 rfl) ?_
  refine sl_gM_0_49_12 (v := 0) hx hb hts hown hK hP (show f_4 0 49 = 0 from ((hk_f_4 0 49 (by decide)).trans hf_0_49)) dX12_tellsAs_48 ?_
  refine lv_iload_n hx hb dX12_tellsAs_51 rfl (lv_at hl 2 rfl) ?_
  have c_13 : v_9 = 1 := Int32.toInt_inj.mp (by have k9 : (1 : Int32).toInt = 1 := ti_1; omega)
  have q_14 : (f_4 0 48).toInt = 1 := (congrArg Int32.toInt (show f_4 0 48 = 1 from (Eq.trans ev_9.symm c_13))).trans (by decide)
  refine sg_calli (va_runV (As := [.int 0, .int x1]) (rest := []) ⟨hx, hb, hml, hown, hts⟩ (kX12_sitsAs_0_f1_f0 l D ca za h hh f_4 L Q hI x1 (Eq.trans ev_9.symm c_13) ((hk_f_4 0 49 (by decide)).trans hf_0_49) (by have k0 : (0 : Int32).toInt = 0 := ti_0; omega) H.size) (sl_c12_sitsAs_2_0_0_43_12 hts ⟨Nat.le_of_ble_eq_true rfl, Nat.le_of_ble_eq_true rfl⟩) (sl_vM_0 hA hK hP hS hZ) rfl rfl hl.1 rfl (lv_room (Nat.le_of_ble_eq_true rfl)) dX12_tellsAs_52 ⟨Nat.le_refl _, Nat.le_refl _⟩) hA hS (fun r_19 f_16 L_17 Q_18 H locs hq hP hS => ?_)
  obtain ⟨⟨hI, hk_f_16, eL9, eQ9⟩, hq, p_20, u_21⟩ := hq
  rw [eL9, eQ9] at hP; clear eL9 eQ9
  have hF : sgK WkX12_tellsAs_0_f0_f0 f f_16 := sgK.tr hF hk_f_16 (by decide +kernel)
  obtain ⟨v_22, ev_22⟩ : ∃ z : Int32, z = f_16 0 48 := ⟨_, rfl⟩
  have q_23 : 0 ≤ v_22.toInt ∧ v_22.toInt ≤ 19 := by rw [ev_22]; exact hI 0 48
  have q_24 : (f_16 0 48).toInt = v_22.toInt := (congrArg Int32.toInt (show f_16 0 48 = v_22 from ev_22.symm))
  have k_26 : (0 : Int32).toInt = 0 := by decide
  refine lv_istore_n (lv' := [(3, .int r_19), (0, .ref (h 0)), (1, .int 0), (2, .int x1)]) hx hb dX12_tellsAs_55 rfl hl (by decide) rfl (fun ls hl => ?_)
  refine lv_iload_n hx hb dX12_tellsAs_56 rfl (lv_at hl 0 rfl) ?_
  refine lv_aload_n hx hb dX12_tellsAs_57 rfl (lv_at hl 1 rfl) ?_
  refine lv_aload_n hx hb dX12_tellsAs_58 rfl (lv_at hl 1 rfl) ?_
  refine sl_gM_0_49_12 (v := 0) hx hb hts hown hK hP (show f_16 0 49 = 0 from ((hk_f_16 0 49 (by decide)).trans ((hk_f_4 0 49 (by decide)).trans hf_0_49))) dX12_tellsAs_59 ?_
  refine lv_iconst (v := 1) hx hb dX12_tellsAs_62 ic_1 ?_
  have c_27 : v_22 = 3 := Int32.toInt_inj.mp (by have k9 : (3 : Int32).toInt = 3 := ti_3; omega)
  have q_28 : (f_16 0 48).toInt = 3 := (congrArg Int32.toInt (show f_16 0 48 = 3 from (Eq.trans ev_22.symm c_27))).trans (by decide)
  refine sg_calli (va_runV (As := [.int 0, .int 1]) (rest := [.int r_19]) ⟨hx, hb, hml, hown, hts⟩ (kX12_slipsAs_0_f3_f0 l D ca za h hh f_16 L Q hI 1 (Eq.trans ev_22.symm c_27) ((hk_f_16 0 49 (by decide)).trans ((hk_f_4 0 49 (by decide)).trans hf_0_49)) (by decide) (by have k0 : (0 : Int32).toInt = 0 := ti_0; have k1 : (1 : Int32).toInt = 1 := ti_1; omega) H.size) (sl_c12_slipsAs_1_0_0_21_12 hts ⟨Nat.le_of_ble_eq_true rfl, Nat.le_of_ble_eq_true rfl⟩) (sl_vM_0 hA hK hP hS hZ) rfl rfl hl.1 rfl (lv_room (Nat.le_of_ble_eq_true rfl)) dX12_tellsAs_63 ⟨Nat.le_refl _, Nat.le_refl _⟩) hA hS (fun r_33 f_30 L_31 Q_32 H locs hq hP hS => ?_)
  obtain ⟨⟨hI, hk_f_30, eL9, eQ9⟩, hq, p_34, u_35⟩ := hq
  rw [eL9, eQ9] at hP; clear eL9 eQ9
  have hF : sgK WkX12_tellsAs_0_f0_f0 f f_30 := sgK.tr hF hk_f_30 (by decide +kernel)
  obtain ⟨v_36, ev_36⟩ : ∃ z : Int32, z = f_30 0 48 := ⟨_, rfl⟩
  have q_37 : 0 ≤ v_36.toInt ∧ v_36.toInt ≤ 19 := by rw [ev_36]; exact hI 0 48
  have q_38 : (f_30 0 48).toInt = v_36.toInt := (congrArg Int32.toInt (show f_30 0 48 = v_36 from ev_36.symm))
  have k_40 : (0 : Int32).toInt = 0 := by decide
  have k_41 : (1 : Int32).toInt = 1 := by decide
  refine lv_isub hx hb dX12_tellsAs_66 ?_
  refine lv_topi (fun v_42 ev_42 => ?_)
  exact hret _ _ _ _ (v_42) f_30 L Q dX12_tellsAs_67 hP hS ⟨⟨hI, hF, rfl, rfl⟩, trivial, ⟨by omega, by omega⟩, (Eq.trans (Eq.symm (hs.trans ((spl_e u_8 (spl_e ev_9 (spl2_e u_21 (spl_e ev_22 (spl2_e u_35 (spl_e ev_36 (spl_e ev_42 rfl)))))))))) hsp)⟩

abbrev WkX12_setsAs_0_f3_f1 : List (Nat × Nat × Option Nat) := [(0, 0, some 48), (21, 21, some 3)]
set_option maxHeartbeats 4000000 in
set_option maxRecDepth 100000 in
theorem kX12_setsAs_0_f3_f1 (l : Launch) (D : va_G) (ca : Nat → ClassId) (za h : Nat → Nat) (hh : sgH 26 h) (f : sg_F) (L : sg_L) (Q : sg_Q) (hI : sgI loM hiM f) (x1 : Int32) (hf_0_48 : f 0 48 = 3) (hf_0_49 : f 0 49 = 1) (p0 : 3 ≤ (f 0 48).toInt ∧ (f 0 48).toInt ≤ 3) (sz : Nat) : Met l yX12_setsAs gwX12_setsAs { frames := 1, cells := 0, slots := 0, locals := 21 } (sgP D vwCl (tyX ca) 26 h (eM ca h) zcM za f L Q sz [.ref (h 0), .int 0, .int x1]) (sgQi D vwCl 26 h (eM ca h) sz (fun r f1 L1 Q1 => ((sgI loM hiM f1 ∧ sgK WkX12_setsAs_0_f3_f1 f f1 ∧ L1 = L ∧ Q1 = Q) ∧ True ∧ (4 ≤ (f1 0 48).toInt ∧ (f1 0 48).toInt ≤ 4) ∧ (r, f1) = sX12_setsAs_0_f3_f1 x1 f L))) 0 0 (sgA 26 h sz) := by
  refine sg_ofWi (cc := cX12_setsAs) (maxL := 3) RX12 (by decide) rfl rfl (Nat.le_of_ble_eq_true rfl) ?_
  intro p e s m below meth cd Qz ls hx hb hml hown hts hK hZ hP hS hl hret
  have hA := sgY.self (n := 26) (h := h) (sz := s.heap.size)
  have hl : lv_has ls 3 [(0, .ref (h 0)), (1, .int 0), (2, .int x1)] := hl
  obtain ⟨H, hH⟩ : ∃ z : Heap, z = s.heap := ⟨_, rfl⟩
  obtain ⟨locs, hlo⟩ : ∃ z : List Loc, z = [] := ⟨_, rfl⟩
  have hP : va_P D vwCl (sgw 26 h (eM ca h) f L Q) H := by rw [hH]; exact hP
  have hS : va_S (sgA 26 h s.heap.size) s.heap H locs := by rw [hH, hlo]; exact hS
  suffices hgo : W p l e ({ frames := 1, cells := 0, slots := 0, locals := 21 }) s m ([.ref (h 0), .int 0, .int x1] : List Value).toArray below meth cd H locs 0 0 Qz (F0 m 0 ls []) by rw [hH, hlo] at hgo; exact hgo
  clear hH hlo
  obtain ⟨sp, hsp⟩ : ∃ z : Int32 × sg_F, z = sX12_setsAs_0_f3_f1 x1 f L := ⟨_, rfl⟩
  have hs : sp = sX12_setsAs_0_f3_f1 x1 f L := hsp
  have o_1 : (f 0 48).toInt = 3 := (congrArg Int32.toInt (show f 0 48 = 3 from hf_0_48)).trans (by decide)
  have hF : sgK WkX12_setsAs_0_f3_f1 f f := sgK.rf
  refine lv_iload_n hx hb dX12_setsAs_0 rfl (lv_at hl 1 rfl) ?_
  refine lv_iconst (v := 1) hx hb dX12_setsAs_1 ic_1 ?_
  refine lv_icmp_eq (tgt := 16) hx hb dX12_setsAs_2 (by decide) (fun c => absurd c (by decide)) (fun c => ?_)
  refine lv_iload_n hx hb dX12_setsAs_5 rfl (lv_at hl 1 rfl) ?_
  refine lv_iconst (v := 4) hx hb dX12_setsAs_6 ic_4 ?_
  refine lv_icmp_eq (tgt := 16) hx hb dX12_setsAs_7 (by decide) (fun c => absurd c (by decide)) (fun c => ?_)
  refine lv_iload_n hx hb dX12_setsAs_10 rfl (lv_at hl 1 rfl) ?_
  refine lv_bipush (v := 7) hx hb dX12_setsAs_11 bp_7 ?_
  refine lv_icmp_ne (tgt := 31) hx hb dX12_setsAs_13 (by decide) (fun c => ?_) (fun c => absurd c (by decide))
  refine lv_iload_n hx hb dX12_setsAs_31 rfl (lv_at hl 1 rfl) ?_
  refine lv_bipush (v := 6) hx hb dX12_setsAs_32 bp_6 ?_
  refine lv_icmp_ne (tgt := 52) hx hb dX12_setsAs_34 (by decide) (fun c => ?_) (fun c => absurd c (by decide))
  refine lv_aload_n hx hb dX12_setsAs_52 rfl (lv_at hl 0 rfl) ?_
  refine lv_iconst (v := 1) hx hb dX12_setsAs_53 ic_1 ?_
  have q_2 : (f 0 48).toInt = 3 := (congrArg Int32.toInt (show f 0 48 = 3 from hf_0_48)).trans (by decide)
  refine sg_callv (va_runV (As := [.int 1]) (rest := []) ⟨hx, hb, hml, hown, hts⟩ (kX12_begins_1_f3 l D ca za h hh f L Q hI hf_0_48 (by have k0 : (1 : Int32).toInt = 1 := ti_1; omega) H.size) (sl_c12_begins_0_0_0_0_12 hts ⟨Nat.le_of_ble_eq_true rfl, Nat.le_of_ble_eq_true rfl⟩) (sl_vM_0 hA hK hP hS hZ) rfl rfl hl.1 rfl (lv_room (Nat.le_of_ble_eq_true rfl)) dX12_setsAs_54 ⟨Nat.le_refl _, Nat.le_refl _⟩) hA hS (fun f_4 L_5 Q_6 H locs hq hP hS => ?_)
  obtain ⟨⟨hI, hk_f_4, eL9, eQ9⟩, p_7, u_8⟩ := hq
  rw [eL9, eQ9] at hP; clear eL9 eQ9
  have hF : sgK WkX12_setsAs_0_f3_f1 f f_4 := sgK.tr hF hk_f_4 (by decide +kernel)
  obtain ⟨v_9, ev_9⟩ : ∃ z : Int32, z = f_4 0 48 := ⟨_, rfl⟩
  have q_10 : 0 ≤ v_9.toInt ∧ v_9.toInt ≤ 19 := by rw [ev_9]; exact hI 0 48
  have q_11 : (f_4 0 48).toInt = v_9.toInt := (congrArg Int32.toInt (show f_4 0 48 = v_9 from ev_9.symm))
  refine lv_iload_n hx hb dX12_setsAs_57 rfl (lv_at hl 2 rfl) ?_
  refine lv_aload_n hx hb dX12_setsAs_58 rfl (lv_at hl 0 rfl) ?_
  refine sl_gM_0_50_12 (v := (f_4 0 50)) hx hb hts hown hK hP rfl dX12_setsAs_59 ?_
  refine lv_topi (fun v_13 ev_13 => ?_)
  have q_14 : 0 ≤ v_13.toInt ∧ v_13.toInt ≤ 49 := by rw [ev_13]; exact hI 0 50
  refine lv_iadd hx hb dX12_setsAs_62 ?_
  refine lv_topi (fun v_15 ev_15 => ?_)
  exact hret _ _ _ _ (v_15) f_4 L Q dX12_setsAs_63 hP hS ⟨⟨hI, hF, rfl, rfl⟩, trivial, ⟨by omega, by omega⟩, (Eq.trans (Eq.symm (hs.trans ((spl_e u_8 (spl_e ev_9 (spl_e ev_13 (spl_e ev_15 rfl))))))) hsp)⟩

abbrev WkX12_setsAs_1_f2_f1 : List (Nat × Nat × Option Nat) := [(0, 0, some 48), (21, 21, some 2), (21, 21, some 3)]
set_option maxHeartbeats 4000000 in
set_option maxRecDepth 100000 in
theorem kX12_setsAs_1_f2_f1 (l : Launch) (D : va_G) (ca : Nat → ClassId) (za h : Nat → Nat) (hh : sgH 26 h) (f : sg_F) (L : sg_L) (Q : sg_Q) (hI : sgI loM hiM f) (x1 : Int32) (hf_0_48 : f 0 48 = 2) (hf_0_49 : f 0 49 = 1) (p0 : 2 ≤ (f 0 48).toInt ∧ (f 0 48).toInt ≤ 2) (sz : Nat) : Met l yX12_setsAs gwX12_setsAs { frames := 2, cells := 0, slots := 0, locals := 43 } (sgP D vwCl (tyX ca) 26 h (eM ca h) zcM za f L Q sz [.ref (h 0), .int 1, .int x1]) (sgQi D vwCl 26 h (eM ca h) sz (fun r f1 L1 Q1 => ((sgI loM hiM f1 ∧ sgK WkX12_setsAs_1_f2_f1 f f1 ∧ L1 = L ∧ Q1 = Q) ∧ True ∧ (4 ≤ (f1 0 48).toInt ∧ (f1 0 48).toInt ≤ 4) ∧ (r, f1) = sX12_setsAs_1_f2_f1 x1 f L))) 0 0 (sgA 26 h sz) := by
  refine sg_ofWi (cc := cX12_setsAs) (maxL := 3) RX12 (by decide) rfl rfl (Nat.le_of_ble_eq_true rfl) ?_
  intro p e s m below meth cd Qz ls hx hb hml hown hts hK hZ hP hS hl hret
  have hA := sgY.self (n := 26) (h := h) (sz := s.heap.size)
  have hl : lv_has ls 3 [(0, .ref (h 0)), (1, .int 1), (2, .int x1)] := hl
  obtain ⟨H, hH⟩ : ∃ z : Heap, z = s.heap := ⟨_, rfl⟩
  obtain ⟨locs, hlo⟩ : ∃ z : List Loc, z = [] := ⟨_, rfl⟩
  have hP : va_P D vwCl (sgw 26 h (eM ca h) f L Q) H := by rw [hH]; exact hP
  have hS : va_S (sgA 26 h s.heap.size) s.heap H locs := by rw [hH, hlo]; exact hS
  suffices hgo : W p l e ({ frames := 2, cells := 0, slots := 0, locals := 43 }) s m ([.ref (h 0), .int 1, .int x1] : List Value).toArray below meth cd H locs 0 0 Qz (F0 m 0 ls []) by rw [hH, hlo] at hgo; exact hgo
  clear hH hlo
  obtain ⟨sp, hsp⟩ : ∃ z : Int32 × sg_F, z = sX12_setsAs_1_f2_f1 x1 f L := ⟨_, rfl⟩
  have hs : sp = sX12_setsAs_1_f2_f1 x1 f L := hsp
  have o_1 : (f 0 48).toInt = 2 := (congrArg Int32.toInt (show f 0 48 = 2 from hf_0_48)).trans (by decide)
  have hF : sgK WkX12_setsAs_1_f2_f1 f f := sgK.rf
  have blk_16 : ∀ (fp_16 : sg_F) (H : Heap) (locs : List Loc) (ls : Array Slot), sp = sX12_setsAs_1_f2_f1_b16 x1 fp_16 L → 2 ≤ (fp_16 0 48).toInt ∧ (fp_16 0 48).toInt ≤ 2 → 1 ≤ (fp_16 0 49).toInt ∧ (fp_16 0 49).toInt ≤ 1 → sgI loM hiM fp_16 → sgK WkX12_setsAs_1_f2_f1 f fp_16 → va_P D vwCl (sgw 26 h (eM ca h) fp_16 L Q) H → va_S (sgA 26 h s.heap.size) s.heap H locs → lv_has ls 3 [(0, .ref (h 0)), (2, .int x1)] → W p l e ({ frames := 2, cells := 0, slots := 0, locals := 43 }) s m ([.ref (h 0), .int 1, .int x1] : List Value).toArray below meth cd H locs 0 0 Qz (F0 m 16 ls []) := by
    intro fp_16 H locs ls hs hy0_16 hy1_16 hI hF hP hS hl
    obtain ⟨v_2, ev_2⟩ : ∃ z : Int32, z = fp_16 0 48 := ⟨_, rfl⟩
    have q_3 : 0 ≤ v_2.toInt ∧ v_2.toInt ≤ 19 := by rw [ev_2]; exact hI 0 48
    have q_4 : (fp_16 0 48).toInt = v_2.toInt := by rw [ev_2]
    obtain ⟨v_5, ev_5⟩ : ∃ z : Int32, z = fp_16 0 49 := ⟨_, rfl⟩
    have q_6 : 0 ≤ v_5.toInt ∧ v_5.toInt ≤ 7 := by rw [ev_5]; exact hI 0 49
    have q_7 : (fp_16 0 49).toInt = v_5.toInt := by rw [ev_5]
    have m_8 : fp_16 0 49 = 1 := (hF 0 49 (by decide)).trans hf_0_49
    refine lv_aload_n hx hb dX12_setsAs_16 rfl (lv_at hl 0 rfl) ?_
    refine lv_bipush (v := 20) hx hb dX12_setsAs_17 bp_20 ?_
    have c_9 : v_2 = 2 := Int32.toInt_inj.mp (by have k9 : (2 : Int32).toInt = 2 := ti_2; omega)
    have q_10 : (fp_16 0 48).toInt = 2 := (congrArg Int32.toInt (show fp_16 0 48 = 2 from (Eq.trans ev_2.symm c_9))).trans (by decide)
    refine sg_callv (va_runV (As := [.int 20]) (rest := []) ⟨hx, hb, hml, hown, hts⟩ (kX12_begins_20_f2 l D ca za h hh fp_16 L Q hI (Eq.trans ev_2.symm c_9) (by have k0 : (20 : Int32).toInt = 20 := ti_20; omega) H.size) (sl_c12_begins_0_0_0_0_12 hts ⟨Nat.le_of_ble_eq_true rfl, Nat.le_of_ble_eq_true rfl⟩) (sl_vM_0 hA hK hP hS hZ) rfl rfl hl.1 rfl (lv_room (Nat.le_of_ble_eq_true rfl)) dX12_setsAs_19 ⟨Nat.le_refl _, Nat.le_refl _⟩) hA hS (fun f_12 L_13 Q_14 H locs hq hP hS => ?_)
    obtain ⟨⟨hI, hk_f_12, eL9, eQ9⟩, p_15, u_16⟩ := hq
    rw [eL9, eQ9] at hP; clear eL9 eQ9
    have hF : sgK WkX12_setsAs_1_f2_f1 f f_12 := sgK.tr hF hk_f_12 (by decide +kernel)
    obtain ⟨v_17, ev_17⟩ : ∃ z : Int32, z = f_12 0 48 := ⟨_, rfl⟩
    have q_18 : 0 ≤ v_17.toInt ∧ v_17.toInt ≤ 19 := by rw [ev_17]; exact hI 0 48
    have q_19 : (f_12 0 48).toInt = v_17.toInt := (congrArg Int32.toInt (show f_12 0 48 = v_17 from ev_17.symm))
    refine lv_aload_n hx hb dX12_setsAs_22 rfl (lv_at hl 0 rfl) ?_
    refine lv_iconst (v := 0) hx hb dX12_setsAs_23 ic_0 ?_
    refine lv_iload_n hx hb dX12_setsAs_24 rfl (lv_at hl 1 rfl) ?_
    have c_21 : v_17 = 3 := Int32.toInt_inj.mp (by have k9 : (3 : Int32).toInt = 3 := ti_3; omega)
    have q_22 : (f_12 0 48).toInt = 3 := (congrArg Int32.toInt (show f_12 0 48 = 3 from (Eq.trans ev_17.symm c_21))).trans (by decide)
    refine sg_calli (va_runV (As := [.int 0, .int x1]) (rest := []) ⟨hx, hb, hml, hown, hts⟩ (kX12_setsAs_0_f3_f1 l D ca za h hh f_12 L Q hI x1 (Eq.trans ev_17.symm c_21) ((hk_f_12 0 49 (by decide)).trans m_8) (by have k0 : (0 : Int32).toInt = 0 := ti_0; omega) H.size) (sl_c12_setsAs_1_0_0_21_12 hts ⟨Nat.le_of_ble_eq_true rfl, Nat.le_of_ble_eq_true rfl⟩) (sl_vM_0 hA hK hP hS hZ) rfl rfl hl.1 rfl (lv_room (Nat.le_of_ble_eq_true rfl)) dX12_setsAs_25 ⟨Nat.le_refl _, Nat.le_refl _⟩) hA hS (fun r_27 f_24 L_25 Q_26 H locs hq hP hS => ?_)
    obtain ⟨⟨hI, hk_f_24, eL9, eQ9⟩, hq, p_28, u_29⟩ := hq
    rw [eL9, eQ9] at hP; clear eL9 eQ9
    have hF : sgK WkX12_setsAs_1_f2_f1 f f_24 := sgK.tr hF hk_f_24 (by decide +kernel)
    obtain ⟨v_30, ev_30⟩ : ∃ z : Int32, z = f_24 0 48 := ⟨_, rfl⟩
    have q_31 : 0 ≤ v_30.toInt ∧ v_30.toInt ≤ 19 := by rw [ev_30]; exact hI 0 48
    have q_32 : (f_24 0 48).toInt = v_30.toInt := (congrArg Int32.toInt (show f_24 0 48 = v_30 from ev_30.symm))
    have k_34 : (0 : Int32).toInt = 0 := by decide
    refine lv_iconst (v := 3) hx hb dX12_setsAs_28 ic_3 ?_
    refine lv_iadd hx hb dX12_setsAs_29 ?_
    refine lv_topi (fun v_35 ev_35 => ?_)
    exact hret _ _ _ _ (v_35) f_24 L Q dX12_setsAs_30 hP hS ⟨⟨hI, hF, rfl, rfl⟩, trivial, ⟨by omega, by omega⟩, (Eq.trans (Eq.symm (hs.trans ((spl_e ev_2 (spl_e ev_5 (spl_e u_16 (spl_e ev_17 (spl2_e u_29 (spl_e ev_30 (spl_e ev_35 rfl)))))))))) hsp)⟩
  refine lv_iload_n hx hb dX12_setsAs_0 rfl (lv_at hl 1 rfl) ?_
  refine lv_iconst (v := 1) hx hb dX12_setsAs_1 ic_1 ?_
  refine lv_icmp_eq (tgt := 16) hx hb dX12_setsAs_2 (by decide) (fun c => ?_) (fun c => absurd c (by decide))
  exact blk_16 f _ _ _ hs (by have zz0_48 : (f 0 48).toInt = 2 := (congrArg Int32.toInt (show f 0 48 = 2 from hf_0_48)).trans (by decide); exact ⟨by omega, by omega⟩) (by have zz0_49 : (f 0 49).toInt = 1 := (congrArg Int32.toInt (show f 0 49 = 1 from hf_0_49)).trans (by decide); exact ⟨by omega, by omega⟩) hI hF hP hS (lv_sub hl [0, 2] rfl)

abbrev WkX12_sitsAs_1_f1_f1 : List (Nat × Nat × Option Nat) := [(0, 0, some 48), (21, 21, some 1), (21, 21, some 2), (21, 21, some 3)]
set_option maxHeartbeats 4000000 in
set_option maxRecDepth 100000 in
theorem kX12_sitsAs_1_f1_f1 (l : Launch) (D : va_G) (ca : Nat → ClassId) (za h : Nat → Nat) (hh : sgH 26 h) (f : sg_F) (L : sg_L) (Q : sg_Q) (hI : sgI loM hiM f) (x1 : Int32) (hf_0_48 : f 0 48 = 1) (hf_0_49 : f 0 49 = 1) (p0 : 1 ≤ (f 0 48).toInt ∧ (f 0 48).toInt ≤ 1) (sz : Nat) : Met l yX12_sitsAs gwX12_sitsAs { frames := 3, cells := 0, slots := 0, locals := 65 } (sgP D vwCl (tyX ca) 26 h (eM ca h) zcM za f L Q sz [.ref (h 0), .int 1, .int x1]) (sgQi D vwCl 26 h (eM ca h) sz (fun r f1 L1 Q1 => ((sgI loM hiM f1 ∧ sgK WkX12_sitsAs_1_f1_f1 f f1 ∧ L1 = L ∧ Q1 = Q) ∧ True ∧ (4 ≤ (f1 0 48).toInt ∧ (f1 0 48).toInt ≤ 4) ∧ (r, f1) = sX12_sitsAs_1_f1_f1 x1 f L))) 0 0 (sgA 26 h sz) := by
  refine sg_ofWi (cc := cX12_sitsAs) (maxL := 4) RX12 (by decide) rfl rfl (Nat.le_of_ble_eq_true rfl) ?_
  intro p e s m below meth cd Qz ls hx hb hml hown hts hK hZ hP hS hl hret
  have hA := sgY.self (n := 26) (h := h) (sz := s.heap.size)
  have hl : lv_has ls 4 [(0, .ref (h 0)), (1, .int 1), (2, .int x1)] := hl
  obtain ⟨H, hH⟩ : ∃ z : Heap, z = s.heap := ⟨_, rfl⟩
  obtain ⟨locs, hlo⟩ : ∃ z : List Loc, z = [] := ⟨_, rfl⟩
  have hP : va_P D vwCl (sgw 26 h (eM ca h) f L Q) H := by rw [hH]; exact hP
  have hS : va_S (sgA 26 h s.heap.size) s.heap H locs := by rw [hH, hlo]; exact hS
  suffices hgo : W p l e ({ frames := 3, cells := 0, slots := 0, locals := 65 }) s m ([.ref (h 0), .int 1, .int x1] : List Value).toArray below meth cd H locs 0 0 Qz (F0 m 0 ls []) by rw [hH, hlo] at hgo; exact hgo
  clear hH hlo
  obtain ⟨sp, hsp⟩ : ∃ z : Int32 × sg_F, z = sX12_sitsAs_1_f1_f1 x1 f L := ⟨_, rfl⟩
  have hs : sp = sX12_sitsAs_1_f1_f1 x1 f L := hsp
  have o_1 : (f 0 48).toInt = 1 := (congrArg Int32.toInt (show f 0 48 = 1 from hf_0_48)).trans (by decide)
  have hF : sgK WkX12_sitsAs_1_f1_f1 f f := sgK.rf
  refine lv_iload_n hx hb dX12_sitsAs_0 rfl (lv_at hl 1 rfl) ?_
  refine lv_iconst (v := 3) hx hb dX12_sitsAs_1 ic_3 ?_
  refine lv_icmp_eq (tgt := 10) hx hb dX12_sitsAs_2 (by decide) (fun c => absurd c (by decide)) (fun c => ?_)
  refine lv_iload_n hx hb dX12_sitsAs_5 rfl (lv_at hl 1 rfl) ?_
  refine lv_iconst (v := 5) hx hb dX12_sitsAs_6 ic_5 ?_
  refine lv_icmp_ne (tgt := 25) hx hb dX12_sitsAs_7 (by decide) (fun c => ?_) (fun c => absurd c (by decide))
  refine lv_iload_n hx hb dX12_sitsAs_25 rfl (lv_at hl 1 rfl) ?_
  refine lv_iconst (v := 2) hx hb dX12_sitsAs_26 ic_2 ?_
  refine lv_icmp_ne (tgt := 44) hx hb dX12_sitsAs_27 (by decide) (fun c => ?_) (fun c => absurd c (by decide))
  refine lv_iload_n hx hb dX12_sitsAs_44 rfl (lv_at hl 1 rfl) ?_
  refine lv_bipush (v := 7) hx hb dX12_sitsAs_45 bp_7 ?_
  refine lv_icmp_ne (tgt := 75) hx hb dX12_sitsAs_47 (by decide) (fun c => ?_) (fun c => absurd c (by decide))
  refine lv_aload_n hx hb dX12_sitsAs_75 rfl (lv_at hl 0 rfl) ?_
  refine lv_bipush (v := 10) hx hb dX12_sitsAs_76 bp_10 ?_
  have q_2 : (f 0 48).toInt = 1 := (congrArg Int32.toInt (show f 0 48 = 1 from hf_0_48)).trans (by decide)
  refine sg_callv (va_runV (As := [.int 10]) (rest := []) ⟨hx, hb, hml, hown, hts⟩ (kX12_begins_10_f1 l D ca za h hh f L Q hI hf_0_48 (by have k0 : (10 : Int32).toInt = 10 := ti_10; omega) H.size) (sl_c12_begins_0_0_0_0_12 hts ⟨Nat.le_of_ble_eq_true rfl, Nat.le_of_ble_eq_true rfl⟩) (sl_vM_0 hA hK hP hS hZ) rfl rfl hl.1 rfl (lv_room (Nat.le_of_ble_eq_true rfl)) dX12_sitsAs_78 ⟨Nat.le_refl _, Nat.le_refl _⟩) hA hS (fun f_4 L_5 Q_6 H locs hq hP hS => ?_)
  obtain ⟨⟨hI, hk_f_4, eL9, eQ9⟩, p_7, u_8⟩ := hq
  rw [eL9, eQ9] at hP; clear eL9 eQ9
  have hF : sgK WkX12_sitsAs_1_f1_f1 f f_4 := sgK.tr hF hk_f_4 (by decide +kernel)
  obtain ⟨v_9, ev_9⟩ : ∃ z : Int32, z = f_4 0 48 := ⟨_, rfl⟩
  have q_10 : 0 ≤ v_9.toInt ∧ v_9.toInt ≤ 19 := by rw [ev_9]; exact hI 0 48
  have q_11 : (f_4 0 48).toInt = v_9.toInt := (congrArg Int32.toInt (show f_4 0 48 = v_9 from ev_9.symm))
  refine lv_aload_n hx hb dX12_sitsAs_81 rfl (lv_at hl 0 rfl) ?_
  refine lv_aload_n hx hb dX12_sitsAs_82 rfl (lv_at hl 0 rfl) ?_
  refine sl_gM_0_49_12 (v := 1) hx hb hts hown hK hP (show f_4 0 49 = 1 from ((hk_f_4 0 49 (by decide)).trans hf_0_49)) dX12_sitsAs_83 ?_
  refine lv_iload_n hx hb dX12_sitsAs_86 rfl (lv_at hl 2 rfl) ?_
  have c_13 : v_9 = 2 := Int32.toInt_inj.mp (by have k9 : (2 : Int32).toInt = 2 := ti_2; omega)
  have q_14 : (f_4 0 48).toInt = 2 := (congrArg Int32.toInt (show f_4 0 48 = 2 from (Eq.trans ev_9.symm c_13))).trans (by decide)
  refine sg_calli (va_runV (As := [.int 1, .int x1]) (rest := []) ⟨hx, hb, hml, hown, hts⟩ (kX12_setsAs_1_f2_f1 l D ca za h hh f_4 L Q hI x1 (Eq.trans ev_9.symm c_13) ((hk_f_4 0 49 (by decide)).trans hf_0_49) (by have k0 : (1 : Int32).toInt = 1 := ti_1; omega) H.size) (sl_c12_setsAs_2_0_0_43_12 hts ⟨Nat.le_of_ble_eq_true rfl, Nat.le_of_ble_eq_true rfl⟩) (sl_vM_0 hA hK hP hS hZ) rfl rfl hl.1 rfl (lv_room (Nat.le_of_ble_eq_true rfl)) dX12_sitsAs_87 ⟨Nat.le_refl _, Nat.le_refl _⟩) hA hS (fun r_19 f_16 L_17 Q_18 H locs hq hP hS => ?_)
  obtain ⟨⟨hI, hk_f_16, eL9, eQ9⟩, hq, p_20, u_21⟩ := hq
  rw [eL9, eQ9] at hP; clear eL9 eQ9
  have hF : sgK WkX12_sitsAs_1_f1_f1 f f_16 := sgK.tr hF hk_f_16 (by decide +kernel)
  obtain ⟨v_22, ev_22⟩ : ∃ z : Int32, z = f_16 0 48 := ⟨_, rfl⟩
  have q_23 : 0 ≤ v_22.toInt ∧ v_22.toInt ≤ 19 := by rw [ev_22]; exact hI 0 48
  have q_24 : (f_16 0 48).toInt = v_22.toInt := (congrArg Int32.toInt (show f_16 0 48 = v_22 from ev_22.symm))
  have k_26 : (1 : Int32).toInt = 1 := by decide
  refine lv_iconst (v := 2) hx hb dX12_sitsAs_90 ic_2 ?_
  refine lv_imul hx hb dX12_sitsAs_91 ?_
  refine lv_topi (fun v_27 ev_27 => ?_)
  exact hret _ _ _ _ (v_27) f_16 L Q dX12_sitsAs_92 hP hS ⟨⟨hI, hF, rfl, rfl⟩, trivial, ⟨by omega, by omega⟩, (Eq.trans (Eq.symm (hs.trans ((spl_e u_8 (spl_e ev_9 (spl2_e u_21 (spl_e ev_22 (spl_e ev_27 rfl)))))))) hsp)⟩

abbrev WkX12_begins_11_f4 : List (Nat × Nat × Option Nat) := [(0, 0, some 48), (21, 21, some 4)]
set_option maxHeartbeats 4000000 in
set_option maxRecDepth 100000 in
theorem kX12_begins_11_f4 (l : Launch) (D : va_G) (ca : Nat → ClassId) (za h : Nat → Nat) (hh : sgH 26 h) (f : sg_F) (L : sg_L) (Q : sg_Q) (hI : sgI loM hiM f) (hf_0_48 : f 0 48 = 4) (p0 : 4 ≤ (f 0 48).toInt ∧ (f 0 48).toInt ≤ 4) (sz : Nat) : Met l yX12_begins gwX12_begins { frames := 0, cells := 0, slots := 0, locals := 0 } (sgP D vwCl (tyX ca) 26 h (eM ca h) zcM za f L Q sz [.ref (h 0), .int 11]) (sgQv D vwCl 26 h (eM ca h) sz (fun f1 L1 Q1 => ((sgI loM hiM f1 ∧ sgK WkX12_begins_11_f4 f f1 ∧ L1 = L ∧ Q1 = Q) ∧ (5 ≤ (f1 0 48).toInt ∧ (f1 0 48).toInt ≤ 5) ∧ (f1) = sX12_begins_11_f4 f L))) 0 0 (sgA 26 h sz) := by
  refine sg_ofWv (cc := cX12_begins) (maxL := 2) RX12 (by decide) rfl rfl (Nat.le_of_ble_eq_true rfl) ?_
  intro p e s m below meth cd Qz ls hx hb hml hown hts hK hZ hP hS hl hret
  have hA := sgY.self (n := 26) (h := h) (sz := s.heap.size)
  have hl : lv_has ls 2 [(0, .ref (h 0)), (1, .int 11)] := hl
  obtain ⟨H, hH⟩ : ∃ z : Heap, z = s.heap := ⟨_, rfl⟩
  obtain ⟨locs, hlo⟩ : ∃ z : List Loc, z = [] := ⟨_, rfl⟩
  have hP : va_P D vwCl (sgw 26 h (eM ca h) f L Q) H := by rw [hH]; exact hP
  have hS : va_S (sgA 26 h s.heap.size) s.heap H locs := by rw [hH, hlo]; exact hS
  suffices hgo : W p l e ({ frames := 0, cells := 0, slots := 0, locals := 0 }) s m ([.ref (h 0), .int 11] : List Value).toArray below meth cd H locs 0 0 Qz (F0 m 0 ls []) by rw [hH, hlo] at hgo; exact hgo
  clear hH hlo
  obtain ⟨sp, hsp⟩ : ∃ z : sg_F, z = sX12_begins_11_f4 f L := ⟨_, rfl⟩
  have hs : sp = sX12_begins_11_f4 f L := hsp
  have o_1 : (f 0 48).toInt = 4 := (congrArg Int32.toInt (show f 0 48 = 4 from hf_0_48)).trans (by decide)
  have hF : sgK WkX12_begins_11_f4 f f := sgK.rf
  have blk_19 : ∀ (fp_19 : sg_F) (H : Heap) (locs : List Loc) (ls : Array Slot), sp = sX12_begins_11_f4_b19 fp_19 L → 4 ≤ (fp_19 0 48).toInt ∧ (fp_19 0 48).toInt ≤ 4 → sgI loM hiM fp_19 → sgK WkX12_begins_11_f4 f fp_19 → va_P D vwCl (sgw 26 h (eM ca h) fp_19 L Q) H → va_S (sgA 26 h s.heap.size) s.heap H locs → lv_has ls 2 [(0, .ref (h 0))] → W p l e ({ frames := 0, cells := 0, slots := 0, locals := 0 }) s m ([.ref (h 0), .int 11] : List Value).toArray below meth cd H locs 0 0 Qz (F0 m 19 ls []) := by
    intro fp_19 H locs ls hs hy0_19 hI hF hP hS hl
    obtain ⟨v_2, ev_2⟩ : ∃ z : Int32, z = fp_19 0 48 := ⟨_, rfl⟩
    have q_3 : 0 ≤ v_2.toInt ∧ v_2.toInt ≤ 19 := by rw [ev_2]; exact hI 0 48
    have q_4 : (fp_19 0 48).toInt = v_2.toInt := by rw [ev_2]
    refine lv_aload_n hx hb dX12_begins_19 rfl (lv_at hl 0 rfl) ?_
    refine lv_dup hx hb dX12_begins_20 rfl ?_
    refine sl_gM_0_48_12 (v := v_2) hx hb hts hown hK hP (show fp_19 0 48 = v_2 from ev_2.symm) dX12_begins_21 ?_
    refine lv_iconst (v := 1) hx hb dX12_begins_24 ic_1 ?_
    refine lv_iadd hx hb dX12_begins_25 ?_
    refine lv_topi (fun v_5 ev_5 => ?_)
    have q_6 : v_5.toInt = v_2.toInt + 1 := by rw [ev_5]; first | exact cm_add ti_1 (by omega) (by omega) | (have k1 : (1 : Int32).toInt = 1 := ti_1; exact (bn_addI (by omega) (by omega)).trans (by omega))
    refine sl_pM_0_48_12 (x := v_5) hx hb hts hown hh hA hK hP hS dX12_begins_26 (fun f_7 H locs ef_7 hP hS => ?_)
    have hI : sgI loM hiM f_7 := by rw [ef_7]; exact sgI.put hI 0 48 (show 0 ≤ (v_5 : Int32).toInt ∧ (v_5 : Int32).toInt ≤ 19 from ⟨by omega, by omega⟩)
    have hF : sgK WkX12_begins_11_f4 f f_7 := sgK.put hF ef_7 (by rfl)
    have q_8 : (f_7 0 48).toInt = v_5.toInt := (congrArg Int32.toInt (show f_7 0 48 = v_5 from (by rw [ef_7, sg_up_s, sgu_s])))
    exact hret _ _ _ _ f_7 L Q dX12_begins_29 hP hS ⟨⟨hI, hF, rfl, rfl⟩, ⟨by omega, by omega⟩, (Eq.trans (Eq.symm (hs.trans ((spl_e ev_2 (spl_e ev_5 (spl_e ef_7 rfl)))))) hsp)⟩
  refine lv_aload_n hx hb dX12_begins_0 rfl (lv_at hl 0 rfl) ?_
  refine sl_gM_0_48_12 (v := 4) hx hb hts hown hK hP (show f 0 48 = 4 from hf_0_48) dX12_begins_1 ?_
  refine lv_bipush (v := 24) hx hb dX12_begins_4 bp_24 ?_
  refine lv_icmp_ge (tgt := 19) hx hb dX12_begins_6 (by decide) (fun c => absurd c (by decide)) (fun c => ?_)
  refine lv_aload_n hx hb dX12_begins_9 rfl (lv_at hl 0 rfl) ?_
  refine sl_gM_0_47_12 hx hb hts hown hK hP dX12_begins_10 ?_
  refine lv_aload_n hx hb dX12_begins_13 rfl (lv_at hl 0 rfl) ?_
  refine sl_gM_0_48_12 (v := 4) hx hb hts hown hK hP (show f 0 48 = 4 from hf_0_48) dX12_begins_14 ?_
  refine lv_iload_n hx hb dX12_begins_17 rfl (lv_at hl 1 rfl) ?_
  refine sg_iast hx hb hh hA hK hP hS 21 (by decide) 0 (fun _ => rfl) rfl (i := 4) (x := 11) (vp_in_iff.mpr (by decide)) dX12_begins_18 (fun f_10 H locs ef_10 hP hS => ?_)
  have ef_10 : f_10 = sg_up f 21 (sgu (f 21) 4 11) := ef_10
  have hI : sgI loM hiM f_10 := by rw [ef_10]; exact sgI.put hI 21 4 (show 0 ≤ (11 : Int32).toInt ∧ (11 : Int32).toInt ≤ 81 from by decide)
  have hF : sgK WkX12_begins_11_f4 f f_10 := sgK.put hF ef_10 (by rfl)
  exact blk_19 f_10 _ _ _ (hs.trans ((spl_e ef_10 rfl))) (by have zz0_48 : (f_10 0 48).toInt = 4 := (congrArg Int32.toInt (show f_10 0 48 = 4 from (by rw [ef_10, sg_up_n (by decide)]; exact hf_0_48))).trans (by decide); exact ⟨by omega, by omega⟩) hI hF hP hS (lv_sub hl [0] rfl)

abbrev WkX12_slipsAs_1_f4_f1 : List (Nat × Nat × Option Nat) := [(0, 0, some 48), (21, 21, some 4)]
set_option maxHeartbeats 4000000 in
set_option maxRecDepth 100000 in
theorem kX12_slipsAs_1_f4_f1 (l : Launch) (D : va_G) (ca : Nat → ClassId) (za h : Nat → Nat) (hh : sgH 26 h) (f : sg_F) (L : sg_L) (Q : sg_Q) (hI : sgI loM hiM f) (x1 : Int32) (hf_0_48 : f 0 48 = 4) (hf_0_49 : f 0 49 = 1) (b1 : 1 ≤ x1.toInt ∧ x1.toInt ≤ 1) (p0 : 4 ≤ (f 0 48).toInt ∧ (f 0 48).toInt ≤ 4) (sz : Nat) : Met l yX12_slipsAs gwX12_slipsAs { frames := 1, cells := 0, slots := 0, locals := 21 } (sgP D vwCl (tyX ca) 26 h (eM ca h) zcM za f L Q sz [.ref (h 0), .int 1, .int x1]) (sgQi D vwCl 26 h (eM ca h) sz (fun r f1 L1 Q1 => ((sgI loM hiM f1 ∧ sgK WkX12_slipsAs_1_f4_f1 f f1 ∧ L1 = L ∧ Q1 = Q) ∧ True ∧ (5 ≤ (f1 0 48).toInt ∧ (f1 0 48).toInt ≤ 5) ∧ (r, f1) = sX12_slipsAs_1_f4_f1 x1 f L))) 0 0 (sgA 26 h sz) := by
  refine sg_ofWi (cc := cX12_slipsAs) (maxL := 4) RX12 (by decide) rfl rfl (Nat.le_of_ble_eq_true rfl) ?_
  intro p e s m below meth cd Qz ls hx hb hml hown hts hK hZ hP hS hl hret
  have hA := sgY.self (n := 26) (h := h) (sz := s.heap.size)
  have hl : lv_has ls 4 [(0, .ref (h 0)), (1, .int 1), (2, .int x1)] := hl
  obtain ⟨H, hH⟩ : ∃ z : Heap, z = s.heap := ⟨_, rfl⟩
  obtain ⟨locs, hlo⟩ : ∃ z : List Loc, z = [] := ⟨_, rfl⟩
  have hP : va_P D vwCl (sgw 26 h (eM ca h) f L Q) H := by rw [hH]; exact hP
  have hS : va_S (sgA 26 h s.heap.size) s.heap H locs := by rw [hH, hlo]; exact hS
  suffices hgo : W p l e ({ frames := 1, cells := 0, slots := 0, locals := 21 }) s m ([.ref (h 0), .int 1, .int x1] : List Value).toArray below meth cd H locs 0 0 Qz (F0 m 0 ls []) by rw [hH, hlo] at hgo; exact hgo
  clear hH hlo
  obtain ⟨sp, hsp⟩ : ∃ z : Int32 × sg_F, z = sX12_slipsAs_1_f4_f1 x1 f L := ⟨_, rfl⟩
  have hs : sp = sX12_slipsAs_1_f4_f1 x1 f L := hsp
  have o_1 : (f 0 48).toInt = 4 := (congrArg Int32.toInt (show f 0 48 = 4 from hf_0_48)).trans (by decide)
  have hF : sgK WkX12_slipsAs_1_f4_f1 f f := sgK.rf
  refine lv_iload_n hx hb dX12_slipsAs_0 rfl (lv_at hl 1 rfl) ?_
  refine lv_iconst (v := 3) hx hb dX12_slipsAs_1 ic_3 ?_
  refine lv_icmp_eq (tgt := 10) hx hb dX12_slipsAs_2 (by decide) (fun c => absurd c (by decide)) (fun c => ?_)
  refine lv_iload_n hx hb dX12_slipsAs_5 rfl (lv_at hl 1 rfl) ?_
  refine lv_iconst (v := 5) hx hb dX12_slipsAs_6 ic_5 ?_
  refine lv_icmp_ne (tgt := 25) hx hb dX12_slipsAs_7 (by decide) (fun c => ?_) (fun c => absurd c (by decide))
  refine lv_iload_n hx hb dX12_slipsAs_25 rfl (lv_at hl 1 rfl) ?_
  refine lv_iconst (v := 4) hx hb dX12_slipsAs_26 ic_4 ?_
  refine lv_icmp_eq (tgt := 36) hx hb dX12_slipsAs_27 (by decide) (fun c => absurd c (by decide)) (fun c => ?_)
  refine lv_iload_n hx hb dX12_slipsAs_30 rfl (lv_at hl 1 rfl) ?_
  refine lv_bipush (v := 7) hx hb dX12_slipsAs_31 bp_7 ?_
  refine lv_icmp_ne (tgt := 61) hx hb dX12_slipsAs_33 (by decide) (fun c => ?_) (fun c => absurd c (by decide))
  refine lv_aload_n hx hb dX12_slipsAs_61 rfl (lv_at hl 0 rfl) ?_
  refine lv_bipush (v := 11) hx hb dX12_slipsAs_62 bp_11 ?_
  have q_2 : (f 0 48).toInt = 4 := (congrArg Int32.toInt (show f 0 48 = 4 from hf_0_48)).trans (by decide)
  refine sg_callv (va_runV (As := [.int 11]) (rest := []) ⟨hx, hb, hml, hown, hts⟩ (kX12_begins_11_f4 l D ca za h hh f L Q hI hf_0_48 (by have k0 : (11 : Int32).toInt = 11 := ti_11; omega) H.size) (sl_c12_begins_0_0_0_0_12 hts ⟨Nat.le_of_ble_eq_true rfl, Nat.le_of_ble_eq_true rfl⟩) (sl_vM_0 hA hK hP hS hZ) rfl rfl hl.1 rfl (lv_room (Nat.le_of_ble_eq_true rfl)) dX12_slipsAs_64 ⟨Nat.le_refl _, Nat.le_refl _⟩) hA hS (fun f_4 L_5 Q_6 H locs hq hP hS => ?_)
  obtain ⟨⟨hI, hk_f_4, eL9, eQ9⟩, p_7, u_8⟩ := hq
  rw [eL9, eQ9] at hP; clear eL9 eQ9
  have hF : sgK WkX12_slipsAs_1_f4_f1 f f_4 := sgK.tr hF hk_f_4 (by decide +kernel)
  obtain ⟨v_9, ev_9⟩ : ∃ z : Int32, z = f_4 0 48 := ⟨_, rfl⟩
  have q_10 : 0 ≤ v_9.toInt ∧ v_9.toInt ≤ 19 := by rw [ev_9]; exact hI 0 48
  have q_11 : (f_4 0 48).toInt = v_9.toInt := (congrArg Int32.toInt (show f_4 0 48 = v_9 from ev_9.symm))
  refine lv_iload_n hx hb dX12_slipsAs_67 rfl (lv_at hl 2 rfl) ?_
  refine lv_aload_n hx hb dX12_slipsAs_68 rfl (lv_at hl 0 rfl) ?_
  refine sl_gM_0_50_12 (v := (f_4 0 50)) hx hb hts hown hK hP rfl dX12_slipsAs_69 ?_
  refine lv_topi (fun v_13 ev_13 => ?_)
  have q_14 : 0 ≤ v_13.toInt ∧ v_13.toInt ≤ 49 := by rw [ev_13]; exact hI 0 50
  refine lv_ixor hx hb dX12_slipsAs_72 ?_
  refine lv_topi (fun v_15 ev_15 => ?_)
  exact hret _ _ _ _ (v_15) f_4 L Q dX12_slipsAs_73 hP hS ⟨⟨hI, hF, rfl, rfl⟩, trivial, ⟨by omega, by omega⟩, (Eq.trans (Eq.symm (hs.trans ((spl_e u_8 (spl_e ev_9 (spl_e ev_13 (spl_e ev_15 rfl))))))) hsp)⟩

abbrev WkX12_tellsAs_1_f0_f1 : List (Nat × Nat × Option Nat) := [(0, 0, some 48), (21, 21, some 0), (21, 21, some 1), (21, 21, some 2), (21, 21, some 3), (21, 21, some 4)]
set_option maxHeartbeats 4000000 in
set_option maxRecDepth 100000 in
theorem kX12_tellsAs_1_f0_f1 (l : Launch) (D : va_G) (ca : Nat → ClassId) (za h : Nat → Nat) (hh : sgH 26 h) (f : sg_F) (L : sg_L) (Q : sg_Q) (hI : sgI loM hiM f) (x1 : Int32) (hf_0_48 : f 0 48 = 0) (hf_0_49 : f 0 49 = 1) (p0 : 0 ≤ (f 0 48).toInt ∧ (f 0 48).toInt ≤ 0) (sz : Nat) : Met l yX12_tellsAs gwX12_tellsAs { frames := 4, cells := 0, slots := 0, locals := 88 } (sgP D vwCl (tyX ca) 26 h (eM ca h) zcM za f L Q sz [.ref (h 0), .int 1, .int x1]) (sgQi D vwCl 26 h (eM ca h) sz (fun r f1 L1 Q1 => ((sgI loM hiM f1 ∧ sgK WkX12_tellsAs_1_f0_f1 f f1 ∧ L1 = L ∧ Q1 = Q) ∧ True ∧ (5 ≤ (f1 0 48).toInt ∧ (f1 0 48).toInt ≤ 5) ∧ (r, f1) = sX12_tellsAs_1_f0_f1 x1 f L))) 0 0 (sgA 26 h sz) := by
  refine sg_ofWi (cc := cX12_tellsAs) (maxL := 4) RX12 (by decide) rfl rfl (Nat.le_of_ble_eq_true rfl) ?_
  intro p e s m below meth cd Qz ls hx hb hml hown hts hK hZ hP hS hl hret
  have hA := sgY.self (n := 26) (h := h) (sz := s.heap.size)
  have hl : lv_has ls 4 [(0, .ref (h 0)), (1, .int 1), (2, .int x1)] := hl
  obtain ⟨H, hH⟩ : ∃ z : Heap, z = s.heap := ⟨_, rfl⟩
  obtain ⟨locs, hlo⟩ : ∃ z : List Loc, z = [] := ⟨_, rfl⟩
  have hP : va_P D vwCl (sgw 26 h (eM ca h) f L Q) H := by rw [hH]; exact hP
  have hS : va_S (sgA 26 h s.heap.size) s.heap H locs := by rw [hH, hlo]; exact hS
  suffices hgo : W p l e ({ frames := 4, cells := 0, slots := 0, locals := 88 }) s m ([.ref (h 0), .int 1, .int x1] : List Value).toArray below meth cd H locs 0 0 Qz (F0 m 0 ls []) by rw [hH, hlo] at hgo; exact hgo
  clear hH hlo
  obtain ⟨sp, hsp⟩ : ∃ z : Int32 × sg_F, z = sX12_tellsAs_1_f0_f1 x1 f L := ⟨_, rfl⟩
  have hs : sp = sX12_tellsAs_1_f0_f1 x1 f L := hsp
  have o_1 : (f 0 48).toInt = 0 := (congrArg Int32.toInt (show f 0 48 = 0 from hf_0_48)).trans (by decide)
  have hF : sgK WkX12_tellsAs_1_f0_f1 f f := sgK.rf
  refine lv_iload_n hx hb dX12_tellsAs_0 rfl (lv_at hl 1 rfl) ?_
  refine lv_iconst (v := 5) hx hb dX12_tellsAs_1 ic_5 ?_
  refine lv_icmp_ne (tgt := 20) hx hb dX12_tellsAs_2 (by decide) (fun c => ?_) (fun c => absurd c (by decide))
  refine lv_iload_n hx hb dX12_tellsAs_20 rfl (lv_at hl 1 rfl) ?_
  refine lv_bipush (v := 7) hx hb dX12_tellsAs_21 bp_7 ?_
  refine lv_icmp_ne (tgt := 41) hx hb dX12_tellsAs_23 (by decide) (fun c => ?_) (fun c => absurd c (by decide))
  refine lv_aload_n hx hb dX12_tellsAs_41 rfl (lv_at hl 0 rfl) ?_
  refine lv_iconst (v := 2) hx hb dX12_tellsAs_42 ic_2 ?_
  have q_2 : (f 0 48).toInt = 0 := (congrArg Int32.toInt (show f 0 48 = 0 from hf_0_48)).trans (by decide)
  refine sg_callv (va_runV (As := [.int 2]) (rest := []) ⟨hx, hb, hml, hown, hts⟩ (kX12_begins_2_f0 l D ca za h hh f L Q hI hf_0_48 (by have k0 : (2 : Int32).toInt = 2 := ti_2; omega) H.size) (sl_c12_begins_0_0_0_0_12 hts ⟨Nat.le_of_ble_eq_true rfl, Nat.le_of_ble_eq_true rfl⟩) (sl_vM_0 hA hK hP hS hZ) rfl rfl hl.1 rfl (lv_room (Nat.le_of_ble_eq_true rfl)) dX12_tellsAs_43 ⟨Nat.le_refl _, Nat.le_refl _⟩) hA hS (fun f_4 L_5 Q_6 H locs hq hP hS => ?_)
  obtain ⟨⟨hI, hk_f_4, eL9, eQ9⟩, p_7, u_8⟩ := hq
  rw [eL9, eQ9] at hP; clear eL9 eQ9
  have hF : sgK WkX12_tellsAs_1_f0_f1 f f_4 := sgK.tr hF hk_f_4 (by decide +kernel)
  obtain ⟨v_9, ev_9⟩ : ∃ z : Int32, z = f_4 0 48 := ⟨_, rfl⟩
  have q_10 : 0 ≤ v_9.toInt ∧ v_9.toInt ≤ 19 := by rw [ev_9]; exact hI 0 48
  have q_11 : (f_4 0 48).toInt = v_9.toInt := (congrArg Int32.toInt (show f_4 0 48 = v_9 from ev_9.symm))
  refine lv_aload_n hx hb dX12_tellsAs_46 rfl (lv_at hl 0 rfl) ?_
  refine lv_aload_n hx hb dX12_tellsAs_47 rfl (lv_at hl 0 rfl) ?_
  refine sl_gM_0_49_12 (v := 1) hx hb hts hown hK hP (show f_4 0 49 = 1 from ((hk_f_4 0 49 (by decide)).trans hf_0_49)) dX12_tellsAs_48 ?_
  refine lv_iload_n hx hb dX12_tellsAs_51 rfl (lv_at hl 2 rfl) ?_
  have c_13 : v_9 = 1 := Int32.toInt_inj.mp (by have k9 : (1 : Int32).toInt = 1 := ti_1; omega)
  have q_14 : (f_4 0 48).toInt = 1 := (congrArg Int32.toInt (show f_4 0 48 = 1 from (Eq.trans ev_9.symm c_13))).trans (by decide)
  refine sg_calli (va_runV (As := [.int 1, .int x1]) (rest := []) ⟨hx, hb, hml, hown, hts⟩ (kX12_sitsAs_1_f1_f1 l D ca za h hh f_4 L Q hI x1 (Eq.trans ev_9.symm c_13) ((hk_f_4 0 49 (by decide)).trans hf_0_49) (by have k0 : (1 : Int32).toInt = 1 := ti_1; omega) H.size) (sl_c12_sitsAs_3_0_0_65_12 hts ⟨Nat.le_of_ble_eq_true rfl, Nat.le_of_ble_eq_true rfl⟩) (sl_vM_0 hA hK hP hS hZ) rfl rfl hl.1 rfl (lv_room (Nat.le_of_ble_eq_true rfl)) dX12_tellsAs_52 ⟨Nat.le_refl _, Nat.le_refl _⟩) hA hS (fun r_19 f_16 L_17 Q_18 H locs hq hP hS => ?_)
  obtain ⟨⟨hI, hk_f_16, eL9, eQ9⟩, hq, p_20, u_21⟩ := hq
  rw [eL9, eQ9] at hP; clear eL9 eQ9
  have hF : sgK WkX12_tellsAs_1_f0_f1 f f_16 := sgK.tr hF hk_f_16 (by decide +kernel)
  obtain ⟨v_22, ev_22⟩ : ∃ z : Int32, z = f_16 0 48 := ⟨_, rfl⟩
  have q_23 : 0 ≤ v_22.toInt ∧ v_22.toInt ≤ 19 := by rw [ev_22]; exact hI 0 48
  have q_24 : (f_16 0 48).toInt = v_22.toInt := (congrArg Int32.toInt (show f_16 0 48 = v_22 from ev_22.symm))
  have k_26 : (1 : Int32).toInt = 1 := by decide
  refine lv_istore_n (lv' := [(3, .int r_19), (0, .ref (h 0)), (1, .int 1), (2, .int x1)]) hx hb dX12_tellsAs_55 rfl hl (by decide) rfl (fun ls hl => ?_)
  refine lv_iload_n hx hb dX12_tellsAs_56 rfl (lv_at hl 0 rfl) ?_
  refine lv_aload_n hx hb dX12_tellsAs_57 rfl (lv_at hl 1 rfl) ?_
  refine lv_aload_n hx hb dX12_tellsAs_58 rfl (lv_at hl 1 rfl) ?_
  refine sl_gM_0_49_12 (v := 1) hx hb hts hown hK hP (show f_16 0 49 = 1 from ((hk_f_16 0 49 (by decide)).trans ((hk_f_4 0 49 (by decide)).trans hf_0_49))) dX12_tellsAs_59 ?_
  refine lv_iconst (v := 1) hx hb dX12_tellsAs_62 ic_1 ?_
  have c_27 : v_22 = 4 := Int32.toInt_inj.mp (by have k9 : (4 : Int32).toInt = 4 := ti_4; omega)
  have q_28 : (f_16 0 48).toInt = 4 := (congrArg Int32.toInt (show f_16 0 48 = 4 from (Eq.trans ev_22.symm c_27))).trans (by decide)
  refine sg_calli (va_runV (As := [.int 1, .int 1]) (rest := [.int r_19]) ⟨hx, hb, hml, hown, hts⟩ (kX12_slipsAs_1_f4_f1 l D ca za h hh f_16 L Q hI 1 (Eq.trans ev_22.symm c_27) ((hk_f_16 0 49 (by decide)).trans ((hk_f_4 0 49 (by decide)).trans hf_0_49)) (by decide) (by have k0 : (1 : Int32).toInt = 1 := ti_1; have k1 : (1 : Int32).toInt = 1 := ti_1; omega) H.size) (sl_c12_slipsAs_1_0_0_21_12 hts ⟨Nat.le_of_ble_eq_true rfl, Nat.le_of_ble_eq_true rfl⟩) (sl_vM_0 hA hK hP hS hZ) rfl rfl hl.1 rfl (lv_room (Nat.le_of_ble_eq_true rfl)) dX12_tellsAs_63 ⟨Nat.le_refl _, Nat.le_refl _⟩) hA hS (fun r_33 f_30 L_31 Q_32 H locs hq hP hS => ?_)
  obtain ⟨⟨hI, hk_f_30, eL9, eQ9⟩, hq, p_34, u_35⟩ := hq
  rw [eL9, eQ9] at hP; clear eL9 eQ9
  have hF : sgK WkX12_tellsAs_1_f0_f1 f f_30 := sgK.tr hF hk_f_30 (by decide +kernel)
  obtain ⟨v_36, ev_36⟩ : ∃ z : Int32, z = f_30 0 48 := ⟨_, rfl⟩
  have q_37 : 0 ≤ v_36.toInt ∧ v_36.toInt ≤ 19 := by rw [ev_36]; exact hI 0 48
  have q_38 : (f_30 0 48).toInt = v_36.toInt := (congrArg Int32.toInt (show f_30 0 48 = v_36 from ev_36.symm))
  have k_40 : (1 : Int32).toInt = 1 := by decide
  have k_41 : (1 : Int32).toInt = 1 := by decide
  refine lv_isub hx hb dX12_tellsAs_66 ?_
  refine lv_topi (fun v_42 ev_42 => ?_)
  exact hret _ _ _ _ (v_42) f_30 L Q dX12_tellsAs_67 hP hS ⟨⟨hI, hF, rfl, rfl⟩, trivial, ⟨by omega, by omega⟩, (Eq.trans (Eq.symm (hs.trans ((spl_e u_8 (spl_e ev_9 (spl2_e u_21 (spl_e ev_22 (spl2_e u_35 (spl_e ev_36 (spl_e ev_42 rfl)))))))))) hsp)⟩

abbrev WkX12_setsAs_2_f3_f2 : List (Nat × Nat × Option Nat) := [(0, 0, some 48), (21, 21, some 3)]
set_option maxHeartbeats 4000000 in
set_option maxRecDepth 100000 in
theorem kX12_setsAs_2_f3_f2 (l : Launch) (D : va_G) (ca : Nat → ClassId) (za h : Nat → Nat) (hh : sgH 26 h) (f : sg_F) (L : sg_L) (Q : sg_Q) (hI : sgI loM hiM f) (x1 : Int32) (hf_0_48 : f 0 48 = 3) (hf_0_49 : f 0 49 = 2) (p0 : 3 ≤ (f 0 48).toInt ∧ (f 0 48).toInt ≤ 3) (sz : Nat) : Met l yX12_setsAs gwX12_setsAs { frames := 1, cells := 0, slots := 0, locals := 21 } (sgP D vwCl (tyX ca) 26 h (eM ca h) zcM za f L Q sz [.ref (h 0), .int 2, .int x1]) (sgQi D vwCl 26 h (eM ca h) sz (fun r f1 L1 Q1 => ((sgI loM hiM f1 ∧ sgK WkX12_setsAs_2_f3_f2 f f1 ∧ L1 = L ∧ Q1 = Q) ∧ True ∧ (4 ≤ (f1 0 48).toInt ∧ (f1 0 48).toInt ≤ 4) ∧ (r, f1) = sX12_setsAs_2_f3_f2 x1 f L))) 0 0 (sgA 26 h sz) := by
  refine sg_ofWi (cc := cX12_setsAs) (maxL := 3) RX12 (by decide) rfl rfl (Nat.le_of_ble_eq_true rfl) ?_
  intro p e s m below meth cd Qz ls hx hb hml hown hts hK hZ hP hS hl hret
  have hA := sgY.self (n := 26) (h := h) (sz := s.heap.size)
  have hl : lv_has ls 3 [(0, .ref (h 0)), (1, .int 2), (2, .int x1)] := hl
  obtain ⟨H, hH⟩ : ∃ z : Heap, z = s.heap := ⟨_, rfl⟩
  obtain ⟨locs, hlo⟩ : ∃ z : List Loc, z = [] := ⟨_, rfl⟩
  have hP : va_P D vwCl (sgw 26 h (eM ca h) f L Q) H := by rw [hH]; exact hP
  have hS : va_S (sgA 26 h s.heap.size) s.heap H locs := by rw [hH, hlo]; exact hS
  suffices hgo : W p l e ({ frames := 1, cells := 0, slots := 0, locals := 21 }) s m ([.ref (h 0), .int 2, .int x1] : List Value).toArray below meth cd H locs 0 0 Qz (F0 m 0 ls []) by rw [hH, hlo] at hgo; exact hgo
  clear hH hlo
  obtain ⟨sp, hsp⟩ : ∃ z : Int32 × sg_F, z = sX12_setsAs_2_f3_f2 x1 f L := ⟨_, rfl⟩
  have hs : sp = sX12_setsAs_2_f3_f2 x1 f L := hsp
  have o_1 : (f 0 48).toInt = 3 := (congrArg Int32.toInt (show f 0 48 = 3 from hf_0_48)).trans (by decide)
  have hF : sgK WkX12_setsAs_2_f3_f2 f f := sgK.rf
  refine lv_iload_n hx hb dX12_setsAs_0 rfl (lv_at hl 1 rfl) ?_
  refine lv_iconst (v := 1) hx hb dX12_setsAs_1 ic_1 ?_
  refine lv_icmp_eq (tgt := 16) hx hb dX12_setsAs_2 (by decide) (fun c => absurd c (by decide)) (fun c => ?_)
  refine lv_iload_n hx hb dX12_setsAs_5 rfl (lv_at hl 1 rfl) ?_
  refine lv_iconst (v := 4) hx hb dX12_setsAs_6 ic_4 ?_
  refine lv_icmp_eq (tgt := 16) hx hb dX12_setsAs_7 (by decide) (fun c => absurd c (by decide)) (fun c => ?_)
  refine lv_iload_n hx hb dX12_setsAs_10 rfl (lv_at hl 1 rfl) ?_
  refine lv_bipush (v := 7) hx hb dX12_setsAs_11 bp_7 ?_
  refine lv_icmp_ne (tgt := 31) hx hb dX12_setsAs_13 (by decide) (fun c => ?_) (fun c => absurd c (by decide))
  refine lv_iload_n hx hb dX12_setsAs_31 rfl (lv_at hl 1 rfl) ?_
  refine lv_bipush (v := 6) hx hb dX12_setsAs_32 bp_6 ?_
  refine lv_icmp_ne (tgt := 52) hx hb dX12_setsAs_34 (by decide) (fun c => ?_) (fun c => absurd c (by decide))
  refine lv_aload_n hx hb dX12_setsAs_52 rfl (lv_at hl 0 rfl) ?_
  refine lv_iconst (v := 1) hx hb dX12_setsAs_53 ic_1 ?_
  have q_2 : (f 0 48).toInt = 3 := (congrArg Int32.toInt (show f 0 48 = 3 from hf_0_48)).trans (by decide)
  refine sg_callv (va_runV (As := [.int 1]) (rest := []) ⟨hx, hb, hml, hown, hts⟩ (kX12_begins_1_f3 l D ca za h hh f L Q hI hf_0_48 (by have k0 : (1 : Int32).toInt = 1 := ti_1; omega) H.size) (sl_c12_begins_0_0_0_0_12 hts ⟨Nat.le_of_ble_eq_true rfl, Nat.le_of_ble_eq_true rfl⟩) (sl_vM_0 hA hK hP hS hZ) rfl rfl hl.1 rfl (lv_room (Nat.le_of_ble_eq_true rfl)) dX12_setsAs_54 ⟨Nat.le_refl _, Nat.le_refl _⟩) hA hS (fun f_4 L_5 Q_6 H locs hq hP hS => ?_)
  obtain ⟨⟨hI, hk_f_4, eL9, eQ9⟩, p_7, u_8⟩ := hq
  rw [eL9, eQ9] at hP; clear eL9 eQ9
  have hF : sgK WkX12_setsAs_2_f3_f2 f f_4 := sgK.tr hF hk_f_4 (by decide +kernel)
  obtain ⟨v_9, ev_9⟩ : ∃ z : Int32, z = f_4 0 48 := ⟨_, rfl⟩
  have q_10 : 0 ≤ v_9.toInt ∧ v_9.toInt ≤ 19 := by rw [ev_9]; exact hI 0 48
  have q_11 : (f_4 0 48).toInt = v_9.toInt := (congrArg Int32.toInt (show f_4 0 48 = v_9 from ev_9.symm))
  refine lv_iload_n hx hb dX12_setsAs_57 rfl (lv_at hl 2 rfl) ?_
  refine lv_aload_n hx hb dX12_setsAs_58 rfl (lv_at hl 0 rfl) ?_
  refine sl_gM_0_50_12 (v := (f_4 0 50)) hx hb hts hown hK hP rfl dX12_setsAs_59 ?_
  refine lv_topi (fun v_13 ev_13 => ?_)
  have q_14 : 0 ≤ v_13.toInt ∧ v_13.toInt ≤ 49 := by rw [ev_13]; exact hI 0 50
  refine lv_iadd hx hb dX12_setsAs_62 ?_
  refine lv_topi (fun v_15 ev_15 => ?_)
  exact hret _ _ _ _ (v_15) f_4 L Q dX12_setsAs_63 hP hS ⟨⟨hI, hF, rfl, rfl⟩, trivial, ⟨by omega, by omega⟩, (Eq.trans (Eq.symm (hs.trans ((spl_e u_8 (spl_e ev_9 (spl_e ev_13 (spl_e ev_15 rfl))))))) hsp)⟩

abbrev WkX12_sitsAs_0_f2_f2 : List (Nat × Nat × Option Nat) := [(0, 0, some 48), (21, 21, some 2), (21, 21, some 3)]
set_option maxHeartbeats 4000000 in
set_option maxRecDepth 100000 in
theorem kX12_sitsAs_0_f2_f2 (l : Launch) (D : va_G) (ca : Nat → ClassId) (za h : Nat → Nat) (hh : sgH 26 h) (f : sg_F) (L : sg_L) (Q : sg_Q) (hI : sgI loM hiM f) (x1 : Int32) (hf_0_48 : f 0 48 = 2) (hf_0_49 : f 0 49 = 2) (p0 : 2 ≤ (f 0 48).toInt ∧ (f 0 48).toInt ≤ 2) (sz : Nat) : Met l yX12_sitsAs gwX12_sitsAs { frames := 2, cells := 0, slots := 0, locals := 43 } (sgP D vwCl (tyX ca) 26 h (eM ca h) zcM za f L Q sz [.ref (h 0), .int 0, .int x1]) (sgQi D vwCl 26 h (eM ca h) sz (fun r f1 L1 Q1 => ((sgI loM hiM f1 ∧ sgK WkX12_sitsAs_0_f2_f2 f f1 ∧ L1 = L ∧ Q1 = Q) ∧ True ∧ (4 ≤ (f1 0 48).toInt ∧ (f1 0 48).toInt ≤ 4) ∧ (r, f1) = sX12_sitsAs_0_f2_f2 x1 f L))) 0 0 (sgA 26 h sz) := by
  refine sg_ofWi (cc := cX12_sitsAs) (maxL := 4) RX12 (by decide) rfl rfl (Nat.le_of_ble_eq_true rfl) ?_
  intro p e s m below meth cd Qz ls hx hb hml hown hts hK hZ hP hS hl hret
  have hA := sgY.self (n := 26) (h := h) (sz := s.heap.size)
  have hl : lv_has ls 4 [(0, .ref (h 0)), (1, .int 0), (2, .int x1)] := hl
  obtain ⟨H, hH⟩ : ∃ z : Heap, z = s.heap := ⟨_, rfl⟩
  obtain ⟨locs, hlo⟩ : ∃ z : List Loc, z = [] := ⟨_, rfl⟩
  have hP : va_P D vwCl (sgw 26 h (eM ca h) f L Q) H := by rw [hH]; exact hP
  have hS : va_S (sgA 26 h s.heap.size) s.heap H locs := by rw [hH, hlo]; exact hS
  suffices hgo : W p l e ({ frames := 2, cells := 0, slots := 0, locals := 43 }) s m ([.ref (h 0), .int 0, .int x1] : List Value).toArray below meth cd H locs 0 0 Qz (F0 m 0 ls []) by rw [hH, hlo] at hgo; exact hgo
  clear hH hlo
  obtain ⟨sp, hsp⟩ : ∃ z : Int32 × sg_F, z = sX12_sitsAs_0_f2_f2 x1 f L := ⟨_, rfl⟩
  have hs : sp = sX12_sitsAs_0_f2_f2 x1 f L := hsp
  have o_1 : (f 0 48).toInt = 2 := (congrArg Int32.toInt (show f 0 48 = 2 from hf_0_48)).trans (by decide)
  have hF : sgK WkX12_sitsAs_0_f2_f2 f f := sgK.rf
  refine lv_iload_n hx hb dX12_sitsAs_0 rfl (lv_at hl 1 rfl) ?_
  refine lv_iconst (v := 3) hx hb dX12_sitsAs_1 ic_3 ?_
  refine lv_icmp_eq (tgt := 10) hx hb dX12_sitsAs_2 (by decide) (fun c => absurd c (by decide)) (fun c => ?_)
  refine lv_iload_n hx hb dX12_sitsAs_5 rfl (lv_at hl 1 rfl) ?_
  refine lv_iconst (v := 5) hx hb dX12_sitsAs_6 ic_5 ?_
  refine lv_icmp_ne (tgt := 25) hx hb dX12_sitsAs_7 (by decide) (fun c => ?_) (fun c => absurd c (by decide))
  refine lv_iload_n hx hb dX12_sitsAs_25 rfl (lv_at hl 1 rfl) ?_
  refine lv_iconst (v := 2) hx hb dX12_sitsAs_26 ic_2 ?_
  refine lv_icmp_ne (tgt := 44) hx hb dX12_sitsAs_27 (by decide) (fun c => ?_) (fun c => absurd c (by decide))
  refine lv_iload_n hx hb dX12_sitsAs_44 rfl (lv_at hl 1 rfl) ?_
  refine lv_bipush (v := 7) hx hb dX12_sitsAs_45 bp_7 ?_
  refine lv_icmp_ne (tgt := 75) hx hb dX12_sitsAs_47 (by decide) (fun c => ?_) (fun c => absurd c (by decide))
  refine lv_aload_n hx hb dX12_sitsAs_75 rfl (lv_at hl 0 rfl) ?_
  refine lv_bipush (v := 10) hx hb dX12_sitsAs_76 bp_10 ?_
  have q_2 : (f 0 48).toInt = 2 := (congrArg Int32.toInt (show f 0 48 = 2 from hf_0_48)).trans (by decide)
  refine sg_callv (va_runV (As := [.int 10]) (rest := []) ⟨hx, hb, hml, hown, hts⟩ (kX12_begins_10_f2 l D ca za h hh f L Q hI hf_0_48 (by have k0 : (10 : Int32).toInt = 10 := ti_10; omega) H.size) (sl_c12_begins_0_0_0_0_12 hts ⟨Nat.le_of_ble_eq_true rfl, Nat.le_of_ble_eq_true rfl⟩) (sl_vM_0 hA hK hP hS hZ) rfl rfl hl.1 rfl (lv_room (Nat.le_of_ble_eq_true rfl)) dX12_sitsAs_78 ⟨Nat.le_refl _, Nat.le_refl _⟩) hA hS (fun f_4 L_5 Q_6 H locs hq hP hS => ?_)
  obtain ⟨⟨hI, hk_f_4, eL9, eQ9⟩, p_7, u_8⟩ := hq
  rw [eL9, eQ9] at hP; clear eL9 eQ9
  have hF : sgK WkX12_sitsAs_0_f2_f2 f f_4 := sgK.tr hF hk_f_4 (by decide +kernel)
  obtain ⟨v_9, ev_9⟩ : ∃ z : Int32, z = f_4 0 48 := ⟨_, rfl⟩
  have q_10 : 0 ≤ v_9.toInt ∧ v_9.toInt ≤ 19 := by rw [ev_9]; exact hI 0 48
  have q_11 : (f_4 0 48).toInt = v_9.toInt := (congrArg Int32.toInt (show f_4 0 48 = v_9 from ev_9.symm))
  refine lv_aload_n hx hb dX12_sitsAs_81 rfl (lv_at hl 0 rfl) ?_
  refine lv_aload_n hx hb dX12_sitsAs_82 rfl (lv_at hl 0 rfl) ?_
  refine sl_gM_0_49_12 (v := 2) hx hb hts hown hK hP (show f_4 0 49 = 2 from ((hk_f_4 0 49 (by decide)).trans hf_0_49)) dX12_sitsAs_83 ?_
  refine lv_iload_n hx hb dX12_sitsAs_86 rfl (lv_at hl 2 rfl) ?_
  have c_13 : v_9 = 3 := Int32.toInt_inj.mp (by have k9 : (3 : Int32).toInt = 3 := ti_3; omega)
  have q_14 : (f_4 0 48).toInt = 3 := (congrArg Int32.toInt (show f_4 0 48 = 3 from (Eq.trans ev_9.symm c_13))).trans (by decide)
  refine sg_calli (va_runV (As := [.int 2, .int x1]) (rest := []) ⟨hx, hb, hml, hown, hts⟩ (kX12_setsAs_2_f3_f2 l D ca za h hh f_4 L Q hI x1 (Eq.trans ev_9.symm c_13) ((hk_f_4 0 49 (by decide)).trans hf_0_49) (by have k0 : (2 : Int32).toInt = 2 := ti_2; omega) H.size) (sl_c12_setsAs_1_0_0_21_12 hts ⟨Nat.le_of_ble_eq_true rfl, Nat.le_of_ble_eq_true rfl⟩) (sl_vM_0 hA hK hP hS hZ) rfl rfl hl.1 rfl (lv_room (Nat.le_of_ble_eq_true rfl)) dX12_sitsAs_87 ⟨Nat.le_refl _, Nat.le_refl _⟩) hA hS (fun r_19 f_16 L_17 Q_18 H locs hq hP hS => ?_)
  obtain ⟨⟨hI, hk_f_16, eL9, eQ9⟩, hq, p_20, u_21⟩ := hq
  rw [eL9, eQ9] at hP; clear eL9 eQ9
  have hF : sgK WkX12_sitsAs_0_f2_f2 f f_16 := sgK.tr hF hk_f_16 (by decide +kernel)
  obtain ⟨v_22, ev_22⟩ : ∃ z : Int32, z = f_16 0 48 := ⟨_, rfl⟩
  have q_23 : 0 ≤ v_22.toInt ∧ v_22.toInt ≤ 19 := by rw [ev_22]; exact hI 0 48
  have q_24 : (f_16 0 48).toInt = v_22.toInt := (congrArg Int32.toInt (show f_16 0 48 = v_22 from ev_22.symm))
  have k_26 : (2 : Int32).toInt = 2 := by decide
  refine lv_iconst (v := 2) hx hb dX12_sitsAs_90 ic_2 ?_
  refine lv_imul hx hb dX12_sitsAs_91 ?_
  refine lv_topi (fun v_27 ev_27 => ?_)
  exact hret _ _ _ _ (v_27) f_16 L Q dX12_sitsAs_92 hP hS ⟨⟨hI, hF, rfl, rfl⟩, trivial, ⟨by omega, by omega⟩, (Eq.trans (Eq.symm (hs.trans ((spl_e u_8 (spl_e ev_9 (spl2_e u_21 (spl_e ev_22 (spl_e ev_27 rfl)))))))) hsp)⟩

abbrev WkX12_sitsAs_2_f1_f2 : List (Nat × Nat × Option Nat) := [(0, 0, some 48), (21, 21, some 1), (21, 21, some 2), (21, 21, some 3)]
set_option maxHeartbeats 4000000 in
set_option maxRecDepth 100000 in
theorem kX12_sitsAs_2_f1_f2 (l : Launch) (D : va_G) (ca : Nat → ClassId) (za h : Nat → Nat) (hh : sgH 26 h) (f : sg_F) (L : sg_L) (Q : sg_Q) (hI : sgI loM hiM f) (x1 : Int32) (hf_0_48 : f 0 48 = 1) (hf_0_49 : f 0 49 = 2) (p0 : 1 ≤ (f 0 48).toInt ∧ (f 0 48).toInt ≤ 1) (sz : Nat) : Met l yX12_sitsAs gwX12_sitsAs { frames := 3, cells := 0, slots := 0, locals := 66 } (sgP D vwCl (tyX ca) 26 h (eM ca h) zcM za f L Q sz [.ref (h 0), .int 2, .int x1]) (sgQi D vwCl 26 h (eM ca h) sz (fun r f1 L1 Q1 => ((sgI loM hiM f1 ∧ sgK WkX12_sitsAs_2_f1_f2 f f1 ∧ L1 = L ∧ Q1 = Q) ∧ True ∧ (4 ≤ (f1 0 48).toInt ∧ (f1 0 48).toInt ≤ 4) ∧ (r, f1) = sX12_sitsAs_2_f1_f2 x1 f L))) 0 0 (sgA 26 h sz) := by
  refine sg_ofWi (cc := cX12_sitsAs) (maxL := 4) RX12 (by decide) rfl rfl (Nat.le_of_ble_eq_true rfl) ?_
  intro p e s m below meth cd Qz ls hx hb hml hown hts hK hZ hP hS hl hret
  have hA := sgY.self (n := 26) (h := h) (sz := s.heap.size)
  have hl : lv_has ls 4 [(0, .ref (h 0)), (1, .int 2), (2, .int x1)] := hl
  obtain ⟨H, hH⟩ : ∃ z : Heap, z = s.heap := ⟨_, rfl⟩
  obtain ⟨locs, hlo⟩ : ∃ z : List Loc, z = [] := ⟨_, rfl⟩
  have hP : va_P D vwCl (sgw 26 h (eM ca h) f L Q) H := by rw [hH]; exact hP
  have hS : va_S (sgA 26 h s.heap.size) s.heap H locs := by rw [hH, hlo]; exact hS
  suffices hgo : W p l e ({ frames := 3, cells := 0, slots := 0, locals := 66 }) s m ([.ref (h 0), .int 2, .int x1] : List Value).toArray below meth cd H locs 0 0 Qz (F0 m 0 ls []) by rw [hH, hlo] at hgo; exact hgo
  clear hH hlo
  obtain ⟨sp, hsp⟩ : ∃ z : Int32 × sg_F, z = sX12_sitsAs_2_f1_f2 x1 f L := ⟨_, rfl⟩
  have hs : sp = sX12_sitsAs_2_f1_f2 x1 f L := hsp
  have o_1 : (f 0 48).toInt = 1 := (congrArg Int32.toInt (show f 0 48 = 1 from hf_0_48)).trans (by decide)
  have hF : sgK WkX12_sitsAs_2_f1_f2 f f := sgK.rf
  refine lv_iload_n hx hb dX12_sitsAs_0 rfl (lv_at hl 1 rfl) ?_
  refine lv_iconst (v := 3) hx hb dX12_sitsAs_1 ic_3 ?_
  refine lv_icmp_eq (tgt := 10) hx hb dX12_sitsAs_2 (by decide) (fun c => absurd c (by decide)) (fun c => ?_)
  refine lv_iload_n hx hb dX12_sitsAs_5 rfl (lv_at hl 1 rfl) ?_
  refine lv_iconst (v := 5) hx hb dX12_sitsAs_6 ic_5 ?_
  refine lv_icmp_ne (tgt := 25) hx hb dX12_sitsAs_7 (by decide) (fun c => ?_) (fun c => absurd c (by decide))
  refine lv_iload_n hx hb dX12_sitsAs_25 rfl (lv_at hl 1 rfl) ?_
  refine lv_iconst (v := 2) hx hb dX12_sitsAs_26 ic_2 ?_
  refine lv_icmp_ne (tgt := 44) hx hb dX12_sitsAs_27 (by decide) (fun c => absurd c (by decide)) (fun c => ?_)
  refine lv_aload_n hx hb dX12_sitsAs_30 rfl (lv_at hl 0 rfl) ?_
  refine lv_bipush (v := 30) hx hb dX12_sitsAs_31 bp_30 ?_
  have q_2 : (f 0 48).toInt = 1 := (congrArg Int32.toInt (show f 0 48 = 1 from hf_0_48)).trans (by decide)
  refine sg_callv (va_runV (As := [.int 30]) (rest := []) ⟨hx, hb, hml, hown, hts⟩ (kX12_begins_30_f1 l D ca za h hh f L Q hI hf_0_48 (by have k0 : (30 : Int32).toInt = 30 := ti_30; omega) H.size) (sl_c12_begins_0_0_0_0_12 hts ⟨Nat.le_of_ble_eq_true rfl, Nat.le_of_ble_eq_true rfl⟩) (sl_vM_0 hA hK hP hS hZ) rfl rfl hl.1 rfl (lv_room (Nat.le_of_ble_eq_true rfl)) dX12_sitsAs_33 ⟨Nat.le_refl _, Nat.le_refl _⟩) hA hS (fun f_4 L_5 Q_6 H locs hq hP hS => ?_)
  obtain ⟨⟨hI, hk_f_4, eL9, eQ9⟩, p_7, u_8⟩ := hq
  rw [eL9, eQ9] at hP; clear eL9 eQ9
  have hF : sgK WkX12_sitsAs_2_f1_f2 f f_4 := sgK.tr hF hk_f_4 (by decide +kernel)
  obtain ⟨v_9, ev_9⟩ : ∃ z : Int32, z = f_4 0 48 := ⟨_, rfl⟩
  have q_10 : 0 ≤ v_9.toInt ∧ v_9.toInt ≤ 19 := by rw [ev_9]; exact hI 0 48
  have q_11 : (f_4 0 48).toInt = v_9.toInt := (congrArg Int32.toInt (show f_4 0 48 = v_9 from ev_9.symm))
  refine lv_aload_n hx hb dX12_sitsAs_36 rfl (lv_at hl 0 rfl) ?_
  refine lv_iconst (v := 0) hx hb dX12_sitsAs_37 ic_0 ?_
  refine lv_iload_n hx hb dX12_sitsAs_38 rfl (lv_at hl 2 rfl) ?_
  have c_13 : v_9 = 2 := Int32.toInt_inj.mp (by have k9 : (2 : Int32).toInt = 2 := ti_2; omega)
  have q_14 : (f_4 0 48).toInt = 2 := (congrArg Int32.toInt (show f_4 0 48 = 2 from (Eq.trans ev_9.symm c_13))).trans (by decide)
  refine sg_calli (va_runV (As := [.int 0, .int x1]) (rest := []) ⟨hx, hb, hml, hown, hts⟩ (kX12_sitsAs_0_f2_f2 l D ca za h hh f_4 L Q hI x1 (Eq.trans ev_9.symm c_13) ((hk_f_4 0 49 (by decide)).trans hf_0_49) (by have k0 : (0 : Int32).toInt = 0 := ti_0; omega) H.size) (sl_c12_sitsAs_2_0_0_43_12 hts ⟨Nat.le_of_ble_eq_true rfl, Nat.le_of_ble_eq_true rfl⟩) (sl_vM_0 hA hK hP hS hZ) rfl rfl hl.1 rfl (lv_room (Nat.le_of_ble_eq_true rfl)) dX12_sitsAs_39 ⟨Nat.le_refl _, Nat.le_refl _⟩) hA hS (fun r_19 f_16 L_17 Q_18 H locs hq hP hS => ?_)
  obtain ⟨⟨hI, hk_f_16, eL9, eQ9⟩, hq, p_20, u_21⟩ := hq
  rw [eL9, eQ9] at hP; clear eL9 eQ9
  have hF : sgK WkX12_sitsAs_2_f1_f2 f f_16 := sgK.tr hF hk_f_16 (by decide +kernel)
  obtain ⟨v_22, ev_22⟩ : ∃ z : Int32, z = f_16 0 48 := ⟨_, rfl⟩
  have q_23 : 0 ≤ v_22.toInt ∧ v_22.toInt ≤ 19 := by rw [ev_22]; exact hI 0 48
  have q_24 : (f_16 0 48).toInt = v_22.toInt := (congrArg Int32.toInt (show f_16 0 48 = v_22 from ev_22.symm))
  have k_26 : (0 : Int32).toInt = 0 := by decide
  refine lv_ineg hx hb dX12_sitsAs_42 ?_
  refine lv_topi (fun v_27 ev_27 => ?_)
  exact hret _ _ _ _ (v_27) f_16 L Q dX12_sitsAs_43 hP hS ⟨⟨hI, hF, rfl, rfl⟩, trivial, ⟨by omega, by omega⟩, (Eq.trans (Eq.symm (hs.trans ((spl_e u_8 (spl_e ev_9 (spl2_e u_21 (spl_e ev_22 (spl_e ev_27 rfl)))))))) hsp)⟩

abbrev WkX12_slipsAs_2_f4_f2 : List (Nat × Nat × Option Nat) := [(0, 0, some 48), (21, 21, some 4)]
set_option maxHeartbeats 4000000 in
set_option maxRecDepth 100000 in
theorem kX12_slipsAs_2_f4_f2 (l : Launch) (D : va_G) (ca : Nat → ClassId) (za h : Nat → Nat) (hh : sgH 26 h) (f : sg_F) (L : sg_L) (Q : sg_Q) (hI : sgI loM hiM f) (x1 : Int32) (hf_0_48 : f 0 48 = 4) (hf_0_49 : f 0 49 = 2) (b1 : 1 ≤ x1.toInt ∧ x1.toInt ≤ 1) (p0 : 4 ≤ (f 0 48).toInt ∧ (f 0 48).toInt ≤ 4) (sz : Nat) : Met l yX12_slipsAs gwX12_slipsAs { frames := 1, cells := 0, slots := 0, locals := 21 } (sgP D vwCl (tyX ca) 26 h (eM ca h) zcM za f L Q sz [.ref (h 0), .int 2, .int x1]) (sgQi D vwCl 26 h (eM ca h) sz (fun r f1 L1 Q1 => ((sgI loM hiM f1 ∧ sgK WkX12_slipsAs_2_f4_f2 f f1 ∧ L1 = L ∧ Q1 = Q) ∧ True ∧ (5 ≤ (f1 0 48).toInt ∧ (f1 0 48).toInt ≤ 5) ∧ (r, f1) = sX12_slipsAs_2_f4_f2 x1 f L))) 0 0 (sgA 26 h sz) := by
  refine sg_ofWi (cc := cX12_slipsAs) (maxL := 4) RX12 (by decide) rfl rfl (Nat.le_of_ble_eq_true rfl) ?_
  intro p e s m below meth cd Qz ls hx hb hml hown hts hK hZ hP hS hl hret
  have hA := sgY.self (n := 26) (h := h) (sz := s.heap.size)
  have hl : lv_has ls 4 [(0, .ref (h 0)), (1, .int 2), (2, .int x1)] := hl
  obtain ⟨H, hH⟩ : ∃ z : Heap, z = s.heap := ⟨_, rfl⟩
  obtain ⟨locs, hlo⟩ : ∃ z : List Loc, z = [] := ⟨_, rfl⟩
  have hP : va_P D vwCl (sgw 26 h (eM ca h) f L Q) H := by rw [hH]; exact hP
  have hS : va_S (sgA 26 h s.heap.size) s.heap H locs := by rw [hH, hlo]; exact hS
  suffices hgo : W p l e ({ frames := 1, cells := 0, slots := 0, locals := 21 }) s m ([.ref (h 0), .int 2, .int x1] : List Value).toArray below meth cd H locs 0 0 Qz (F0 m 0 ls []) by rw [hH, hlo] at hgo; exact hgo
  clear hH hlo
  obtain ⟨sp, hsp⟩ : ∃ z : Int32 × sg_F, z = sX12_slipsAs_2_f4_f2 x1 f L := ⟨_, rfl⟩
  have hs : sp = sX12_slipsAs_2_f4_f2 x1 f L := hsp
  have o_1 : (f 0 48).toInt = 4 := (congrArg Int32.toInt (show f 0 48 = 4 from hf_0_48)).trans (by decide)
  have hF : sgK WkX12_slipsAs_2_f4_f2 f f := sgK.rf
  refine lv_iload_n hx hb dX12_slipsAs_0 rfl (lv_at hl 1 rfl) ?_
  refine lv_iconst (v := 3) hx hb dX12_slipsAs_1 ic_3 ?_
  refine lv_icmp_eq (tgt := 10) hx hb dX12_slipsAs_2 (by decide) (fun c => absurd c (by decide)) (fun c => ?_)
  refine lv_iload_n hx hb dX12_slipsAs_5 rfl (lv_at hl 1 rfl) ?_
  refine lv_iconst (v := 5) hx hb dX12_slipsAs_6 ic_5 ?_
  refine lv_icmp_ne (tgt := 25) hx hb dX12_slipsAs_7 (by decide) (fun c => ?_) (fun c => absurd c (by decide))
  refine lv_iload_n hx hb dX12_slipsAs_25 rfl (lv_at hl 1 rfl) ?_
  refine lv_iconst (v := 4) hx hb dX12_slipsAs_26 ic_4 ?_
  refine lv_icmp_eq (tgt := 36) hx hb dX12_slipsAs_27 (by decide) (fun c => absurd c (by decide)) (fun c => ?_)
  refine lv_iload_n hx hb dX12_slipsAs_30 rfl (lv_at hl 1 rfl) ?_
  refine lv_bipush (v := 7) hx hb dX12_slipsAs_31 bp_7 ?_
  refine lv_icmp_ne (tgt := 61) hx hb dX12_slipsAs_33 (by decide) (fun c => ?_) (fun c => absurd c (by decide))
  refine lv_aload_n hx hb dX12_slipsAs_61 rfl (lv_at hl 0 rfl) ?_
  refine lv_bipush (v := 11) hx hb dX12_slipsAs_62 bp_11 ?_
  have q_2 : (f 0 48).toInt = 4 := (congrArg Int32.toInt (show f 0 48 = 4 from hf_0_48)).trans (by decide)
  refine sg_callv (va_runV (As := [.int 11]) (rest := []) ⟨hx, hb, hml, hown, hts⟩ (kX12_begins_11_f4 l D ca za h hh f L Q hI hf_0_48 (by have k0 : (11 : Int32).toInt = 11 := ti_11; omega) H.size) (sl_c12_begins_0_0_0_0_12 hts ⟨Nat.le_of_ble_eq_true rfl, Nat.le_of_ble_eq_true rfl⟩) (sl_vM_0 hA hK hP hS hZ) rfl rfl hl.1 rfl (lv_room (Nat.le_of_ble_eq_true rfl)) dX12_slipsAs_64 ⟨Nat.le_refl _, Nat.le_refl _⟩) hA hS (fun f_4 L_5 Q_6 H locs hq hP hS => ?_)
  obtain ⟨⟨hI, hk_f_4, eL9, eQ9⟩, p_7, u_8⟩ := hq
  rw [eL9, eQ9] at hP; clear eL9 eQ9
  have hF : sgK WkX12_slipsAs_2_f4_f2 f f_4 := sgK.tr hF hk_f_4 (by decide +kernel)
  obtain ⟨v_9, ev_9⟩ : ∃ z : Int32, z = f_4 0 48 := ⟨_, rfl⟩
  have q_10 : 0 ≤ v_9.toInt ∧ v_9.toInt ≤ 19 := by rw [ev_9]; exact hI 0 48
  have q_11 : (f_4 0 48).toInt = v_9.toInt := (congrArg Int32.toInt (show f_4 0 48 = v_9 from ev_9.symm))
  refine lv_iload_n hx hb dX12_slipsAs_67 rfl (lv_at hl 2 rfl) ?_
  refine lv_aload_n hx hb dX12_slipsAs_68 rfl (lv_at hl 0 rfl) ?_
  refine sl_gM_0_50_12 (v := (f_4 0 50)) hx hb hts hown hK hP rfl dX12_slipsAs_69 ?_
  refine lv_topi (fun v_13 ev_13 => ?_)
  have q_14 : 0 ≤ v_13.toInt ∧ v_13.toInt ≤ 49 := by rw [ev_13]; exact hI 0 50
  refine lv_ixor hx hb dX12_slipsAs_72 ?_
  refine lv_topi (fun v_15 ev_15 => ?_)
  exact hret _ _ _ _ (v_15) f_4 L Q dX12_slipsAs_73 hP hS ⟨⟨hI, hF, rfl, rfl⟩, trivial, ⟨by omega, by omega⟩, (Eq.trans (Eq.symm (hs.trans ((spl_e u_8 (spl_e ev_9 (spl_e ev_13 (spl_e ev_15 rfl))))))) hsp)⟩

abbrev WkX12_tellsAs_2_f0_f2 : List (Nat × Nat × Option Nat) := [(0, 0, some 48), (21, 21, some 0), (21, 21, some 1), (21, 21, some 2), (21, 21, some 3), (21, 21, some 4)]
set_option maxHeartbeats 4000000 in
set_option maxRecDepth 100000 in
theorem kX12_tellsAs_2_f0_f2 (l : Launch) (D : va_G) (ca : Nat → ClassId) (za h : Nat → Nat) (hh : sgH 26 h) (f : sg_F) (L : sg_L) (Q : sg_Q) (hI : sgI loM hiM f) (x1 : Int32) (hf_0_48 : f 0 48 = 0) (hf_0_49 : f 0 49 = 2) (p0 : 0 ≤ (f 0 48).toInt ∧ (f 0 48).toInt ≤ 0) (sz : Nat) : Met l yX12_tellsAs gwX12_tellsAs { frames := 4, cells := 0, slots := 0, locals := 89 } (sgP D vwCl (tyX ca) 26 h (eM ca h) zcM za f L Q sz [.ref (h 0), .int 2, .int x1]) (sgQi D vwCl 26 h (eM ca h) sz (fun r f1 L1 Q1 => ((sgI loM hiM f1 ∧ sgK WkX12_tellsAs_2_f0_f2 f f1 ∧ L1 = L ∧ Q1 = Q) ∧ True ∧ (5 ≤ (f1 0 48).toInt ∧ (f1 0 48).toInt ≤ 5) ∧ (r, f1) = sX12_tellsAs_2_f0_f2 x1 f L))) 0 0 (sgA 26 h sz) := by
  refine sg_ofWi (cc := cX12_tellsAs) (maxL := 4) RX12 (by decide) rfl rfl (Nat.le_of_ble_eq_true rfl) ?_
  intro p e s m below meth cd Qz ls hx hb hml hown hts hK hZ hP hS hl hret
  have hA := sgY.self (n := 26) (h := h) (sz := s.heap.size)
  have hl : lv_has ls 4 [(0, .ref (h 0)), (1, .int 2), (2, .int x1)] := hl
  obtain ⟨H, hH⟩ : ∃ z : Heap, z = s.heap := ⟨_, rfl⟩
  obtain ⟨locs, hlo⟩ : ∃ z : List Loc, z = [] := ⟨_, rfl⟩
  have hP : va_P D vwCl (sgw 26 h (eM ca h) f L Q) H := by rw [hH]; exact hP
  have hS : va_S (sgA 26 h s.heap.size) s.heap H locs := by rw [hH, hlo]; exact hS
  suffices hgo : W p l e ({ frames := 4, cells := 0, slots := 0, locals := 89 }) s m ([.ref (h 0), .int 2, .int x1] : List Value).toArray below meth cd H locs 0 0 Qz (F0 m 0 ls []) by rw [hH, hlo] at hgo; exact hgo
  clear hH hlo
  obtain ⟨sp, hsp⟩ : ∃ z : Int32 × sg_F, z = sX12_tellsAs_2_f0_f2 x1 f L := ⟨_, rfl⟩
  have hs : sp = sX12_tellsAs_2_f0_f2 x1 f L := hsp
  have o_1 : (f 0 48).toInt = 0 := (congrArg Int32.toInt (show f 0 48 = 0 from hf_0_48)).trans (by decide)
  have hF : sgK WkX12_tellsAs_2_f0_f2 f f := sgK.rf
  refine lv_iload_n hx hb dX12_tellsAs_0 rfl (lv_at hl 1 rfl) ?_
  refine lv_iconst (v := 5) hx hb dX12_tellsAs_1 ic_5 ?_
  refine lv_icmp_ne (tgt := 20) hx hb dX12_tellsAs_2 (by decide) (fun c => ?_) (fun c => absurd c (by decide))
  refine lv_iload_n hx hb dX12_tellsAs_20 rfl (lv_at hl 1 rfl) ?_
  refine lv_bipush (v := 7) hx hb dX12_tellsAs_21 bp_7 ?_
  refine lv_icmp_ne (tgt := 41) hx hb dX12_tellsAs_23 (by decide) (fun c => ?_) (fun c => absurd c (by decide))
  refine lv_aload_n hx hb dX12_tellsAs_41 rfl (lv_at hl 0 rfl) ?_
  refine lv_iconst (v := 2) hx hb dX12_tellsAs_42 ic_2 ?_
  have q_2 : (f 0 48).toInt = 0 := (congrArg Int32.toInt (show f 0 48 = 0 from hf_0_48)).trans (by decide)
  refine sg_callv (va_runV (As := [.int 2]) (rest := []) ⟨hx, hb, hml, hown, hts⟩ (kX12_begins_2_f0 l D ca za h hh f L Q hI hf_0_48 (by have k0 : (2 : Int32).toInt = 2 := ti_2; omega) H.size) (sl_c12_begins_0_0_0_0_12 hts ⟨Nat.le_of_ble_eq_true rfl, Nat.le_of_ble_eq_true rfl⟩) (sl_vM_0 hA hK hP hS hZ) rfl rfl hl.1 rfl (lv_room (Nat.le_of_ble_eq_true rfl)) dX12_tellsAs_43 ⟨Nat.le_refl _, Nat.le_refl _⟩) hA hS (fun f_4 L_5 Q_6 H locs hq hP hS => ?_)
  obtain ⟨⟨hI, hk_f_4, eL9, eQ9⟩, p_7, u_8⟩ := hq
  rw [eL9, eQ9] at hP; clear eL9 eQ9
  have hF : sgK WkX12_tellsAs_2_f0_f2 f f_4 := sgK.tr hF hk_f_4 (by decide +kernel)
  obtain ⟨v_9, ev_9⟩ : ∃ z : Int32, z = f_4 0 48 := ⟨_, rfl⟩
  have q_10 : 0 ≤ v_9.toInt ∧ v_9.toInt ≤ 19 := by rw [ev_9]; exact hI 0 48
  have q_11 : (f_4 0 48).toInt = v_9.toInt := (congrArg Int32.toInt (show f_4 0 48 = v_9 from ev_9.symm))
  refine lv_aload_n hx hb dX12_tellsAs_46 rfl (lv_at hl 0 rfl) ?_
  refine lv_aload_n hx hb dX12_tellsAs_47 rfl (lv_at hl 0 rfl) ?_
  refine sl_gM_0_49_12 (v := 2) hx hb hts hown hK hP (show f_4 0 49 = 2 from ((hk_f_4 0 49 (by decide)).trans hf_0_49)) dX12_tellsAs_48 ?_
  refine lv_iload_n hx hb dX12_tellsAs_51 rfl (lv_at hl 2 rfl) ?_
  have c_13 : v_9 = 1 := Int32.toInt_inj.mp (by have k9 : (1 : Int32).toInt = 1 := ti_1; omega)
  have q_14 : (f_4 0 48).toInt = 1 := (congrArg Int32.toInt (show f_4 0 48 = 1 from (Eq.trans ev_9.symm c_13))).trans (by decide)
  refine sg_calli (va_runV (As := [.int 2, .int x1]) (rest := []) ⟨hx, hb, hml, hown, hts⟩ (kX12_sitsAs_2_f1_f2 l D ca za h hh f_4 L Q hI x1 (Eq.trans ev_9.symm c_13) ((hk_f_4 0 49 (by decide)).trans hf_0_49) (by have k0 : (2 : Int32).toInt = 2 := ti_2; omega) H.size) (sl_c12_sitsAs_3_0_0_66_12 hts ⟨Nat.le_of_ble_eq_true rfl, Nat.le_of_ble_eq_true rfl⟩) (sl_vM_0 hA hK hP hS hZ) rfl rfl hl.1 rfl (lv_room (Nat.le_of_ble_eq_true rfl)) dX12_tellsAs_52 ⟨Nat.le_refl _, Nat.le_refl _⟩) hA hS (fun r_19 f_16 L_17 Q_18 H locs hq hP hS => ?_)
  obtain ⟨⟨hI, hk_f_16, eL9, eQ9⟩, hq, p_20, u_21⟩ := hq
  rw [eL9, eQ9] at hP; clear eL9 eQ9
  have hF : sgK WkX12_tellsAs_2_f0_f2 f f_16 := sgK.tr hF hk_f_16 (by decide +kernel)
  obtain ⟨v_22, ev_22⟩ : ∃ z : Int32, z = f_16 0 48 := ⟨_, rfl⟩
  have q_23 : 0 ≤ v_22.toInt ∧ v_22.toInt ≤ 19 := by rw [ev_22]; exact hI 0 48
  have q_24 : (f_16 0 48).toInt = v_22.toInt := (congrArg Int32.toInt (show f_16 0 48 = v_22 from ev_22.symm))
  have k_26 : (2 : Int32).toInt = 2 := by decide
  refine lv_istore_n (lv' := [(3, .int r_19), (0, .ref (h 0)), (1, .int 2), (2, .int x1)]) hx hb dX12_tellsAs_55 rfl hl (by decide) rfl (fun ls hl => ?_)
  refine lv_iload_n hx hb dX12_tellsAs_56 rfl (lv_at hl 0 rfl) ?_
  refine lv_aload_n hx hb dX12_tellsAs_57 rfl (lv_at hl 1 rfl) ?_
  refine lv_aload_n hx hb dX12_tellsAs_58 rfl (lv_at hl 1 rfl) ?_
  refine sl_gM_0_49_12 (v := 2) hx hb hts hown hK hP (show f_16 0 49 = 2 from ((hk_f_16 0 49 (by decide)).trans ((hk_f_4 0 49 (by decide)).trans hf_0_49))) dX12_tellsAs_59 ?_
  refine lv_iconst (v := 1) hx hb dX12_tellsAs_62 ic_1 ?_
  have c_27 : v_22 = 4 := Int32.toInt_inj.mp (by have k9 : (4 : Int32).toInt = 4 := ti_4; omega)
  have q_28 : (f_16 0 48).toInt = 4 := (congrArg Int32.toInt (show f_16 0 48 = 4 from (Eq.trans ev_22.symm c_27))).trans (by decide)
  refine sg_calli (va_runV (As := [.int 2, .int 1]) (rest := [.int r_19]) ⟨hx, hb, hml, hown, hts⟩ (kX12_slipsAs_2_f4_f2 l D ca za h hh f_16 L Q hI 1 (Eq.trans ev_22.symm c_27) ((hk_f_16 0 49 (by decide)).trans ((hk_f_4 0 49 (by decide)).trans hf_0_49)) (by decide) (by have k0 : (2 : Int32).toInt = 2 := ti_2; have k1 : (1 : Int32).toInt = 1 := ti_1; omega) H.size) (sl_c12_slipsAs_1_0_0_21_12 hts ⟨Nat.le_of_ble_eq_true rfl, Nat.le_of_ble_eq_true rfl⟩) (sl_vM_0 hA hK hP hS hZ) rfl rfl hl.1 rfl (lv_room (Nat.le_of_ble_eq_true rfl)) dX12_tellsAs_63 ⟨Nat.le_refl _, Nat.le_refl _⟩) hA hS (fun r_33 f_30 L_31 Q_32 H locs hq hP hS => ?_)
  obtain ⟨⟨hI, hk_f_30, eL9, eQ9⟩, hq, p_34, u_35⟩ := hq
  rw [eL9, eQ9] at hP; clear eL9 eQ9
  have hF : sgK WkX12_tellsAs_2_f0_f2 f f_30 := sgK.tr hF hk_f_30 (by decide +kernel)
  obtain ⟨v_36, ev_36⟩ : ∃ z : Int32, z = f_30 0 48 := ⟨_, rfl⟩
  have q_37 : 0 ≤ v_36.toInt ∧ v_36.toInt ≤ 19 := by rw [ev_36]; exact hI 0 48
  have q_38 : (f_30 0 48).toInt = v_36.toInt := (congrArg Int32.toInt (show f_30 0 48 = v_36 from ev_36.symm))
  have k_40 : (2 : Int32).toInt = 2 := by decide
  have k_41 : (1 : Int32).toInt = 1 := by decide
  refine lv_isub hx hb dX12_tellsAs_66 ?_
  refine lv_topi (fun v_42 ev_42 => ?_)
  exact hret _ _ _ _ (v_42) f_30 L Q dX12_tellsAs_67 hP hS ⟨⟨hI, hF, rfl, rfl⟩, trivial, ⟨by omega, by omega⟩, (Eq.trans (Eq.symm (hs.trans ((spl_e u_8 (spl_e ev_9 (spl2_e u_21 (spl_e ev_22 (spl2_e u_35 (spl_e ev_36 (spl_e ev_42 rfl)))))))))) hsp)⟩

abbrev WkX12_begins_41_f1 : List (Nat × Nat × Option Nat) := [(0, 0, some 48), (21, 21, some 1)]
set_option maxHeartbeats 4000000 in
set_option maxRecDepth 100000 in
theorem kX12_begins_41_f1 (l : Launch) (D : va_G) (ca : Nat → ClassId) (za h : Nat → Nat) (hh : sgH 26 h) (f : sg_F) (L : sg_L) (Q : sg_Q) (hI : sgI loM hiM f) (hf_0_48 : f 0 48 = 1) (p0 : 1 ≤ (f 0 48).toInt ∧ (f 0 48).toInt ≤ 1) (sz : Nat) : Met l yX12_begins gwX12_begins { frames := 0, cells := 0, slots := 0, locals := 0 } (sgP D vwCl (tyX ca) 26 h (eM ca h) zcM za f L Q sz [.ref (h 0), .int 41]) (sgQv D vwCl 26 h (eM ca h) sz (fun f1 L1 Q1 => ((sgI loM hiM f1 ∧ sgK WkX12_begins_41_f1 f f1 ∧ L1 = L ∧ Q1 = Q) ∧ (2 ≤ (f1 0 48).toInt ∧ (f1 0 48).toInt ≤ 2) ∧ (f1) = sX12_begins_41_f1 f L))) 0 0 (sgA 26 h sz) := by
  refine sg_ofWv (cc := cX12_begins) (maxL := 2) RX12 (by decide) rfl rfl (Nat.le_of_ble_eq_true rfl) ?_
  intro p e s m below meth cd Qz ls hx hb hml hown hts hK hZ hP hS hl hret
  have hA := sgY.self (n := 26) (h := h) (sz := s.heap.size)
  have hl : lv_has ls 2 [(0, .ref (h 0)), (1, .int 41)] := hl
  obtain ⟨H, hH⟩ : ∃ z : Heap, z = s.heap := ⟨_, rfl⟩
  obtain ⟨locs, hlo⟩ : ∃ z : List Loc, z = [] := ⟨_, rfl⟩
  have hP : va_P D vwCl (sgw 26 h (eM ca h) f L Q) H := by rw [hH]; exact hP
  have hS : va_S (sgA 26 h s.heap.size) s.heap H locs := by rw [hH, hlo]; exact hS
  suffices hgo : W p l e ({ frames := 0, cells := 0, slots := 0, locals := 0 }) s m ([.ref (h 0), .int 41] : List Value).toArray below meth cd H locs 0 0 Qz (F0 m 0 ls []) by rw [hH, hlo] at hgo; exact hgo
  clear hH hlo
  obtain ⟨sp, hsp⟩ : ∃ z : sg_F, z = sX12_begins_41_f1 f L := ⟨_, rfl⟩
  have hs : sp = sX12_begins_41_f1 f L := hsp
  have o_1 : (f 0 48).toInt = 1 := (congrArg Int32.toInt (show f 0 48 = 1 from hf_0_48)).trans (by decide)
  have hF : sgK WkX12_begins_41_f1 f f := sgK.rf
  have blk_19 : ∀ (fp_19 : sg_F) (H : Heap) (locs : List Loc) (ls : Array Slot), sp = sX12_begins_41_f1_b19 fp_19 L → 1 ≤ (fp_19 0 48).toInt ∧ (fp_19 0 48).toInt ≤ 1 → sgI loM hiM fp_19 → sgK WkX12_begins_41_f1 f fp_19 → va_P D vwCl (sgw 26 h (eM ca h) fp_19 L Q) H → va_S (sgA 26 h s.heap.size) s.heap H locs → lv_has ls 2 [(0, .ref (h 0))] → W p l e ({ frames := 0, cells := 0, slots := 0, locals := 0 }) s m ([.ref (h 0), .int 41] : List Value).toArray below meth cd H locs 0 0 Qz (F0 m 19 ls []) := by
    intro fp_19 H locs ls hs hy0_19 hI hF hP hS hl
    obtain ⟨v_2, ev_2⟩ : ∃ z : Int32, z = fp_19 0 48 := ⟨_, rfl⟩
    have q_3 : 0 ≤ v_2.toInt ∧ v_2.toInt ≤ 19 := by rw [ev_2]; exact hI 0 48
    have q_4 : (fp_19 0 48).toInt = v_2.toInt := by rw [ev_2]
    refine lv_aload_n hx hb dX12_begins_19 rfl (lv_at hl 0 rfl) ?_
    refine lv_dup hx hb dX12_begins_20 rfl ?_
    refine sl_gM_0_48_12 (v := v_2) hx hb hts hown hK hP (show fp_19 0 48 = v_2 from ev_2.symm) dX12_begins_21 ?_
    refine lv_iconst (v := 1) hx hb dX12_begins_24 ic_1 ?_
    refine lv_iadd hx hb dX12_begins_25 ?_
    refine lv_topi (fun v_5 ev_5 => ?_)
    have q_6 : v_5.toInt = v_2.toInt + 1 := by rw [ev_5]; first | exact cm_add ti_1 (by omega) (by omega) | (have k1 : (1 : Int32).toInt = 1 := ti_1; exact (bn_addI (by omega) (by omega)).trans (by omega))
    refine sl_pM_0_48_12 (x := v_5) hx hb hts hown hh hA hK hP hS dX12_begins_26 (fun f_7 H locs ef_7 hP hS => ?_)
    have hI : sgI loM hiM f_7 := by rw [ef_7]; exact sgI.put hI 0 48 (show 0 ≤ (v_5 : Int32).toInt ∧ (v_5 : Int32).toInt ≤ 19 from ⟨by omega, by omega⟩)
    have hF : sgK WkX12_begins_41_f1 f f_7 := sgK.put hF ef_7 (by rfl)
    have q_8 : (f_7 0 48).toInt = v_5.toInt := (congrArg Int32.toInt (show f_7 0 48 = v_5 from (by rw [ef_7, sg_up_s, sgu_s])))
    exact hret _ _ _ _ f_7 L Q dX12_begins_29 hP hS ⟨⟨hI, hF, rfl, rfl⟩, ⟨by omega, by omega⟩, (Eq.trans (Eq.symm (hs.trans ((spl_e ev_2 (spl_e ev_5 (spl_e ef_7 rfl)))))) hsp)⟩
  refine lv_aload_n hx hb dX12_begins_0 rfl (lv_at hl 0 rfl) ?_
  refine sl_gM_0_48_12 (v := 1) hx hb hts hown hK hP (show f 0 48 = 1 from hf_0_48) dX12_begins_1 ?_
  refine lv_bipush (v := 24) hx hb dX12_begins_4 bp_24 ?_
  refine lv_icmp_ge (tgt := 19) hx hb dX12_begins_6 (by decide) (fun c => absurd c (by decide)) (fun c => ?_)
  refine lv_aload_n hx hb dX12_begins_9 rfl (lv_at hl 0 rfl) ?_
  refine sl_gM_0_47_12 hx hb hts hown hK hP dX12_begins_10 ?_
  refine lv_aload_n hx hb dX12_begins_13 rfl (lv_at hl 0 rfl) ?_
  refine sl_gM_0_48_12 (v := 1) hx hb hts hown hK hP (show f 0 48 = 1 from hf_0_48) dX12_begins_14 ?_
  refine lv_iload_n hx hb dX12_begins_17 rfl (lv_at hl 1 rfl) ?_
  refine sg_iast hx hb hh hA hK hP hS 21 (by decide) 0 (fun _ => rfl) rfl (i := 1) (x := 41) (vp_in_iff.mpr (by decide)) dX12_begins_18 (fun f_10 H locs ef_10 hP hS => ?_)
  have ef_10 : f_10 = sg_up f 21 (sgu (f 21) 1 41) := ef_10
  have hI : sgI loM hiM f_10 := by rw [ef_10]; exact sgI.put hI 21 1 (show 0 ≤ (41 : Int32).toInt ∧ (41 : Int32).toInt ≤ 81 from by decide)
  have hF : sgK WkX12_begins_41_f1 f f_10 := sgK.put hF ef_10 (by rfl)
  exact blk_19 f_10 _ _ _ (hs.trans ((spl_e ef_10 rfl))) (by have zz0_48 : (f_10 0 48).toInt = 1 := (congrArg Int32.toInt (show f_10 0 48 = 1 from (by rw [ef_10, sg_up_n (by decide)]; exact hf_0_48))).trans (by decide); exact ⟨by omega, by omega⟩) hI hF hP hS (lv_sub hl [0] rfl)

abbrev WkX12_begins_30_f2 : List (Nat × Nat × Option Nat) := [(0, 0, some 48), (21, 21, some 2)]
set_option maxHeartbeats 4000000 in
set_option maxRecDepth 100000 in
theorem kX12_begins_30_f2 (l : Launch) (D : va_G) (ca : Nat → ClassId) (za h : Nat → Nat) (hh : sgH 26 h) (f : sg_F) (L : sg_L) (Q : sg_Q) (hI : sgI loM hiM f) (hf_0_48 : f 0 48 = 2) (p0 : 2 ≤ (f 0 48).toInt ∧ (f 0 48).toInt ≤ 2) (sz : Nat) : Met l yX12_begins gwX12_begins { frames := 0, cells := 0, slots := 0, locals := 0 } (sgP D vwCl (tyX ca) 26 h (eM ca h) zcM za f L Q sz [.ref (h 0), .int 30]) (sgQv D vwCl 26 h (eM ca h) sz (fun f1 L1 Q1 => ((sgI loM hiM f1 ∧ sgK WkX12_begins_30_f2 f f1 ∧ L1 = L ∧ Q1 = Q) ∧ (3 ≤ (f1 0 48).toInt ∧ (f1 0 48).toInt ≤ 3) ∧ (f1) = sX12_begins_30_f2 f L))) 0 0 (sgA 26 h sz) := by
  refine sg_ofWv (cc := cX12_begins) (maxL := 2) RX12 (by decide) rfl rfl (Nat.le_of_ble_eq_true rfl) ?_
  intro p e s m below meth cd Qz ls hx hb hml hown hts hK hZ hP hS hl hret
  have hA := sgY.self (n := 26) (h := h) (sz := s.heap.size)
  have hl : lv_has ls 2 [(0, .ref (h 0)), (1, .int 30)] := hl
  obtain ⟨H, hH⟩ : ∃ z : Heap, z = s.heap := ⟨_, rfl⟩
  obtain ⟨locs, hlo⟩ : ∃ z : List Loc, z = [] := ⟨_, rfl⟩
  have hP : va_P D vwCl (sgw 26 h (eM ca h) f L Q) H := by rw [hH]; exact hP
  have hS : va_S (sgA 26 h s.heap.size) s.heap H locs := by rw [hH, hlo]; exact hS
  suffices hgo : W p l e ({ frames := 0, cells := 0, slots := 0, locals := 0 }) s m ([.ref (h 0), .int 30] : List Value).toArray below meth cd H locs 0 0 Qz (F0 m 0 ls []) by rw [hH, hlo] at hgo; exact hgo
  clear hH hlo
  obtain ⟨sp, hsp⟩ : ∃ z : sg_F, z = sX12_begins_30_f2 f L := ⟨_, rfl⟩
  have hs : sp = sX12_begins_30_f2 f L := hsp
  have o_1 : (f 0 48).toInt = 2 := (congrArg Int32.toInt (show f 0 48 = 2 from hf_0_48)).trans (by decide)
  have hF : sgK WkX12_begins_30_f2 f f := sgK.rf
  have blk_19 : ∀ (fp_19 : sg_F) (H : Heap) (locs : List Loc) (ls : Array Slot), sp = sX12_begins_30_f2_b19 fp_19 L → 2 ≤ (fp_19 0 48).toInt ∧ (fp_19 0 48).toInt ≤ 2 → sgI loM hiM fp_19 → sgK WkX12_begins_30_f2 f fp_19 → va_P D vwCl (sgw 26 h (eM ca h) fp_19 L Q) H → va_S (sgA 26 h s.heap.size) s.heap H locs → lv_has ls 2 [(0, .ref (h 0))] → W p l e ({ frames := 0, cells := 0, slots := 0, locals := 0 }) s m ([.ref (h 0), .int 30] : List Value).toArray below meth cd H locs 0 0 Qz (F0 m 19 ls []) := by
    intro fp_19 H locs ls hs hy0_19 hI hF hP hS hl
    obtain ⟨v_2, ev_2⟩ : ∃ z : Int32, z = fp_19 0 48 := ⟨_, rfl⟩
    have q_3 : 0 ≤ v_2.toInt ∧ v_2.toInt ≤ 19 := by rw [ev_2]; exact hI 0 48
    have q_4 : (fp_19 0 48).toInt = v_2.toInt := by rw [ev_2]
    refine lv_aload_n hx hb dX12_begins_19 rfl (lv_at hl 0 rfl) ?_
    refine lv_dup hx hb dX12_begins_20 rfl ?_
    refine sl_gM_0_48_12 (v := v_2) hx hb hts hown hK hP (show fp_19 0 48 = v_2 from ev_2.symm) dX12_begins_21 ?_
    refine lv_iconst (v := 1) hx hb dX12_begins_24 ic_1 ?_
    refine lv_iadd hx hb dX12_begins_25 ?_
    refine lv_topi (fun v_5 ev_5 => ?_)
    have q_6 : v_5.toInt = v_2.toInt + 1 := by rw [ev_5]; first | exact cm_add ti_1 (by omega) (by omega) | (have k1 : (1 : Int32).toInt = 1 := ti_1; exact (bn_addI (by omega) (by omega)).trans (by omega))
    refine sl_pM_0_48_12 (x := v_5) hx hb hts hown hh hA hK hP hS dX12_begins_26 (fun f_7 H locs ef_7 hP hS => ?_)
    have hI : sgI loM hiM f_7 := by rw [ef_7]; exact sgI.put hI 0 48 (show 0 ≤ (v_5 : Int32).toInt ∧ (v_5 : Int32).toInt ≤ 19 from ⟨by omega, by omega⟩)
    have hF : sgK WkX12_begins_30_f2 f f_7 := sgK.put hF ef_7 (by rfl)
    have q_8 : (f_7 0 48).toInt = v_5.toInt := (congrArg Int32.toInt (show f_7 0 48 = v_5 from (by rw [ef_7, sg_up_s, sgu_s])))
    exact hret _ _ _ _ f_7 L Q dX12_begins_29 hP hS ⟨⟨hI, hF, rfl, rfl⟩, ⟨by omega, by omega⟩, (Eq.trans (Eq.symm (hs.trans ((spl_e ev_2 (spl_e ev_5 (spl_e ef_7 rfl)))))) hsp)⟩
  refine lv_aload_n hx hb dX12_begins_0 rfl (lv_at hl 0 rfl) ?_
  refine sl_gM_0_48_12 (v := 2) hx hb hts hown hK hP (show f 0 48 = 2 from hf_0_48) dX12_begins_1 ?_
  refine lv_bipush (v := 24) hx hb dX12_begins_4 bp_24 ?_
  refine lv_icmp_ge (tgt := 19) hx hb dX12_begins_6 (by decide) (fun c => absurd c (by decide)) (fun c => ?_)
  refine lv_aload_n hx hb dX12_begins_9 rfl (lv_at hl 0 rfl) ?_
  refine sl_gM_0_47_12 hx hb hts hown hK hP dX12_begins_10 ?_
  refine lv_aload_n hx hb dX12_begins_13 rfl (lv_at hl 0 rfl) ?_
  refine sl_gM_0_48_12 (v := 2) hx hb hts hown hK hP (show f 0 48 = 2 from hf_0_48) dX12_begins_14 ?_
  refine lv_iload_n hx hb dX12_begins_17 rfl (lv_at hl 1 rfl) ?_
  refine sg_iast hx hb hh hA hK hP hS 21 (by decide) 0 (fun _ => rfl) rfl (i := 2) (x := 30) (vp_in_iff.mpr (by decide)) dX12_begins_18 (fun f_10 H locs ef_10 hP hS => ?_)
  have ef_10 : f_10 = sg_up f 21 (sgu (f 21) 2 30) := ef_10
  have hI : sgI loM hiM f_10 := by rw [ef_10]; exact sgI.put hI 21 2 (show 0 ≤ (30 : Int32).toInt ∧ (30 : Int32).toInt ≤ 81 from by decide)
  have hF : sgK WkX12_begins_30_f2 f f_10 := sgK.put hF ef_10 (by rfl)
  exact blk_19 f_10 _ _ _ (hs.trans ((spl_e ef_10 rfl))) (by have zz0_48 : (f_10 0 48).toInt = 2 := (congrArg Int32.toInt (show f_10 0 48 = 2 from (by rw [ef_10, sg_up_n (by decide)]; exact hf_0_48))).trans (by decide); exact ⟨by omega, by omega⟩) hI hF hP hS (lv_sub hl [0] rfl)

abbrev WkX12_begins_10_f3 : List (Nat × Nat × Option Nat) := [(0, 0, some 48), (21, 21, some 3)]
set_option maxHeartbeats 4000000 in
set_option maxRecDepth 100000 in
theorem kX12_begins_10_f3 (l : Launch) (D : va_G) (ca : Nat → ClassId) (za h : Nat → Nat) (hh : sgH 26 h) (f : sg_F) (L : sg_L) (Q : sg_Q) (hI : sgI loM hiM f) (hf_0_48 : f 0 48 = 3) (p0 : 3 ≤ (f 0 48).toInt ∧ (f 0 48).toInt ≤ 3) (sz : Nat) : Met l yX12_begins gwX12_begins { frames := 0, cells := 0, slots := 0, locals := 0 } (sgP D vwCl (tyX ca) 26 h (eM ca h) zcM za f L Q sz [.ref (h 0), .int 10]) (sgQv D vwCl 26 h (eM ca h) sz (fun f1 L1 Q1 => ((sgI loM hiM f1 ∧ sgK WkX12_begins_10_f3 f f1 ∧ L1 = L ∧ Q1 = Q) ∧ (4 ≤ (f1 0 48).toInt ∧ (f1 0 48).toInt ≤ 4) ∧ (f1) = sX12_begins_10_f3 f L))) 0 0 (sgA 26 h sz) := by
  refine sg_ofWv (cc := cX12_begins) (maxL := 2) RX12 (by decide) rfl rfl (Nat.le_of_ble_eq_true rfl) ?_
  intro p e s m below meth cd Qz ls hx hb hml hown hts hK hZ hP hS hl hret
  have hA := sgY.self (n := 26) (h := h) (sz := s.heap.size)
  have hl : lv_has ls 2 [(0, .ref (h 0)), (1, .int 10)] := hl
  obtain ⟨H, hH⟩ : ∃ z : Heap, z = s.heap := ⟨_, rfl⟩
  obtain ⟨locs, hlo⟩ : ∃ z : List Loc, z = [] := ⟨_, rfl⟩
  have hP : va_P D vwCl (sgw 26 h (eM ca h) f L Q) H := by rw [hH]; exact hP
  have hS : va_S (sgA 26 h s.heap.size) s.heap H locs := by rw [hH, hlo]; exact hS
  suffices hgo : W p l e ({ frames := 0, cells := 0, slots := 0, locals := 0 }) s m ([.ref (h 0), .int 10] : List Value).toArray below meth cd H locs 0 0 Qz (F0 m 0 ls []) by rw [hH, hlo] at hgo; exact hgo
  clear hH hlo
  obtain ⟨sp, hsp⟩ : ∃ z : sg_F, z = sX12_begins_10_f3 f L := ⟨_, rfl⟩
  have hs : sp = sX12_begins_10_f3 f L := hsp
  have o_1 : (f 0 48).toInt = 3 := (congrArg Int32.toInt (show f 0 48 = 3 from hf_0_48)).trans (by decide)
  have hF : sgK WkX12_begins_10_f3 f f := sgK.rf
  have blk_19 : ∀ (fp_19 : sg_F) (H : Heap) (locs : List Loc) (ls : Array Slot), sp = sX12_begins_10_f3_b19 fp_19 L → 3 ≤ (fp_19 0 48).toInt ∧ (fp_19 0 48).toInt ≤ 3 → sgI loM hiM fp_19 → sgK WkX12_begins_10_f3 f fp_19 → va_P D vwCl (sgw 26 h (eM ca h) fp_19 L Q) H → va_S (sgA 26 h s.heap.size) s.heap H locs → lv_has ls 2 [(0, .ref (h 0))] → W p l e ({ frames := 0, cells := 0, slots := 0, locals := 0 }) s m ([.ref (h 0), .int 10] : List Value).toArray below meth cd H locs 0 0 Qz (F0 m 19 ls []) := by
    intro fp_19 H locs ls hs hy0_19 hI hF hP hS hl
    obtain ⟨v_2, ev_2⟩ : ∃ z : Int32, z = fp_19 0 48 := ⟨_, rfl⟩
    have q_3 : 0 ≤ v_2.toInt ∧ v_2.toInt ≤ 19 := by rw [ev_2]; exact hI 0 48
    have q_4 : (fp_19 0 48).toInt = v_2.toInt := by rw [ev_2]
    refine lv_aload_n hx hb dX12_begins_19 rfl (lv_at hl 0 rfl) ?_
    refine lv_dup hx hb dX12_begins_20 rfl ?_
    refine sl_gM_0_48_12 (v := v_2) hx hb hts hown hK hP (show fp_19 0 48 = v_2 from ev_2.symm) dX12_begins_21 ?_
    refine lv_iconst (v := 1) hx hb dX12_begins_24 ic_1 ?_
    refine lv_iadd hx hb dX12_begins_25 ?_
    refine lv_topi (fun v_5 ev_5 => ?_)
    have q_6 : v_5.toInt = v_2.toInt + 1 := by rw [ev_5]; first | exact cm_add ti_1 (by omega) (by omega) | (have k1 : (1 : Int32).toInt = 1 := ti_1; exact (bn_addI (by omega) (by omega)).trans (by omega))
    refine sl_pM_0_48_12 (x := v_5) hx hb hts hown hh hA hK hP hS dX12_begins_26 (fun f_7 H locs ef_7 hP hS => ?_)
    have hI : sgI loM hiM f_7 := by rw [ef_7]; exact sgI.put hI 0 48 (show 0 ≤ (v_5 : Int32).toInt ∧ (v_5 : Int32).toInt ≤ 19 from ⟨by omega, by omega⟩)
    have hF : sgK WkX12_begins_10_f3 f f_7 := sgK.put hF ef_7 (by rfl)
    have q_8 : (f_7 0 48).toInt = v_5.toInt := (congrArg Int32.toInt (show f_7 0 48 = v_5 from (by rw [ef_7, sg_up_s, sgu_s])))
    exact hret _ _ _ _ f_7 L Q dX12_begins_29 hP hS ⟨⟨hI, hF, rfl, rfl⟩, ⟨by omega, by omega⟩, (Eq.trans (Eq.symm (hs.trans ((spl_e ev_2 (spl_e ev_5 (spl_e ef_7 rfl)))))) hsp)⟩
  refine lv_aload_n hx hb dX12_begins_0 rfl (lv_at hl 0 rfl) ?_
  refine sl_gM_0_48_12 (v := 3) hx hb hts hown hK hP (show f 0 48 = 3 from hf_0_48) dX12_begins_1 ?_
  refine lv_bipush (v := 24) hx hb dX12_begins_4 bp_24 ?_
  refine lv_icmp_ge (tgt := 19) hx hb dX12_begins_6 (by decide) (fun c => absurd c (by decide)) (fun c => ?_)
  refine lv_aload_n hx hb dX12_begins_9 rfl (lv_at hl 0 rfl) ?_
  refine sl_gM_0_47_12 hx hb hts hown hK hP dX12_begins_10 ?_
  refine lv_aload_n hx hb dX12_begins_13 rfl (lv_at hl 0 rfl) ?_
  refine sl_gM_0_48_12 (v := 3) hx hb hts hown hK hP (show f 0 48 = 3 from hf_0_48) dX12_begins_14 ?_
  refine lv_iload_n hx hb dX12_begins_17 rfl (lv_at hl 1 rfl) ?_
  refine sg_iast hx hb hh hA hK hP hS 21 (by decide) 0 (fun _ => rfl) rfl (i := 3) (x := 10) (vp_in_iff.mpr (by decide)) dX12_begins_18 (fun f_10 H locs ef_10 hP hS => ?_)
  have ef_10 : f_10 = sg_up f 21 (sgu (f 21) 3 10) := ef_10
  have hI : sgI loM hiM f_10 := by rw [ef_10]; exact sgI.put hI 21 3 (show 0 ≤ (10 : Int32).toInt ∧ (10 : Int32).toInt ≤ 81 from by decide)
  have hF : sgK WkX12_begins_10_f3 f f_10 := sgK.put hF ef_10 (by rfl)
  exact blk_19 f_10 _ _ _ (hs.trans ((spl_e ef_10 rfl))) (by have zz0_48 : (f_10 0 48).toInt = 3 := (congrArg Int32.toInt (show f_10 0 48 = 3 from (by rw [ef_10, sg_up_n (by decide)]; exact hf_0_48))).trans (by decide); exact ⟨by omega, by omega⟩) hI hF hP hS (lv_sub hl [0] rfl)

abbrev WkX12_begins_1_f4 : List (Nat × Nat × Option Nat) := [(0, 0, some 48), (21, 21, some 4)]
set_option maxHeartbeats 4000000 in
set_option maxRecDepth 100000 in
theorem kX12_begins_1_f4 (l : Launch) (D : va_G) (ca : Nat → ClassId) (za h : Nat → Nat) (hh : sgH 26 h) (f : sg_F) (L : sg_L) (Q : sg_Q) (hI : sgI loM hiM f) (hf_0_48 : f 0 48 = 4) (p0 : 4 ≤ (f 0 48).toInt ∧ (f 0 48).toInt ≤ 4) (sz : Nat) : Met l yX12_begins gwX12_begins { frames := 0, cells := 0, slots := 0, locals := 0 } (sgP D vwCl (tyX ca) 26 h (eM ca h) zcM za f L Q sz [.ref (h 0), .int 1]) (sgQv D vwCl 26 h (eM ca h) sz (fun f1 L1 Q1 => ((sgI loM hiM f1 ∧ sgK WkX12_begins_1_f4 f f1 ∧ L1 = L ∧ Q1 = Q) ∧ (5 ≤ (f1 0 48).toInt ∧ (f1 0 48).toInt ≤ 5) ∧ (f1) = sX12_begins_1_f4 f L))) 0 0 (sgA 26 h sz) := by
  refine sg_ofWv (cc := cX12_begins) (maxL := 2) RX12 (by decide) rfl rfl (Nat.le_of_ble_eq_true rfl) ?_
  intro p e s m below meth cd Qz ls hx hb hml hown hts hK hZ hP hS hl hret
  have hA := sgY.self (n := 26) (h := h) (sz := s.heap.size)
  have hl : lv_has ls 2 [(0, .ref (h 0)), (1, .int 1)] := hl
  obtain ⟨H, hH⟩ : ∃ z : Heap, z = s.heap := ⟨_, rfl⟩
  obtain ⟨locs, hlo⟩ : ∃ z : List Loc, z = [] := ⟨_, rfl⟩
  have hP : va_P D vwCl (sgw 26 h (eM ca h) f L Q) H := by rw [hH]; exact hP
  have hS : va_S (sgA 26 h s.heap.size) s.heap H locs := by rw [hH, hlo]; exact hS
  suffices hgo : W p l e ({ frames := 0, cells := 0, slots := 0, locals := 0 }) s m ([.ref (h 0), .int 1] : List Value).toArray below meth cd H locs 0 0 Qz (F0 m 0 ls []) by rw [hH, hlo] at hgo; exact hgo
  clear hH hlo
  obtain ⟨sp, hsp⟩ : ∃ z : sg_F, z = sX12_begins_1_f4 f L := ⟨_, rfl⟩
  have hs : sp = sX12_begins_1_f4 f L := hsp
  have o_1 : (f 0 48).toInt = 4 := (congrArg Int32.toInt (show f 0 48 = 4 from hf_0_48)).trans (by decide)
  have hF : sgK WkX12_begins_1_f4 f f := sgK.rf
  have blk_19 : ∀ (fp_19 : sg_F) (H : Heap) (locs : List Loc) (ls : Array Slot), sp = sX12_begins_1_f4_b19 fp_19 L → 4 ≤ (fp_19 0 48).toInt ∧ (fp_19 0 48).toInt ≤ 4 → sgI loM hiM fp_19 → sgK WkX12_begins_1_f4 f fp_19 → va_P D vwCl (sgw 26 h (eM ca h) fp_19 L Q) H → va_S (sgA 26 h s.heap.size) s.heap H locs → lv_has ls 2 [(0, .ref (h 0))] → W p l e ({ frames := 0, cells := 0, slots := 0, locals := 0 }) s m ([.ref (h 0), .int 1] : List Value).toArray below meth cd H locs 0 0 Qz (F0 m 19 ls []) := by
    intro fp_19 H locs ls hs hy0_19 hI hF hP hS hl
    obtain ⟨v_2, ev_2⟩ : ∃ z : Int32, z = fp_19 0 48 := ⟨_, rfl⟩
    have q_3 : 0 ≤ v_2.toInt ∧ v_2.toInt ≤ 19 := by rw [ev_2]; exact hI 0 48
    have q_4 : (fp_19 0 48).toInt = v_2.toInt := by rw [ev_2]
    refine lv_aload_n hx hb dX12_begins_19 rfl (lv_at hl 0 rfl) ?_
    refine lv_dup hx hb dX12_begins_20 rfl ?_
    refine sl_gM_0_48_12 (v := v_2) hx hb hts hown hK hP (show fp_19 0 48 = v_2 from ev_2.symm) dX12_begins_21 ?_
    refine lv_iconst (v := 1) hx hb dX12_begins_24 ic_1 ?_
    refine lv_iadd hx hb dX12_begins_25 ?_
    refine lv_topi (fun v_5 ev_5 => ?_)
    have q_6 : v_5.toInt = v_2.toInt + 1 := by rw [ev_5]; first | exact cm_add ti_1 (by omega) (by omega) | (have k1 : (1 : Int32).toInt = 1 := ti_1; exact (bn_addI (by omega) (by omega)).trans (by omega))
    refine sl_pM_0_48_12 (x := v_5) hx hb hts hown hh hA hK hP hS dX12_begins_26 (fun f_7 H locs ef_7 hP hS => ?_)
    have hI : sgI loM hiM f_7 := by rw [ef_7]; exact sgI.put hI 0 48 (show 0 ≤ (v_5 : Int32).toInt ∧ (v_5 : Int32).toInt ≤ 19 from ⟨by omega, by omega⟩)
    have hF : sgK WkX12_begins_1_f4 f f_7 := sgK.put hF ef_7 (by rfl)
    have q_8 : (f_7 0 48).toInt = v_5.toInt := (congrArg Int32.toInt (show f_7 0 48 = v_5 from (by rw [ef_7, sg_up_s, sgu_s])))
    exact hret _ _ _ _ f_7 L Q dX12_begins_29 hP hS ⟨⟨hI, hF, rfl, rfl⟩, ⟨by omega, by omega⟩, (Eq.trans (Eq.symm (hs.trans ((spl_e ev_2 (spl_e ev_5 (spl_e ef_7 rfl)))))) hsp)⟩
  refine lv_aload_n hx hb dX12_begins_0 rfl (lv_at hl 0 rfl) ?_
  refine sl_gM_0_48_12 (v := 4) hx hb hts hown hK hP (show f 0 48 = 4 from hf_0_48) dX12_begins_1 ?_
  refine lv_bipush (v := 24) hx hb dX12_begins_4 bp_24 ?_
  refine lv_icmp_ge (tgt := 19) hx hb dX12_begins_6 (by decide) (fun c => absurd c (by decide)) (fun c => ?_)
  refine lv_aload_n hx hb dX12_begins_9 rfl (lv_at hl 0 rfl) ?_
  refine sl_gM_0_47_12 hx hb hts hown hK hP dX12_begins_10 ?_
  refine lv_aload_n hx hb dX12_begins_13 rfl (lv_at hl 0 rfl) ?_
  refine sl_gM_0_48_12 (v := 4) hx hb hts hown hK hP (show f 0 48 = 4 from hf_0_48) dX12_begins_14 ?_
  refine lv_iload_n hx hb dX12_begins_17 rfl (lv_at hl 1 rfl) ?_
  refine sg_iast hx hb hh hA hK hP hS 21 (by decide) 0 (fun _ => rfl) rfl (i := 4) (x := 1) (vp_in_iff.mpr (by decide)) dX12_begins_18 (fun f_10 H locs ef_10 hP hS => ?_)
  have ef_10 : f_10 = sg_up f 21 (sgu (f 21) 4 1) := ef_10
  have hI : sgI loM hiM f_10 := by rw [ef_10]; exact sgI.put hI 21 4 (show 0 ≤ (1 : Int32).toInt ∧ (1 : Int32).toInt ≤ 81 from by decide)
  have hF : sgK WkX12_begins_1_f4 f f_10 := sgK.put hF ef_10 (by rfl)
  exact blk_19 f_10 _ _ _ (hs.trans ((spl_e ef_10 rfl))) (by have zz0_48 : (f_10 0 48).toInt = 4 := (congrArg Int32.toInt (show f_10 0 48 = 4 from (by rw [ef_10, sg_up_n (by decide)]; exact hf_0_48))).trans (by decide); exact ⟨by omega, by omega⟩) hI hF hP hS (lv_sub hl [0] rfl)

abbrev WkX12_setsAs_3_f4_f3 : List (Nat × Nat × Option Nat) := [(0, 0, some 48), (21, 21, some 4)]
set_option maxHeartbeats 4000000 in
set_option maxRecDepth 100000 in
theorem kX12_setsAs_3_f4_f3 (l : Launch) (D : va_G) (ca : Nat → ClassId) (za h : Nat → Nat) (hh : sgH 26 h) (f : sg_F) (L : sg_L) (Q : sg_Q) (hI : sgI loM hiM f) (x1 : Int32) (hf_0_48 : f 0 48 = 4) (hf_0_49 : f 0 49 = 3) (p0 : 4 ≤ (f 0 48).toInt ∧ (f 0 48).toInt ≤ 4) (sz : Nat) : Met l yX12_setsAs gwX12_setsAs { frames := 1, cells := 0, slots := 0, locals := 21 } (sgP D vwCl (tyX ca) 26 h (eM ca h) zcM za f L Q sz [.ref (h 0), .int 3, .int x1]) (sgQi D vwCl 26 h (eM ca h) sz (fun r f1 L1 Q1 => ((sgI loM hiM f1 ∧ sgK WkX12_setsAs_3_f4_f3 f f1 ∧ L1 = L ∧ Q1 = Q) ∧ True ∧ (5 ≤ (f1 0 48).toInt ∧ (f1 0 48).toInt ≤ 5) ∧ (r, f1) = sX12_setsAs_3_f4_f3 x1 f L))) 0 0 (sgA 26 h sz) := by
  refine sg_ofWi (cc := cX12_setsAs) (maxL := 3) RX12 (by decide) rfl rfl (Nat.le_of_ble_eq_true rfl) ?_
  intro p e s m below meth cd Qz ls hx hb hml hown hts hK hZ hP hS hl hret
  have hA := sgY.self (n := 26) (h := h) (sz := s.heap.size)
  have hl : lv_has ls 3 [(0, .ref (h 0)), (1, .int 3), (2, .int x1)] := hl
  obtain ⟨H, hH⟩ : ∃ z : Heap, z = s.heap := ⟨_, rfl⟩
  obtain ⟨locs, hlo⟩ : ∃ z : List Loc, z = [] := ⟨_, rfl⟩
  have hP : va_P D vwCl (sgw 26 h (eM ca h) f L Q) H := by rw [hH]; exact hP
  have hS : va_S (sgA 26 h s.heap.size) s.heap H locs := by rw [hH, hlo]; exact hS
  suffices hgo : W p l e ({ frames := 1, cells := 0, slots := 0, locals := 21 }) s m ([.ref (h 0), .int 3, .int x1] : List Value).toArray below meth cd H locs 0 0 Qz (F0 m 0 ls []) by rw [hH, hlo] at hgo; exact hgo
  clear hH hlo
  obtain ⟨sp, hsp⟩ : ∃ z : Int32 × sg_F, z = sX12_setsAs_3_f4_f3 x1 f L := ⟨_, rfl⟩
  have hs : sp = sX12_setsAs_3_f4_f3 x1 f L := hsp
  have o_1 : (f 0 48).toInt = 4 := (congrArg Int32.toInt (show f 0 48 = 4 from hf_0_48)).trans (by decide)
  have hF : sgK WkX12_setsAs_3_f4_f3 f f := sgK.rf
  refine lv_iload_n hx hb dX12_setsAs_0 rfl (lv_at hl 1 rfl) ?_
  refine lv_iconst (v := 1) hx hb dX12_setsAs_1 ic_1 ?_
  refine lv_icmp_eq (tgt := 16) hx hb dX12_setsAs_2 (by decide) (fun c => absurd c (by decide)) (fun c => ?_)
  refine lv_iload_n hx hb dX12_setsAs_5 rfl (lv_at hl 1 rfl) ?_
  refine lv_iconst (v := 4) hx hb dX12_setsAs_6 ic_4 ?_
  refine lv_icmp_eq (tgt := 16) hx hb dX12_setsAs_7 (by decide) (fun c => absurd c (by decide)) (fun c => ?_)
  refine lv_iload_n hx hb dX12_setsAs_10 rfl (lv_at hl 1 rfl) ?_
  refine lv_bipush (v := 7) hx hb dX12_setsAs_11 bp_7 ?_
  refine lv_icmp_ne (tgt := 31) hx hb dX12_setsAs_13 (by decide) (fun c => ?_) (fun c => absurd c (by decide))
  refine lv_iload_n hx hb dX12_setsAs_31 rfl (lv_at hl 1 rfl) ?_
  refine lv_bipush (v := 6) hx hb dX12_setsAs_32 bp_6 ?_
  refine lv_icmp_ne (tgt := 52) hx hb dX12_setsAs_34 (by decide) (fun c => ?_) (fun c => absurd c (by decide))
  refine lv_aload_n hx hb dX12_setsAs_52 rfl (lv_at hl 0 rfl) ?_
  refine lv_iconst (v := 1) hx hb dX12_setsAs_53 ic_1 ?_
  have q_2 : (f 0 48).toInt = 4 := (congrArg Int32.toInt (show f 0 48 = 4 from hf_0_48)).trans (by decide)
  refine sg_callv (va_runV (As := [.int 1]) (rest := []) ⟨hx, hb, hml, hown, hts⟩ (kX12_begins_1_f4 l D ca za h hh f L Q hI hf_0_48 (by have k0 : (1 : Int32).toInt = 1 := ti_1; omega) H.size) (sl_c12_begins_0_0_0_0_12 hts ⟨Nat.le_of_ble_eq_true rfl, Nat.le_of_ble_eq_true rfl⟩) (sl_vM_0 hA hK hP hS hZ) rfl rfl hl.1 rfl (lv_room (Nat.le_of_ble_eq_true rfl)) dX12_setsAs_54 ⟨Nat.le_refl _, Nat.le_refl _⟩) hA hS (fun f_4 L_5 Q_6 H locs hq hP hS => ?_)
  obtain ⟨⟨hI, hk_f_4, eL9, eQ9⟩, p_7, u_8⟩ := hq
  rw [eL9, eQ9] at hP; clear eL9 eQ9
  have hF : sgK WkX12_setsAs_3_f4_f3 f f_4 := sgK.tr hF hk_f_4 (by decide +kernel)
  obtain ⟨v_9, ev_9⟩ : ∃ z : Int32, z = f_4 0 48 := ⟨_, rfl⟩
  have q_10 : 0 ≤ v_9.toInt ∧ v_9.toInt ≤ 19 := by rw [ev_9]; exact hI 0 48
  have q_11 : (f_4 0 48).toInt = v_9.toInt := (congrArg Int32.toInt (show f_4 0 48 = v_9 from ev_9.symm))
  refine lv_iload_n hx hb dX12_setsAs_57 rfl (lv_at hl 2 rfl) ?_
  refine lv_aload_n hx hb dX12_setsAs_58 rfl (lv_at hl 0 rfl) ?_
  refine sl_gM_0_50_12 (v := (f_4 0 50)) hx hb hts hown hK hP rfl dX12_setsAs_59 ?_
  refine lv_topi (fun v_13 ev_13 => ?_)
  have q_14 : 0 ≤ v_13.toInt ∧ v_13.toInt ≤ 49 := by rw [ev_13]; exact hI 0 50
  refine lv_iadd hx hb dX12_setsAs_62 ?_
  refine lv_topi (fun v_15 ev_15 => ?_)
  exact hret _ _ _ _ (v_15) f_4 L Q dX12_setsAs_63 hP hS ⟨⟨hI, hF, rfl, rfl⟩, trivial, ⟨by omega, by omega⟩, (Eq.trans (Eq.symm (hs.trans ((spl_e u_8 (spl_e ev_9 (spl_e ev_13 (spl_e ev_15 rfl))))))) hsp)⟩

abbrev WkX12_sitsAs_0_f3_f3 : List (Nat × Nat × Option Nat) := [(0, 0, some 48), (21, 21, some 3), (21, 21, some 4)]
set_option maxHeartbeats 4000000 in
set_option maxRecDepth 100000 in
theorem kX12_sitsAs_0_f3_f3 (l : Launch) (D : va_G) (ca : Nat → ClassId) (za h : Nat → Nat) (hh : sgH 26 h) (f : sg_F) (L : sg_L) (Q : sg_Q) (hI : sgI loM hiM f) (x1 : Int32) (hf_0_48 : f 0 48 = 3) (hf_0_49 : f 0 49 = 3) (p0 : 3 ≤ (f 0 48).toInt ∧ (f 0 48).toInt ≤ 3) (sz : Nat) : Met l yX12_sitsAs gwX12_sitsAs { frames := 2, cells := 0, slots := 0, locals := 43 } (sgP D vwCl (tyX ca) 26 h (eM ca h) zcM za f L Q sz [.ref (h 0), .int 0, .int x1]) (sgQi D vwCl 26 h (eM ca h) sz (fun r f1 L1 Q1 => ((sgI loM hiM f1 ∧ sgK WkX12_sitsAs_0_f3_f3 f f1 ∧ L1 = L ∧ Q1 = Q) ∧ True ∧ (5 ≤ (f1 0 48).toInt ∧ (f1 0 48).toInt ≤ 5) ∧ (r, f1) = sX12_sitsAs_0_f3_f3 x1 f L))) 0 0 (sgA 26 h sz) := by
  refine sg_ofWi (cc := cX12_sitsAs) (maxL := 4) RX12 (by decide) rfl rfl (Nat.le_of_ble_eq_true rfl) ?_
  intro p e s m below meth cd Qz ls hx hb hml hown hts hK hZ hP hS hl hret
  have hA := sgY.self (n := 26) (h := h) (sz := s.heap.size)
  have hl : lv_has ls 4 [(0, .ref (h 0)), (1, .int 0), (2, .int x1)] := hl
  obtain ⟨H, hH⟩ : ∃ z : Heap, z = s.heap := ⟨_, rfl⟩
  obtain ⟨locs, hlo⟩ : ∃ z : List Loc, z = [] := ⟨_, rfl⟩
  have hP : va_P D vwCl (sgw 26 h (eM ca h) f L Q) H := by rw [hH]; exact hP
  have hS : va_S (sgA 26 h s.heap.size) s.heap H locs := by rw [hH, hlo]; exact hS
  suffices hgo : W p l e ({ frames := 2, cells := 0, slots := 0, locals := 43 }) s m ([.ref (h 0), .int 0, .int x1] : List Value).toArray below meth cd H locs 0 0 Qz (F0 m 0 ls []) by rw [hH, hlo] at hgo; exact hgo
  clear hH hlo
  obtain ⟨sp, hsp⟩ : ∃ z : Int32 × sg_F, z = sX12_sitsAs_0_f3_f3 x1 f L := ⟨_, rfl⟩
  have hs : sp = sX12_sitsAs_0_f3_f3 x1 f L := hsp
  have o_1 : (f 0 48).toInt = 3 := (congrArg Int32.toInt (show f 0 48 = 3 from hf_0_48)).trans (by decide)
  have hF : sgK WkX12_sitsAs_0_f3_f3 f f := sgK.rf
  refine lv_iload_n hx hb dX12_sitsAs_0 rfl (lv_at hl 1 rfl) ?_
  refine lv_iconst (v := 3) hx hb dX12_sitsAs_1 ic_3 ?_
  refine lv_icmp_eq (tgt := 10) hx hb dX12_sitsAs_2 (by decide) (fun c => absurd c (by decide)) (fun c => ?_)
  refine lv_iload_n hx hb dX12_sitsAs_5 rfl (lv_at hl 1 rfl) ?_
  refine lv_iconst (v := 5) hx hb dX12_sitsAs_6 ic_5 ?_
  refine lv_icmp_ne (tgt := 25) hx hb dX12_sitsAs_7 (by decide) (fun c => ?_) (fun c => absurd c (by decide))
  refine lv_iload_n hx hb dX12_sitsAs_25 rfl (lv_at hl 1 rfl) ?_
  refine lv_iconst (v := 2) hx hb dX12_sitsAs_26 ic_2 ?_
  refine lv_icmp_ne (tgt := 44) hx hb dX12_sitsAs_27 (by decide) (fun c => ?_) (fun c => absurd c (by decide))
  refine lv_iload_n hx hb dX12_sitsAs_44 rfl (lv_at hl 1 rfl) ?_
  refine lv_bipush (v := 7) hx hb dX12_sitsAs_45 bp_7 ?_
  refine lv_icmp_ne (tgt := 75) hx hb dX12_sitsAs_47 (by decide) (fun c => ?_) (fun c => absurd c (by decide))
  refine lv_aload_n hx hb dX12_sitsAs_75 rfl (lv_at hl 0 rfl) ?_
  refine lv_bipush (v := 10) hx hb dX12_sitsAs_76 bp_10 ?_
  have q_2 : (f 0 48).toInt = 3 := (congrArg Int32.toInt (show f 0 48 = 3 from hf_0_48)).trans (by decide)
  refine sg_callv (va_runV (As := [.int 10]) (rest := []) ⟨hx, hb, hml, hown, hts⟩ (kX12_begins_10_f3 l D ca za h hh f L Q hI hf_0_48 (by have k0 : (10 : Int32).toInt = 10 := ti_10; omega) H.size) (sl_c12_begins_0_0_0_0_12 hts ⟨Nat.le_of_ble_eq_true rfl, Nat.le_of_ble_eq_true rfl⟩) (sl_vM_0 hA hK hP hS hZ) rfl rfl hl.1 rfl (lv_room (Nat.le_of_ble_eq_true rfl)) dX12_sitsAs_78 ⟨Nat.le_refl _, Nat.le_refl _⟩) hA hS (fun f_4 L_5 Q_6 H locs hq hP hS => ?_)
  obtain ⟨⟨hI, hk_f_4, eL9, eQ9⟩, p_7, u_8⟩ := hq
  rw [eL9, eQ9] at hP; clear eL9 eQ9
  have hF : sgK WkX12_sitsAs_0_f3_f3 f f_4 := sgK.tr hF hk_f_4 (by decide +kernel)
  obtain ⟨v_9, ev_9⟩ : ∃ z : Int32, z = f_4 0 48 := ⟨_, rfl⟩
  have q_10 : 0 ≤ v_9.toInt ∧ v_9.toInt ≤ 19 := by rw [ev_9]; exact hI 0 48
  have q_11 : (f_4 0 48).toInt = v_9.toInt := (congrArg Int32.toInt (show f_4 0 48 = v_9 from ev_9.symm))
  refine lv_aload_n hx hb dX12_sitsAs_81 rfl (lv_at hl 0 rfl) ?_
  refine lv_aload_n hx hb dX12_sitsAs_82 rfl (lv_at hl 0 rfl) ?_
  refine sl_gM_0_49_12 (v := 3) hx hb hts hown hK hP (show f_4 0 49 = 3 from ((hk_f_4 0 49 (by decide)).trans hf_0_49)) dX12_sitsAs_83 ?_
  refine lv_iload_n hx hb dX12_sitsAs_86 rfl (lv_at hl 2 rfl) ?_
  have c_13 : v_9 = 4 := Int32.toInt_inj.mp (by have k9 : (4 : Int32).toInt = 4 := ti_4; omega)
  have q_14 : (f_4 0 48).toInt = 4 := (congrArg Int32.toInt (show f_4 0 48 = 4 from (Eq.trans ev_9.symm c_13))).trans (by decide)
  refine sg_calli (va_runV (As := [.int 3, .int x1]) (rest := []) ⟨hx, hb, hml, hown, hts⟩ (kX12_setsAs_3_f4_f3 l D ca za h hh f_4 L Q hI x1 (Eq.trans ev_9.symm c_13) ((hk_f_4 0 49 (by decide)).trans hf_0_49) (by have k0 : (3 : Int32).toInt = 3 := ti_3; omega) H.size) (sl_c12_setsAs_1_0_0_21_12 hts ⟨Nat.le_of_ble_eq_true rfl, Nat.le_of_ble_eq_true rfl⟩) (sl_vM_0 hA hK hP hS hZ) rfl rfl hl.1 rfl (lv_room (Nat.le_of_ble_eq_true rfl)) dX12_sitsAs_87 ⟨Nat.le_refl _, Nat.le_refl _⟩) hA hS (fun r_19 f_16 L_17 Q_18 H locs hq hP hS => ?_)
  obtain ⟨⟨hI, hk_f_16, eL9, eQ9⟩, hq, p_20, u_21⟩ := hq
  rw [eL9, eQ9] at hP; clear eL9 eQ9
  have hF : sgK WkX12_sitsAs_0_f3_f3 f f_16 := sgK.tr hF hk_f_16 (by decide +kernel)
  obtain ⟨v_22, ev_22⟩ : ∃ z : Int32, z = f_16 0 48 := ⟨_, rfl⟩
  have q_23 : 0 ≤ v_22.toInt ∧ v_22.toInt ≤ 19 := by rw [ev_22]; exact hI 0 48
  have q_24 : (f_16 0 48).toInt = v_22.toInt := (congrArg Int32.toInt (show f_16 0 48 = v_22 from ev_22.symm))
  have k_26 : (3 : Int32).toInt = 3 := by decide
  refine lv_iconst (v := 2) hx hb dX12_sitsAs_90 ic_2 ?_
  refine lv_imul hx hb dX12_sitsAs_91 ?_
  refine lv_topi (fun v_27 ev_27 => ?_)
  exact hret _ _ _ _ (v_27) f_16 L Q dX12_sitsAs_92 hP hS ⟨⟨hI, hF, rfl, rfl⟩, trivial, ⟨by omega, by omega⟩, (Eq.trans (Eq.symm (hs.trans ((spl_e u_8 (spl_e ev_9 (spl2_e u_21 (spl_e ev_22 (spl_e ev_27 rfl)))))))) hsp)⟩

abbrev WkX12_sitsAs_2_f2_f3 : List (Nat × Nat × Option Nat) := [(0, 0, some 48), (21, 21, some 2), (21, 21, some 3), (21, 21, some 4)]
set_option maxHeartbeats 4000000 in
set_option maxRecDepth 100000 in
theorem kX12_sitsAs_2_f2_f3 (l : Launch) (D : va_G) (ca : Nat → ClassId) (za h : Nat → Nat) (hh : sgH 26 h) (f : sg_F) (L : sg_L) (Q : sg_Q) (hI : sgI loM hiM f) (x1 : Int32) (hf_0_48 : f 0 48 = 2) (hf_0_49 : f 0 49 = 3) (p0 : 2 ≤ (f 0 48).toInt ∧ (f 0 48).toInt ≤ 2) (sz : Nat) : Met l yX12_sitsAs gwX12_sitsAs { frames := 3, cells := 0, slots := 0, locals := 66 } (sgP D vwCl (tyX ca) 26 h (eM ca h) zcM za f L Q sz [.ref (h 0), .int 2, .int x1]) (sgQi D vwCl 26 h (eM ca h) sz (fun r f1 L1 Q1 => ((sgI loM hiM f1 ∧ sgK WkX12_sitsAs_2_f2_f3 f f1 ∧ L1 = L ∧ Q1 = Q) ∧ True ∧ (5 ≤ (f1 0 48).toInt ∧ (f1 0 48).toInt ≤ 5) ∧ (r, f1) = sX12_sitsAs_2_f2_f3 x1 f L))) 0 0 (sgA 26 h sz) := by
  refine sg_ofWi (cc := cX12_sitsAs) (maxL := 4) RX12 (by decide) rfl rfl (Nat.le_of_ble_eq_true rfl) ?_
  intro p e s m below meth cd Qz ls hx hb hml hown hts hK hZ hP hS hl hret
  have hA := sgY.self (n := 26) (h := h) (sz := s.heap.size)
  have hl : lv_has ls 4 [(0, .ref (h 0)), (1, .int 2), (2, .int x1)] := hl
  obtain ⟨H, hH⟩ : ∃ z : Heap, z = s.heap := ⟨_, rfl⟩
  obtain ⟨locs, hlo⟩ : ∃ z : List Loc, z = [] := ⟨_, rfl⟩
  have hP : va_P D vwCl (sgw 26 h (eM ca h) f L Q) H := by rw [hH]; exact hP
  have hS : va_S (sgA 26 h s.heap.size) s.heap H locs := by rw [hH, hlo]; exact hS
  suffices hgo : W p l e ({ frames := 3, cells := 0, slots := 0, locals := 66 }) s m ([.ref (h 0), .int 2, .int x1] : List Value).toArray below meth cd H locs 0 0 Qz (F0 m 0 ls []) by rw [hH, hlo] at hgo; exact hgo
  clear hH hlo
  obtain ⟨sp, hsp⟩ : ∃ z : Int32 × sg_F, z = sX12_sitsAs_2_f2_f3 x1 f L := ⟨_, rfl⟩
  have hs : sp = sX12_sitsAs_2_f2_f3 x1 f L := hsp
  have o_1 : (f 0 48).toInt = 2 := (congrArg Int32.toInt (show f 0 48 = 2 from hf_0_48)).trans (by decide)
  have hF : sgK WkX12_sitsAs_2_f2_f3 f f := sgK.rf
  refine lv_iload_n hx hb dX12_sitsAs_0 rfl (lv_at hl 1 rfl) ?_
  refine lv_iconst (v := 3) hx hb dX12_sitsAs_1 ic_3 ?_
  refine lv_icmp_eq (tgt := 10) hx hb dX12_sitsAs_2 (by decide) (fun c => absurd c (by decide)) (fun c => ?_)
  refine lv_iload_n hx hb dX12_sitsAs_5 rfl (lv_at hl 1 rfl) ?_
  refine lv_iconst (v := 5) hx hb dX12_sitsAs_6 ic_5 ?_
  refine lv_icmp_ne (tgt := 25) hx hb dX12_sitsAs_7 (by decide) (fun c => ?_) (fun c => absurd c (by decide))
  refine lv_iload_n hx hb dX12_sitsAs_25 rfl (lv_at hl 1 rfl) ?_
  refine lv_iconst (v := 2) hx hb dX12_sitsAs_26 ic_2 ?_
  refine lv_icmp_ne (tgt := 44) hx hb dX12_sitsAs_27 (by decide) (fun c => absurd c (by decide)) (fun c => ?_)
  refine lv_aload_n hx hb dX12_sitsAs_30 rfl (lv_at hl 0 rfl) ?_
  refine lv_bipush (v := 30) hx hb dX12_sitsAs_31 bp_30 ?_
  have q_2 : (f 0 48).toInt = 2 := (congrArg Int32.toInt (show f 0 48 = 2 from hf_0_48)).trans (by decide)
  refine sg_callv (va_runV (As := [.int 30]) (rest := []) ⟨hx, hb, hml, hown, hts⟩ (kX12_begins_30_f2 l D ca za h hh f L Q hI hf_0_48 (by have k0 : (30 : Int32).toInt = 30 := ti_30; omega) H.size) (sl_c12_begins_0_0_0_0_12 hts ⟨Nat.le_of_ble_eq_true rfl, Nat.le_of_ble_eq_true rfl⟩) (sl_vM_0 hA hK hP hS hZ) rfl rfl hl.1 rfl (lv_room (Nat.le_of_ble_eq_true rfl)) dX12_sitsAs_33 ⟨Nat.le_refl _, Nat.le_refl _⟩) hA hS (fun f_4 L_5 Q_6 H locs hq hP hS => ?_)
  obtain ⟨⟨hI, hk_f_4, eL9, eQ9⟩, p_7, u_8⟩ := hq
  rw [eL9, eQ9] at hP; clear eL9 eQ9
  have hF : sgK WkX12_sitsAs_2_f2_f3 f f_4 := sgK.tr hF hk_f_4 (by decide +kernel)
  obtain ⟨v_9, ev_9⟩ : ∃ z : Int32, z = f_4 0 48 := ⟨_, rfl⟩
  have q_10 : 0 ≤ v_9.toInt ∧ v_9.toInt ≤ 19 := by rw [ev_9]; exact hI 0 48
  have q_11 : (f_4 0 48).toInt = v_9.toInt := (congrArg Int32.toInt (show f_4 0 48 = v_9 from ev_9.symm))
  refine lv_aload_n hx hb dX12_sitsAs_36 rfl (lv_at hl 0 rfl) ?_
  refine lv_iconst (v := 0) hx hb dX12_sitsAs_37 ic_0 ?_
  refine lv_iload_n hx hb dX12_sitsAs_38 rfl (lv_at hl 2 rfl) ?_
  have c_13 : v_9 = 3 := Int32.toInt_inj.mp (by have k9 : (3 : Int32).toInt = 3 := ti_3; omega)
  have q_14 : (f_4 0 48).toInt = 3 := (congrArg Int32.toInt (show f_4 0 48 = 3 from (Eq.trans ev_9.symm c_13))).trans (by decide)
  refine sg_calli (va_runV (As := [.int 0, .int x1]) (rest := []) ⟨hx, hb, hml, hown, hts⟩ (kX12_sitsAs_0_f3_f3 l D ca za h hh f_4 L Q hI x1 (Eq.trans ev_9.symm c_13) ((hk_f_4 0 49 (by decide)).trans hf_0_49) (by have k0 : (0 : Int32).toInt = 0 := ti_0; omega) H.size) (sl_c12_sitsAs_2_0_0_43_12 hts ⟨Nat.le_of_ble_eq_true rfl, Nat.le_of_ble_eq_true rfl⟩) (sl_vM_0 hA hK hP hS hZ) rfl rfl hl.1 rfl (lv_room (Nat.le_of_ble_eq_true rfl)) dX12_sitsAs_39 ⟨Nat.le_refl _, Nat.le_refl _⟩) hA hS (fun r_19 f_16 L_17 Q_18 H locs hq hP hS => ?_)
  obtain ⟨⟨hI, hk_f_16, eL9, eQ9⟩, hq, p_20, u_21⟩ := hq
  rw [eL9, eQ9] at hP; clear eL9 eQ9
  have hF : sgK WkX12_sitsAs_2_f2_f3 f f_16 := sgK.tr hF hk_f_16 (by decide +kernel)
  obtain ⟨v_22, ev_22⟩ : ∃ z : Int32, z = f_16 0 48 := ⟨_, rfl⟩
  have q_23 : 0 ≤ v_22.toInt ∧ v_22.toInt ≤ 19 := by rw [ev_22]; exact hI 0 48
  have q_24 : (f_16 0 48).toInt = v_22.toInt := (congrArg Int32.toInt (show f_16 0 48 = v_22 from ev_22.symm))
  have k_26 : (0 : Int32).toInt = 0 := by decide
  refine lv_ineg hx hb dX12_sitsAs_42 ?_
  refine lv_topi (fun v_27 ev_27 => ?_)
  exact hret _ _ _ _ (v_27) f_16 L Q dX12_sitsAs_43 hP hS ⟨⟨hI, hF, rfl, rfl⟩, trivial, ⟨by omega, by omega⟩, (Eq.trans (Eq.symm (hs.trans ((spl_e u_8 (spl_e ev_9 (spl2_e u_21 (spl_e ev_22 (spl_e ev_27 rfl)))))))) hsp)⟩

abbrev WkX12_sitsAs_3_f1_f3 : List (Nat × Nat × Option Nat) := [(0, 0, some 48), (21, 21, some 1), (21, 21, some 2), (21, 21, some 3), (21, 21, some 4)]
set_option maxHeartbeats 4000000 in
set_option maxRecDepth 100000 in
theorem kX12_sitsAs_3_f1_f3 (l : Launch) (D : va_G) (ca : Nat → ClassId) (za h : Nat → Nat) (hh : sgH 26 h) (f : sg_F) (L : sg_L) (Q : sg_Q) (hI : sgI loM hiM f) (x1 : Int32) (hf_0_48 : f 0 48 = 1) (hf_0_49 : f 0 49 = 3) (p0 : 1 ≤ (f 0 48).toInt ∧ (f 0 48).toInt ≤ 1) (sz : Nat) : Met l yX12_sitsAs gwX12_sitsAs { frames := 4, cells := 0, slots := 0, locals := 89 } (sgP D vwCl (tyX ca) 26 h (eM ca h) zcM za f L Q sz [.ref (h 0), .int 3, .int x1]) (sgQi D vwCl 26 h (eM ca h) sz (fun r f1 L1 Q1 => ((sgI loM hiM f1 ∧ sgK WkX12_sitsAs_3_f1_f3 f f1 ∧ L1 = L ∧ Q1 = Q) ∧ True ∧ (5 ≤ (f1 0 48).toInt ∧ (f1 0 48).toInt ≤ 5) ∧ (r, f1) = sX12_sitsAs_3_f1_f3 x1 f L))) 0 0 (sgA 26 h sz) := by
  refine sg_ofWi (cc := cX12_sitsAs) (maxL := 4) RX12 (by decide) rfl rfl (Nat.le_of_ble_eq_true rfl) ?_
  intro p e s m below meth cd Qz ls hx hb hml hown hts hK hZ hP hS hl hret
  have hA := sgY.self (n := 26) (h := h) (sz := s.heap.size)
  have hl : lv_has ls 4 [(0, .ref (h 0)), (1, .int 3), (2, .int x1)] := hl
  obtain ⟨H, hH⟩ : ∃ z : Heap, z = s.heap := ⟨_, rfl⟩
  obtain ⟨locs, hlo⟩ : ∃ z : List Loc, z = [] := ⟨_, rfl⟩
  have hP : va_P D vwCl (sgw 26 h (eM ca h) f L Q) H := by rw [hH]; exact hP
  have hS : va_S (sgA 26 h s.heap.size) s.heap H locs := by rw [hH, hlo]; exact hS
  suffices hgo : W p l e ({ frames := 4, cells := 0, slots := 0, locals := 89 }) s m ([.ref (h 0), .int 3, .int x1] : List Value).toArray below meth cd H locs 0 0 Qz (F0 m 0 ls []) by rw [hH, hlo] at hgo; exact hgo
  clear hH hlo
  obtain ⟨sp, hsp⟩ : ∃ z : Int32 × sg_F, z = sX12_sitsAs_3_f1_f3 x1 f L := ⟨_, rfl⟩
  have hs : sp = sX12_sitsAs_3_f1_f3 x1 f L := hsp
  have o_1 : (f 0 48).toInt = 1 := (congrArg Int32.toInt (show f 0 48 = 1 from hf_0_48)).trans (by decide)
  have hF : sgK WkX12_sitsAs_3_f1_f3 f f := sgK.rf
  have blk_10 : ∀ (fp_10 : sg_F) (H : Heap) (locs : List Loc) (ls : Array Slot), sp = sX12_sitsAs_3_f1_f3_b10 x1 fp_10 L → 1 ≤ (fp_10 0 48).toInt ∧ (fp_10 0 48).toInt ≤ 1 → 3 ≤ (fp_10 0 49).toInt ∧ (fp_10 0 49).toInt ≤ 3 → sgI loM hiM fp_10 → sgK WkX12_sitsAs_3_f1_f3 f fp_10 → va_P D vwCl (sgw 26 h (eM ca h) fp_10 L Q) H → va_S (sgA 26 h s.heap.size) s.heap H locs → lv_has ls 4 [(0, .ref (h 0)), (2, .int x1)] → W p l e ({ frames := 4, cells := 0, slots := 0, locals := 89 }) s m ([.ref (h 0), .int 3, .int x1] : List Value).toArray below meth cd H locs 0 0 Qz (F0 m 10 ls []) := by
    intro fp_10 H locs ls hs hy0_10 hy1_10 hI hF hP hS hl
    obtain ⟨v_2, ev_2⟩ : ∃ z : Int32, z = fp_10 0 48 := ⟨_, rfl⟩
    have q_3 : 0 ≤ v_2.toInt ∧ v_2.toInt ≤ 19 := by rw [ev_2]; exact hI 0 48
    have q_4 : (fp_10 0 48).toInt = v_2.toInt := by rw [ev_2]
    obtain ⟨v_5, ev_5⟩ : ∃ z : Int32, z = fp_10 0 49 := ⟨_, rfl⟩
    have q_6 : 0 ≤ v_5.toInt ∧ v_5.toInt ≤ 7 := by rw [ev_5]; exact hI 0 49
    have q_7 : (fp_10 0 49).toInt = v_5.toInt := by rw [ev_5]
    have m_8 : fp_10 0 49 = 3 := (hF 0 49 (by decide)).trans hf_0_49
    refine lv_aload_n hx hb dX12_sitsAs_10 rfl (lv_at hl 0 rfl) ?_
    refine lv_bipush (v := 41) hx hb dX12_sitsAs_11 bp_41 ?_
    have c_9 : v_2 = 1 := Int32.toInt_inj.mp (by have k9 : (1 : Int32).toInt = 1 := ti_1; omega)
    have q_10 : (fp_10 0 48).toInt = 1 := (congrArg Int32.toInt (show fp_10 0 48 = 1 from (Eq.trans ev_2.symm c_9))).trans (by decide)
    refine sg_callv (va_runV (As := [.int 41]) (rest := []) ⟨hx, hb, hml, hown, hts⟩ (kX12_begins_41_f1 l D ca za h hh fp_10 L Q hI (Eq.trans ev_2.symm c_9) (by have k0 : (41 : Int32).toInt = 41 := ti_41; omega) H.size) (sl_c12_begins_0_0_0_0_12 hts ⟨Nat.le_of_ble_eq_true rfl, Nat.le_of_ble_eq_true rfl⟩) (sl_vM_0 hA hK hP hS hZ) rfl rfl hl.1 rfl (lv_room (Nat.le_of_ble_eq_true rfl)) dX12_sitsAs_13 ⟨Nat.le_refl _, Nat.le_refl _⟩) hA hS (fun f_12 L_13 Q_14 H locs hq hP hS => ?_)
    obtain ⟨⟨hI, hk_f_12, eL9, eQ9⟩, p_15, u_16⟩ := hq
    rw [eL9, eQ9] at hP; clear eL9 eQ9
    have hF : sgK WkX12_sitsAs_3_f1_f3 f f_12 := sgK.tr hF hk_f_12 (by decide +kernel)
    obtain ⟨v_17, ev_17⟩ : ∃ z : Int32, z = f_12 0 48 := ⟨_, rfl⟩
    have q_18 : 0 ≤ v_17.toInt ∧ v_17.toInt ≤ 19 := by rw [ev_17]; exact hI 0 48
    have q_19 : (f_12 0 48).toInt = v_17.toInt := (congrArg Int32.toInt (show f_12 0 48 = v_17 from ev_17.symm))
    refine lv_aload_n hx hb dX12_sitsAs_16 rfl (lv_at hl 0 rfl) ?_
    refine lv_iconst (v := 2) hx hb dX12_sitsAs_17 ic_2 ?_
    refine lv_iload_n hx hb dX12_sitsAs_18 rfl (lv_at hl 1 rfl) ?_
    refine lv_iconst (v := 1) hx hb dX12_sitsAs_19 ic_1 ?_
    refine lv_iadd hx hb dX12_sitsAs_20 ?_
    refine lv_topi (fun v_21 ev_21 => ?_)
    have c_22 : v_17 = 2 := Int32.toInt_inj.mp (by have k9 : (2 : Int32).toInt = 2 := ti_2; omega)
    have q_23 : (f_12 0 48).toInt = 2 := (congrArg Int32.toInt (show f_12 0 48 = 2 from (Eq.trans ev_17.symm c_22))).trans (by decide)
    refine sg_calli (va_runV (As := [.int 2, .int v_21]) (rest := []) ⟨hx, hb, hml, hown, hts⟩ (kX12_sitsAs_2_f2_f3 l D ca za h hh f_12 L Q hI v_21 (Eq.trans ev_17.symm c_22) ((hk_f_12 0 49 (by decide)).trans m_8) (by have k0 : (2 : Int32).toInt = 2 := ti_2; omega) H.size) (sl_c12_sitsAs_3_0_0_66_12 hts ⟨Nat.le_of_ble_eq_true rfl, Nat.le_of_ble_eq_true rfl⟩) (sl_vM_0 hA hK hP hS hZ) rfl rfl hl.1 rfl (lv_room (Nat.le_of_ble_eq_true rfl)) dX12_sitsAs_21 ⟨Nat.le_refl _, Nat.le_refl _⟩) hA hS (fun r_28 f_25 L_26 Q_27 H locs hq hP hS => ?_)
    obtain ⟨⟨hI, hk_f_25, eL9, eQ9⟩, hq, p_29, u_30⟩ := hq
    rw [eL9, eQ9] at hP; clear eL9 eQ9
    have hF : sgK WkX12_sitsAs_3_f1_f3 f f_25 := sgK.tr hF hk_f_25 (by decide +kernel)
    obtain ⟨v_31, ev_31⟩ : ∃ z : Int32, z = f_25 0 48 := ⟨_, rfl⟩
    have q_32 : 0 ≤ v_31.toInt ∧ v_31.toInt ≤ 19 := by rw [ev_31]; exact hI 0 48
    have q_33 : (f_25 0 48).toInt = v_31.toInt := (congrArg Int32.toInt (show f_25 0 48 = v_31 from ev_31.symm))
    have k_35 : (2 : Int32).toInt = 2 := by decide
    exact hret _ _ _ _ (r_28) f_25 L Q dX12_sitsAs_24 hP hS ⟨⟨hI, hF, rfl, rfl⟩, trivial, ⟨by omega, by omega⟩, (Eq.trans (Eq.symm (hs.trans ((spl_e ev_2 (spl_e ev_5 (spl_e u_16 (spl_e ev_17 (spl_e ev_21 (spl2_e u_30 (spl_e ev_31 rfl)))))))))) hsp)⟩
  refine lv_iload_n hx hb dX12_sitsAs_0 rfl (lv_at hl 1 rfl) ?_
  refine lv_iconst (v := 3) hx hb dX12_sitsAs_1 ic_3 ?_
  refine lv_icmp_eq (tgt := 10) hx hb dX12_sitsAs_2 (by decide) (fun c => ?_) (fun c => absurd c (by decide))
  exact blk_10 f _ _ _ hs (by have zz0_48 : (f 0 48).toInt = 1 := (congrArg Int32.toInt (show f 0 48 = 1 from hf_0_48)).trans (by decide); exact ⟨by omega, by omega⟩) (by have zz0_49 : (f 0 49).toInt = 3 := (congrArg Int32.toInt (show f 0 49 = 3 from hf_0_49)).trans (by decide); exact ⟨by omega, by omega⟩) hI hF hP hS (lv_sub hl [0, 2] rfl)

abbrev WkX12_begins_40_f5 : List (Nat × Nat × Option Nat) := [(0, 0, some 48), (21, 21, some 5)]
set_option maxHeartbeats 4000000 in
set_option maxRecDepth 100000 in
theorem kX12_begins_40_f5 (l : Launch) (D : va_G) (ca : Nat → ClassId) (za h : Nat → Nat) (hh : sgH 26 h) (f : sg_F) (L : sg_L) (Q : sg_Q) (hI : sgI loM hiM f) (hf_0_48 : f 0 48 = 5) (p0 : 5 ≤ (f 0 48).toInt ∧ (f 0 48).toInt ≤ 5) (sz : Nat) : Met l yX12_begins gwX12_begins { frames := 0, cells := 0, slots := 0, locals := 0 } (sgP D vwCl (tyX ca) 26 h (eM ca h) zcM za f L Q sz [.ref (h 0), .int 40]) (sgQv D vwCl 26 h (eM ca h) sz (fun f1 L1 Q1 => ((sgI loM hiM f1 ∧ sgK WkX12_begins_40_f5 f f1 ∧ L1 = L ∧ Q1 = Q) ∧ (6 ≤ (f1 0 48).toInt ∧ (f1 0 48).toInt ≤ 6) ∧ (f1) = sX12_begins_40_f5 f L))) 0 0 (sgA 26 h sz) := by
  refine sg_ofWv (cc := cX12_begins) (maxL := 2) RX12 (by decide) rfl rfl (Nat.le_of_ble_eq_true rfl) ?_
  intro p e s m below meth cd Qz ls hx hb hml hown hts hK hZ hP hS hl hret
  have hA := sgY.self (n := 26) (h := h) (sz := s.heap.size)
  have hl : lv_has ls 2 [(0, .ref (h 0)), (1, .int 40)] := hl
  obtain ⟨H, hH⟩ : ∃ z : Heap, z = s.heap := ⟨_, rfl⟩
  obtain ⟨locs, hlo⟩ : ∃ z : List Loc, z = [] := ⟨_, rfl⟩
  have hP : va_P D vwCl (sgw 26 h (eM ca h) f L Q) H := by rw [hH]; exact hP
  have hS : va_S (sgA 26 h s.heap.size) s.heap H locs := by rw [hH, hlo]; exact hS
  suffices hgo : W p l e ({ frames := 0, cells := 0, slots := 0, locals := 0 }) s m ([.ref (h 0), .int 40] : List Value).toArray below meth cd H locs 0 0 Qz (F0 m 0 ls []) by rw [hH, hlo] at hgo; exact hgo
  clear hH hlo
  obtain ⟨sp, hsp⟩ : ∃ z : sg_F, z = sX12_begins_40_f5 f L := ⟨_, rfl⟩
  have hs : sp = sX12_begins_40_f5 f L := hsp
  have o_1 : (f 0 48).toInt = 5 := (congrArg Int32.toInt (show f 0 48 = 5 from hf_0_48)).trans (by decide)
  have hF : sgK WkX12_begins_40_f5 f f := sgK.rf
  have blk_19 : ∀ (fp_19 : sg_F) (H : Heap) (locs : List Loc) (ls : Array Slot), sp = sX12_begins_40_f5_b19 fp_19 L → 5 ≤ (fp_19 0 48).toInt ∧ (fp_19 0 48).toInt ≤ 5 → sgI loM hiM fp_19 → sgK WkX12_begins_40_f5 f fp_19 → va_P D vwCl (sgw 26 h (eM ca h) fp_19 L Q) H → va_S (sgA 26 h s.heap.size) s.heap H locs → lv_has ls 2 [(0, .ref (h 0))] → W p l e ({ frames := 0, cells := 0, slots := 0, locals := 0 }) s m ([.ref (h 0), .int 40] : List Value).toArray below meth cd H locs 0 0 Qz (F0 m 19 ls []) := by
    intro fp_19 H locs ls hs hy0_19 hI hF hP hS hl
    obtain ⟨v_2, ev_2⟩ : ∃ z : Int32, z = fp_19 0 48 := ⟨_, rfl⟩
    have q_3 : 0 ≤ v_2.toInt ∧ v_2.toInt ≤ 19 := by rw [ev_2]; exact hI 0 48
    have q_4 : (fp_19 0 48).toInt = v_2.toInt := by rw [ev_2]
    refine lv_aload_n hx hb dX12_begins_19 rfl (lv_at hl 0 rfl) ?_
    refine lv_dup hx hb dX12_begins_20 rfl ?_
    refine sl_gM_0_48_12 (v := v_2) hx hb hts hown hK hP (show fp_19 0 48 = v_2 from ev_2.symm) dX12_begins_21 ?_
    refine lv_iconst (v := 1) hx hb dX12_begins_24 ic_1 ?_
    refine lv_iadd hx hb dX12_begins_25 ?_
    refine lv_topi (fun v_5 ev_5 => ?_)
    have q_6 : v_5.toInt = v_2.toInt + 1 := by rw [ev_5]; first | exact cm_add ti_1 (by omega) (by omega) | (have k1 : (1 : Int32).toInt = 1 := ti_1; exact (bn_addI (by omega) (by omega)).trans (by omega))
    refine sl_pM_0_48_12 (x := v_5) hx hb hts hown hh hA hK hP hS dX12_begins_26 (fun f_7 H locs ef_7 hP hS => ?_)
    have hI : sgI loM hiM f_7 := by rw [ef_7]; exact sgI.put hI 0 48 (show 0 ≤ (v_5 : Int32).toInt ∧ (v_5 : Int32).toInt ≤ 19 from ⟨by omega, by omega⟩)
    have hF : sgK WkX12_begins_40_f5 f f_7 := sgK.put hF ef_7 (by rfl)
    have q_8 : (f_7 0 48).toInt = v_5.toInt := (congrArg Int32.toInt (show f_7 0 48 = v_5 from (by rw [ef_7, sg_up_s, sgu_s])))
    exact hret _ _ _ _ f_7 L Q dX12_begins_29 hP hS ⟨⟨hI, hF, rfl, rfl⟩, ⟨by omega, by omega⟩, (Eq.trans (Eq.symm (hs.trans ((spl_e ev_2 (spl_e ev_5 (spl_e ef_7 rfl)))))) hsp)⟩
  refine lv_aload_n hx hb dX12_begins_0 rfl (lv_at hl 0 rfl) ?_
  refine sl_gM_0_48_12 (v := 5) hx hb hts hown hK hP (show f 0 48 = 5 from hf_0_48) dX12_begins_1 ?_
  refine lv_bipush (v := 24) hx hb dX12_begins_4 bp_24 ?_
  refine lv_icmp_ge (tgt := 19) hx hb dX12_begins_6 (by decide) (fun c => absurd c (by decide)) (fun c => ?_)
  refine lv_aload_n hx hb dX12_begins_9 rfl (lv_at hl 0 rfl) ?_
  refine sl_gM_0_47_12 hx hb hts hown hK hP dX12_begins_10 ?_
  refine lv_aload_n hx hb dX12_begins_13 rfl (lv_at hl 0 rfl) ?_
  refine sl_gM_0_48_12 (v := 5) hx hb hts hown hK hP (show f 0 48 = 5 from hf_0_48) dX12_begins_14 ?_
  refine lv_iload_n hx hb dX12_begins_17 rfl (lv_at hl 1 rfl) ?_
  refine sg_iast hx hb hh hA hK hP hS 21 (by decide) 0 (fun _ => rfl) rfl (i := 5) (x := 40) (vp_in_iff.mpr (by decide)) dX12_begins_18 (fun f_10 H locs ef_10 hP hS => ?_)
  have ef_10 : f_10 = sg_up f 21 (sgu (f 21) 5 40) := ef_10
  have hI : sgI loM hiM f_10 := by rw [ef_10]; exact sgI.put hI 21 5 (show 0 ≤ (40 : Int32).toInt ∧ (40 : Int32).toInt ≤ 81 from by decide)
  have hF : sgK WkX12_begins_40_f5 f f_10 := sgK.put hF ef_10 (by rfl)
  exact blk_19 f_10 _ _ _ (hs.trans ((spl_e ef_10 rfl))) (by have zz0_48 : (f_10 0 48).toInt = 5 := (congrArg Int32.toInt (show f_10 0 48 = 5 from (by rw [ef_10, sg_up_n (by decide)]; exact hf_0_48))).trans (by decide); exact ⟨by omega, by omega⟩) hI hF hP hS (lv_sub hl [0] rfl)

abbrev WkX12_begins_11_f6 : List (Nat × Nat × Option Nat) := [(0, 0, some 48), (21, 21, some 6)]
set_option maxHeartbeats 4000000 in
set_option maxRecDepth 100000 in
theorem kX12_begins_11_f6 (l : Launch) (D : va_G) (ca : Nat → ClassId) (za h : Nat → Nat) (hh : sgH 26 h) (f : sg_F) (L : sg_L) (Q : sg_Q) (hI : sgI loM hiM f) (hf_0_48 : f 0 48 = 6) (p0 : 6 ≤ (f 0 48).toInt ∧ (f 0 48).toInt ≤ 6) (sz : Nat) : Met l yX12_begins gwX12_begins { frames := 0, cells := 0, slots := 0, locals := 0 } (sgP D vwCl (tyX ca) 26 h (eM ca h) zcM za f L Q sz [.ref (h 0), .int 11]) (sgQv D vwCl 26 h (eM ca h) sz (fun f1 L1 Q1 => ((sgI loM hiM f1 ∧ sgK WkX12_begins_11_f6 f f1 ∧ L1 = L ∧ Q1 = Q) ∧ (7 ≤ (f1 0 48).toInt ∧ (f1 0 48).toInt ≤ 7) ∧ (f1) = sX12_begins_11_f6 f L))) 0 0 (sgA 26 h sz) := by
  refine sg_ofWv (cc := cX12_begins) (maxL := 2) RX12 (by decide) rfl rfl (Nat.le_of_ble_eq_true rfl) ?_
  intro p e s m below meth cd Qz ls hx hb hml hown hts hK hZ hP hS hl hret
  have hA := sgY.self (n := 26) (h := h) (sz := s.heap.size)
  have hl : lv_has ls 2 [(0, .ref (h 0)), (1, .int 11)] := hl
  obtain ⟨H, hH⟩ : ∃ z : Heap, z = s.heap := ⟨_, rfl⟩
  obtain ⟨locs, hlo⟩ : ∃ z : List Loc, z = [] := ⟨_, rfl⟩
  have hP : va_P D vwCl (sgw 26 h (eM ca h) f L Q) H := by rw [hH]; exact hP
  have hS : va_S (sgA 26 h s.heap.size) s.heap H locs := by rw [hH, hlo]; exact hS
  suffices hgo : W p l e ({ frames := 0, cells := 0, slots := 0, locals := 0 }) s m ([.ref (h 0), .int 11] : List Value).toArray below meth cd H locs 0 0 Qz (F0 m 0 ls []) by rw [hH, hlo] at hgo; exact hgo
  clear hH hlo
  obtain ⟨sp, hsp⟩ : ∃ z : sg_F, z = sX12_begins_11_f6 f L := ⟨_, rfl⟩
  have hs : sp = sX12_begins_11_f6 f L := hsp
  have o_1 : (f 0 48).toInt = 6 := (congrArg Int32.toInt (show f 0 48 = 6 from hf_0_48)).trans (by decide)
  have hF : sgK WkX12_begins_11_f6 f f := sgK.rf
  have blk_19 : ∀ (fp_19 : sg_F) (H : Heap) (locs : List Loc) (ls : Array Slot), sp = sX12_begins_11_f6_b19 fp_19 L → 6 ≤ (fp_19 0 48).toInt ∧ (fp_19 0 48).toInt ≤ 6 → sgI loM hiM fp_19 → sgK WkX12_begins_11_f6 f fp_19 → va_P D vwCl (sgw 26 h (eM ca h) fp_19 L Q) H → va_S (sgA 26 h s.heap.size) s.heap H locs → lv_has ls 2 [(0, .ref (h 0))] → W p l e ({ frames := 0, cells := 0, slots := 0, locals := 0 }) s m ([.ref (h 0), .int 11] : List Value).toArray below meth cd H locs 0 0 Qz (F0 m 19 ls []) := by
    intro fp_19 H locs ls hs hy0_19 hI hF hP hS hl
    obtain ⟨v_2, ev_2⟩ : ∃ z : Int32, z = fp_19 0 48 := ⟨_, rfl⟩
    have q_3 : 0 ≤ v_2.toInt ∧ v_2.toInt ≤ 19 := by rw [ev_2]; exact hI 0 48
    have q_4 : (fp_19 0 48).toInt = v_2.toInt := by rw [ev_2]
    refine lv_aload_n hx hb dX12_begins_19 rfl (lv_at hl 0 rfl) ?_
    refine lv_dup hx hb dX12_begins_20 rfl ?_
    refine sl_gM_0_48_12 (v := v_2) hx hb hts hown hK hP (show fp_19 0 48 = v_2 from ev_2.symm) dX12_begins_21 ?_
    refine lv_iconst (v := 1) hx hb dX12_begins_24 ic_1 ?_
    refine lv_iadd hx hb dX12_begins_25 ?_
    refine lv_topi (fun v_5 ev_5 => ?_)
    have q_6 : v_5.toInt = v_2.toInt + 1 := by rw [ev_5]; first | exact cm_add ti_1 (by omega) (by omega) | (have k1 : (1 : Int32).toInt = 1 := ti_1; exact (bn_addI (by omega) (by omega)).trans (by omega))
    refine sl_pM_0_48_12 (x := v_5) hx hb hts hown hh hA hK hP hS dX12_begins_26 (fun f_7 H locs ef_7 hP hS => ?_)
    have hI : sgI loM hiM f_7 := by rw [ef_7]; exact sgI.put hI 0 48 (show 0 ≤ (v_5 : Int32).toInt ∧ (v_5 : Int32).toInt ≤ 19 from ⟨by omega, by omega⟩)
    have hF : sgK WkX12_begins_11_f6 f f_7 := sgK.put hF ef_7 (by rfl)
    have q_8 : (f_7 0 48).toInt = v_5.toInt := (congrArg Int32.toInt (show f_7 0 48 = v_5 from (by rw [ef_7, sg_up_s, sgu_s])))
    exact hret _ _ _ _ f_7 L Q dX12_begins_29 hP hS ⟨⟨hI, hF, rfl, rfl⟩, ⟨by omega, by omega⟩, (Eq.trans (Eq.symm (hs.trans ((spl_e ev_2 (spl_e ev_5 (spl_e ef_7 rfl)))))) hsp)⟩
  refine lv_aload_n hx hb dX12_begins_0 rfl (lv_at hl 0 rfl) ?_
  refine sl_gM_0_48_12 (v := 6) hx hb hts hown hK hP (show f 0 48 = 6 from hf_0_48) dX12_begins_1 ?_
  refine lv_bipush (v := 24) hx hb dX12_begins_4 bp_24 ?_
  refine lv_icmp_ge (tgt := 19) hx hb dX12_begins_6 (by decide) (fun c => absurd c (by decide)) (fun c => ?_)
  refine lv_aload_n hx hb dX12_begins_9 rfl (lv_at hl 0 rfl) ?_
  refine sl_gM_0_47_12 hx hb hts hown hK hP dX12_begins_10 ?_
  refine lv_aload_n hx hb dX12_begins_13 rfl (lv_at hl 0 rfl) ?_
  refine sl_gM_0_48_12 (v := 6) hx hb hts hown hK hP (show f 0 48 = 6 from hf_0_48) dX12_begins_14 ?_
  refine lv_iload_n hx hb dX12_begins_17 rfl (lv_at hl 1 rfl) ?_
  refine sg_iast hx hb hh hA hK hP hS 21 (by decide) 0 (fun _ => rfl) rfl (i := 6) (x := 11) (vp_in_iff.mpr (by decide)) dX12_begins_18 (fun f_10 H locs ef_10 hP hS => ?_)
  have ef_10 : f_10 = sg_up f 21 (sgu (f 21) 6 11) := ef_10
  have hI : sgI loM hiM f_10 := by rw [ef_10]; exact sgI.put hI 21 6 (show 0 ≤ (11 : Int32).toInt ∧ (11 : Int32).toInt ≤ 81 from by decide)
  have hF : sgK WkX12_begins_11_f6 f f_10 := sgK.put hF ef_10 (by rfl)
  exact blk_19 f_10 _ _ _ (hs.trans ((spl_e ef_10 rfl))) (by have zz0_48 : (f_10 0 48).toInt = 6 := (congrArg Int32.toInt (show f_10 0 48 = 6 from (by rw [ef_10, sg_up_n (by decide)]; exact hf_0_48))).trans (by decide); exact ⟨by omega, by omega⟩) hI hF hP hS (lv_sub hl [0] rfl)

abbrev WkX12_slipsAs_2_f6_f3 : List (Nat × Nat × Option Nat) := [(0, 0, some 48), (21, 21, some 6)]
set_option maxHeartbeats 4000000 in
set_option maxRecDepth 100000 in
theorem kX12_slipsAs_2_f6_f3 (l : Launch) (D : va_G) (ca : Nat → ClassId) (za h : Nat → Nat) (hh : sgH 26 h) (f : sg_F) (L : sg_L) (Q : sg_Q) (hI : sgI loM hiM f) (x1 : Int32) (hf_0_48 : f 0 48 = 6) (hf_0_49 : f 0 49 = 3) (b1 : 1 ≤ x1.toInt ∧ x1.toInt ≤ 1) (p0 : 6 ≤ (f 0 48).toInt ∧ (f 0 48).toInt ≤ 6) (sz : Nat) : Met l yX12_slipsAs gwX12_slipsAs { frames := 1, cells := 0, slots := 0, locals := 21 } (sgP D vwCl (tyX ca) 26 h (eM ca h) zcM za f L Q sz [.ref (h 0), .int 2, .int x1]) (sgQi D vwCl 26 h (eM ca h) sz (fun r f1 L1 Q1 => ((sgI loM hiM f1 ∧ sgK WkX12_slipsAs_2_f6_f3 f f1 ∧ L1 = L ∧ Q1 = Q) ∧ True ∧ (7 ≤ (f1 0 48).toInt ∧ (f1 0 48).toInt ≤ 7) ∧ (r, f1) = sX12_slipsAs_2_f6_f3 x1 f L))) 0 0 (sgA 26 h sz) := by
  refine sg_ofWi (cc := cX12_slipsAs) (maxL := 4) RX12 (by decide) rfl rfl (Nat.le_of_ble_eq_true rfl) ?_
  intro p e s m below meth cd Qz ls hx hb hml hown hts hK hZ hP hS hl hret
  have hA := sgY.self (n := 26) (h := h) (sz := s.heap.size)
  have hl : lv_has ls 4 [(0, .ref (h 0)), (1, .int 2), (2, .int x1)] := hl
  obtain ⟨H, hH⟩ : ∃ z : Heap, z = s.heap := ⟨_, rfl⟩
  obtain ⟨locs, hlo⟩ : ∃ z : List Loc, z = [] := ⟨_, rfl⟩
  have hP : va_P D vwCl (sgw 26 h (eM ca h) f L Q) H := by rw [hH]; exact hP
  have hS : va_S (sgA 26 h s.heap.size) s.heap H locs := by rw [hH, hlo]; exact hS
  suffices hgo : W p l e ({ frames := 1, cells := 0, slots := 0, locals := 21 }) s m ([.ref (h 0), .int 2, .int x1] : List Value).toArray below meth cd H locs 0 0 Qz (F0 m 0 ls []) by rw [hH, hlo] at hgo; exact hgo
  clear hH hlo
  obtain ⟨sp, hsp⟩ : ∃ z : Int32 × sg_F, z = sX12_slipsAs_2_f6_f3 x1 f L := ⟨_, rfl⟩
  have hs : sp = sX12_slipsAs_2_f6_f3 x1 f L := hsp
  have o_1 : (f 0 48).toInt = 6 := (congrArg Int32.toInt (show f 0 48 = 6 from hf_0_48)).trans (by decide)
  have hF : sgK WkX12_slipsAs_2_f6_f3 f f := sgK.rf
  refine lv_iload_n hx hb dX12_slipsAs_0 rfl (lv_at hl 1 rfl) ?_
  refine lv_iconst (v := 3) hx hb dX12_slipsAs_1 ic_3 ?_
  refine lv_icmp_eq (tgt := 10) hx hb dX12_slipsAs_2 (by decide) (fun c => absurd c (by decide)) (fun c => ?_)
  refine lv_iload_n hx hb dX12_slipsAs_5 rfl (lv_at hl 1 rfl) ?_
  refine lv_iconst (v := 5) hx hb dX12_slipsAs_6 ic_5 ?_
  refine lv_icmp_ne (tgt := 25) hx hb dX12_slipsAs_7 (by decide) (fun c => ?_) (fun c => absurd c (by decide))
  refine lv_iload_n hx hb dX12_slipsAs_25 rfl (lv_at hl 1 rfl) ?_
  refine lv_iconst (v := 4) hx hb dX12_slipsAs_26 ic_4 ?_
  refine lv_icmp_eq (tgt := 36) hx hb dX12_slipsAs_27 (by decide) (fun c => absurd c (by decide)) (fun c => ?_)
  refine lv_iload_n hx hb dX12_slipsAs_30 rfl (lv_at hl 1 rfl) ?_
  refine lv_bipush (v := 7) hx hb dX12_slipsAs_31 bp_7 ?_
  refine lv_icmp_ne (tgt := 61) hx hb dX12_slipsAs_33 (by decide) (fun c => ?_) (fun c => absurd c (by decide))
  refine lv_aload_n hx hb dX12_slipsAs_61 rfl (lv_at hl 0 rfl) ?_
  refine lv_bipush (v := 11) hx hb dX12_slipsAs_62 bp_11 ?_
  have q_2 : (f 0 48).toInt = 6 := (congrArg Int32.toInt (show f 0 48 = 6 from hf_0_48)).trans (by decide)
  refine sg_callv (va_runV (As := [.int 11]) (rest := []) ⟨hx, hb, hml, hown, hts⟩ (kX12_begins_11_f6 l D ca za h hh f L Q hI hf_0_48 (by have k0 : (11 : Int32).toInt = 11 := ti_11; omega) H.size) (sl_c12_begins_0_0_0_0_12 hts ⟨Nat.le_of_ble_eq_true rfl, Nat.le_of_ble_eq_true rfl⟩) (sl_vM_0 hA hK hP hS hZ) rfl rfl hl.1 rfl (lv_room (Nat.le_of_ble_eq_true rfl)) dX12_slipsAs_64 ⟨Nat.le_refl _, Nat.le_refl _⟩) hA hS (fun f_4 L_5 Q_6 H locs hq hP hS => ?_)
  obtain ⟨⟨hI, hk_f_4, eL9, eQ9⟩, p_7, u_8⟩ := hq
  rw [eL9, eQ9] at hP; clear eL9 eQ9
  have hF : sgK WkX12_slipsAs_2_f6_f3 f f_4 := sgK.tr hF hk_f_4 (by decide +kernel)
  obtain ⟨v_9, ev_9⟩ : ∃ z : Int32, z = f_4 0 48 := ⟨_, rfl⟩
  have q_10 : 0 ≤ v_9.toInt ∧ v_9.toInt ≤ 19 := by rw [ev_9]; exact hI 0 48
  have q_11 : (f_4 0 48).toInt = v_9.toInt := (congrArg Int32.toInt (show f_4 0 48 = v_9 from ev_9.symm))
  refine lv_iload_n hx hb dX12_slipsAs_67 rfl (lv_at hl 2 rfl) ?_
  refine lv_aload_n hx hb dX12_slipsAs_68 rfl (lv_at hl 0 rfl) ?_
  refine sl_gM_0_50_12 (v := (f_4 0 50)) hx hb hts hown hK hP rfl dX12_slipsAs_69 ?_
  refine lv_topi (fun v_13 ev_13 => ?_)
  have q_14 : 0 ≤ v_13.toInt ∧ v_13.toInt ≤ 49 := by rw [ev_13]; exact hI 0 50
  refine lv_ixor hx hb dX12_slipsAs_72 ?_
  refine lv_topi (fun v_15 ev_15 => ?_)
  exact hret _ _ _ _ (v_15) f_4 L Q dX12_slipsAs_73 hP hS ⟨⟨hI, hF, rfl, rfl⟩, trivial, ⟨by omega, by omega⟩, (Eq.trans (Eq.symm (hs.trans ((spl_e u_8 (spl_e ev_9 (spl_e ev_13 (spl_e ev_15 rfl))))))) hsp)⟩

abbrev WkX12_slipsAs_3_f5_f3 : List (Nat × Nat × Option Nat) := [(0, 0, some 48), (21, 21, some 5), (21, 21, some 6)]
set_option maxHeartbeats 4000000 in
set_option maxRecDepth 100000 in
theorem kX12_slipsAs_3_f5_f3 (l : Launch) (D : va_G) (ca : Nat → ClassId) (za h : Nat → Nat) (hh : sgH 26 h) (f : sg_F) (L : sg_L) (Q : sg_Q) (hI : sgI loM hiM f) (x1 : Int32) (hf_0_48 : f 0 48 = 5) (hf_0_49 : f 0 49 = 3) (b1 : 1 ≤ x1.toInt ∧ x1.toInt ≤ 1) (p0 : 5 ≤ (f 0 48).toInt ∧ (f 0 48).toInt ≤ 5) (sz : Nat) : Met l yX12_slipsAs gwX12_slipsAs { frames := 2, cells := 0, slots := 0, locals := 44 } (sgP D vwCl (tyX ca) 26 h (eM ca h) zcM za f L Q sz [.ref (h 0), .int 3, .int x1]) (sgQi D vwCl 26 h (eM ca h) sz (fun r f1 L1 Q1 => ((sgI loM hiM f1 ∧ sgK WkX12_slipsAs_3_f5_f3 f f1 ∧ L1 = L ∧ Q1 = Q) ∧ True ∧ (7 ≤ (f1 0 48).toInt ∧ (f1 0 48).toInt ≤ 7) ∧ (r, f1) = sX12_slipsAs_3_f5_f3 x1 f L))) 0 0 (sgA 26 h sz) := by
  refine sg_ofWi (cc := cX12_slipsAs) (maxL := 4) RX12 (by decide) rfl rfl (Nat.le_of_ble_eq_true rfl) ?_
  intro p e s m below meth cd Qz ls hx hb hml hown hts hK hZ hP hS hl hret
  have hA := sgY.self (n := 26) (h := h) (sz := s.heap.size)
  have hl : lv_has ls 4 [(0, .ref (h 0)), (1, .int 3), (2, .int x1)] := hl
  obtain ⟨H, hH⟩ : ∃ z : Heap, z = s.heap := ⟨_, rfl⟩
  obtain ⟨locs, hlo⟩ : ∃ z : List Loc, z = [] := ⟨_, rfl⟩
  have hP : va_P D vwCl (sgw 26 h (eM ca h) f L Q) H := by rw [hH]; exact hP
  have hS : va_S (sgA 26 h s.heap.size) s.heap H locs := by rw [hH, hlo]; exact hS
  suffices hgo : W p l e ({ frames := 2, cells := 0, slots := 0, locals := 44 }) s m ([.ref (h 0), .int 3, .int x1] : List Value).toArray below meth cd H locs 0 0 Qz (F0 m 0 ls []) by rw [hH, hlo] at hgo; exact hgo
  clear hH hlo
  obtain ⟨sp, hsp⟩ : ∃ z : Int32 × sg_F, z = sX12_slipsAs_3_f5_f3 x1 f L := ⟨_, rfl⟩
  have hs : sp = sX12_slipsAs_3_f5_f3 x1 f L := hsp
  have o_1 : (f 0 48).toInt = 5 := (congrArg Int32.toInt (show f 0 48 = 5 from hf_0_48)).trans (by decide)
  have hF : sgK WkX12_slipsAs_3_f5_f3 f f := sgK.rf
  have blk_10 : ∀ (fp_10 : sg_F) (H : Heap) (locs : List Loc) (ls : Array Slot), sp = sX12_slipsAs_3_f5_f3_b10 x1 fp_10 L → 5 ≤ (fp_10 0 48).toInt ∧ (fp_10 0 48).toInt ≤ 5 → 3 ≤ (fp_10 0 49).toInt ∧ (fp_10 0 49).toInt ≤ 3 → sgI loM hiM fp_10 → sgK WkX12_slipsAs_3_f5_f3 f fp_10 → va_P D vwCl (sgw 26 h (eM ca h) fp_10 L Q) H → va_S (sgA 26 h s.heap.size) s.heap H locs → lv_has ls 4 [(0, .ref (h 0)), (2, .int x1)] → W p l e ({ frames := 2, cells := 0, slots := 0, locals := 44 }) s m ([.ref (h 0), .int 3, .int x1] : List Value).toArray below meth cd H locs 0 0 Qz (F0 m 10 ls []) := by
    intro fp_10 H locs ls hs hy0_10 hy1_10 hI hF hP hS hl
    obtain ⟨v_2, ev_2⟩ : ∃ z : Int32, z = fp_10 0 48 := ⟨_, rfl⟩
    have q_3 : 0 ≤ v_2.toInt ∧ v_2.toInt ≤ 19 := by rw [ev_2]; exact hI 0 48
    have q_4 : (fp_10 0 48).toInt = v_2.toInt := by rw [ev_2]
    obtain ⟨v_5, ev_5⟩ : ∃ z : Int32, z = fp_10 0 49 := ⟨_, rfl⟩
    have q_6 : 0 ≤ v_5.toInt ∧ v_5.toInt ≤ 7 := by rw [ev_5]; exact hI 0 49
    have q_7 : (fp_10 0 49).toInt = v_5.toInt := by rw [ev_5]
    have m_8 : fp_10 0 49 = 3 := (hF 0 49 (by decide)).trans hf_0_49
    refine lv_aload_n hx hb dX12_slipsAs_10 rfl (lv_at hl 0 rfl) ?_
    refine lv_bipush (v := 40) hx hb dX12_slipsAs_11 bp_40 ?_
    have c_9 : v_2 = 5 := Int32.toInt_inj.mp (by have k9 : (5 : Int32).toInt = 5 := ti_5; omega)
    have q_10 : (fp_10 0 48).toInt = 5 := (congrArg Int32.toInt (show fp_10 0 48 = 5 from (Eq.trans ev_2.symm c_9))).trans (by decide)
    refine sg_callv (va_runV (As := [.int 40]) (rest := []) ⟨hx, hb, hml, hown, hts⟩ (kX12_begins_40_f5 l D ca za h hh fp_10 L Q hI (Eq.trans ev_2.symm c_9) (by have k0 : (40 : Int32).toInt = 40 := ti_40; omega) H.size) (sl_c12_begins_0_0_0_0_12 hts ⟨Nat.le_of_ble_eq_true rfl, Nat.le_of_ble_eq_true rfl⟩) (sl_vM_0 hA hK hP hS hZ) rfl rfl hl.1 rfl (lv_room (Nat.le_of_ble_eq_true rfl)) dX12_slipsAs_13 ⟨Nat.le_refl _, Nat.le_refl _⟩) hA hS (fun f_12 L_13 Q_14 H locs hq hP hS => ?_)
    obtain ⟨⟨hI, hk_f_12, eL9, eQ9⟩, p_15, u_16⟩ := hq
    rw [eL9, eQ9] at hP; clear eL9 eQ9
    have hF : sgK WkX12_slipsAs_3_f5_f3 f f_12 := sgK.tr hF hk_f_12 (by decide +kernel)
    obtain ⟨v_17, ev_17⟩ : ∃ z : Int32, z = f_12 0 48 := ⟨_, rfl⟩
    have q_18 : 0 ≤ v_17.toInt ∧ v_17.toInt ≤ 19 := by rw [ev_17]; exact hI 0 48
    have q_19 : (f_12 0 48).toInt = v_17.toInt := (congrArg Int32.toInt (show f_12 0 48 = v_17 from ev_17.symm))
    refine lv_aload_n hx hb dX12_slipsAs_16 rfl (lv_at hl 0 rfl) ?_
    refine lv_iconst (v := 2) hx hb dX12_slipsAs_17 ic_2 ?_
    refine lv_iload_n hx hb dX12_slipsAs_18 rfl (lv_at hl 1 rfl) ?_
    have c_21 : v_17 = 6 := Int32.toInt_inj.mp (by have k9 : (6 : Int32).toInt = 6 := ti_6; omega)
    have q_22 : (f_12 0 48).toInt = 6 := (congrArg Int32.toInt (show f_12 0 48 = 6 from (Eq.trans ev_17.symm c_21))).trans (by decide)
    refine sg_calli (va_runV (As := [.int 2, .int x1]) (rest := []) ⟨hx, hb, hml, hown, hts⟩ (kX12_slipsAs_2_f6_f3 l D ca za h hh f_12 L Q hI x1 (Eq.trans ev_17.symm c_21) ((hk_f_12 0 49 (by decide)).trans m_8) b1 (by have k0 : (2 : Int32).toInt = 2 := ti_2; omega) H.size) (sl_c12_slipsAs_1_0_0_21_12 hts ⟨Nat.le_of_ble_eq_true rfl, Nat.le_of_ble_eq_true rfl⟩) (sl_vM_0 hA hK hP hS hZ) rfl rfl hl.1 rfl (lv_room (Nat.le_of_ble_eq_true rfl)) dX12_slipsAs_19 ⟨Nat.le_refl _, Nat.le_refl _⟩) hA hS (fun r_27 f_24 L_25 Q_26 H locs hq hP hS => ?_)
    obtain ⟨⟨hI, hk_f_24, eL9, eQ9⟩, hq, p_28, u_29⟩ := hq
    rw [eL9, eQ9] at hP; clear eL9 eQ9
    have hF : sgK WkX12_slipsAs_3_f5_f3 f f_24 := sgK.tr hF hk_f_24 (by decide +kernel)
    obtain ⟨v_30, ev_30⟩ : ∃ z : Int32, z = f_24 0 48 := ⟨_, rfl⟩
    have q_31 : 0 ≤ v_30.toInt ∧ v_30.toInt ≤ 19 := by rw [ev_30]; exact hI 0 48
    have q_32 : (f_24 0 48).toInt = v_30.toInt := (congrArg Int32.toInt (show f_24 0 48 = v_30 from ev_30.symm))
    have k_34 : (2 : Int32).toInt = 2 := by decide
    refine lv_iconst (v := 3) hx hb dX12_slipsAs_22 ic_3 ?_
    refine lv_imul hx hb dX12_slipsAs_23 ?_
    refine lv_topi (fun v_35 ev_35 => ?_)
    exact hret _ _ _ _ (v_35) f_24 L Q dX12_slipsAs_24 hP hS ⟨⟨hI, hF, rfl, rfl⟩, trivial, ⟨by omega, by omega⟩, (Eq.trans (Eq.symm (hs.trans ((spl_e ev_2 (spl_e ev_5 (spl_e u_16 (spl_e ev_17 (spl2_e u_29 (spl_e ev_30 (spl_e ev_35 rfl)))))))))) hsp)⟩
  refine lv_iload_n hx hb dX12_slipsAs_0 rfl (lv_at hl 1 rfl) ?_
  refine lv_iconst (v := 3) hx hb dX12_slipsAs_1 ic_3 ?_
  refine lv_icmp_eq (tgt := 10) hx hb dX12_slipsAs_2 (by decide) (fun c => ?_) (fun c => absurd c (by decide))
  exact blk_10 f _ _ _ hs (by have zz0_48 : (f 0 48).toInt = 5 := (congrArg Int32.toInt (show f 0 48 = 5 from hf_0_48)).trans (by decide); exact ⟨by omega, by omega⟩) (by have zz0_49 : (f 0 49).toInt = 3 := (congrArg Int32.toInt (show f 0 49 = 3 from hf_0_49)).trans (by decide); exact ⟨by omega, by omega⟩) hI hF hP hS (lv_sub hl [0, 2] rfl)

abbrev WkX12_tellsAs_3_f0_f3 : List (Nat × Nat × Option Nat) := [(0, 0, some 48), (21, 21, some 0), (21, 21, some 1), (21, 21, some 2), (21, 21, some 3), (21, 21, some 4), (21, 21, some 5), (21, 21, some 6)]
set_option maxHeartbeats 4000000 in
set_option maxRecDepth 100000 in
theorem kX12_tellsAs_3_f0_f3 (l : Launch) (D : va_G) (ca : Nat → ClassId) (za h : Nat → Nat) (hh : sgH 26 h) (f : sg_F) (L : sg_L) (Q : sg_Q) (hI : sgI loM hiM f) (x1 : Int32) (hf_0_48 : f 0 48 = 0) (hf_0_49 : f 0 49 = 3) (p0 : 0 ≤ (f 0 48).toInt ∧ (f 0 48).toInt ≤ 0) (sz : Nat) : Met l yX12_tellsAs gwX12_tellsAs { frames := 5, cells := 0, slots := 0, locals := 112 } (sgP D vwCl (tyX ca) 26 h (eM ca h) zcM za f L Q sz [.ref (h 0), .int 3, .int x1]) (sgQi D vwCl 26 h (eM ca h) sz (fun r f1 L1 Q1 => ((sgI loM hiM f1 ∧ sgK WkX12_tellsAs_3_f0_f3 f f1 ∧ L1 = L ∧ Q1 = Q) ∧ True ∧ (7 ≤ (f1 0 48).toInt ∧ (f1 0 48).toInt ≤ 7) ∧ (r, f1) = sX12_tellsAs_3_f0_f3 x1 f L))) 0 0 (sgA 26 h sz) := by
  refine sg_ofWi (cc := cX12_tellsAs) (maxL := 4) RX12 (by decide) rfl rfl (Nat.le_of_ble_eq_true rfl) ?_
  intro p e s m below meth cd Qz ls hx hb hml hown hts hK hZ hP hS hl hret
  have hA := sgY.self (n := 26) (h := h) (sz := s.heap.size)
  have hl : lv_has ls 4 [(0, .ref (h 0)), (1, .int 3), (2, .int x1)] := hl
  obtain ⟨H, hH⟩ : ∃ z : Heap, z = s.heap := ⟨_, rfl⟩
  obtain ⟨locs, hlo⟩ : ∃ z : List Loc, z = [] := ⟨_, rfl⟩
  have hP : va_P D vwCl (sgw 26 h (eM ca h) f L Q) H := by rw [hH]; exact hP
  have hS : va_S (sgA 26 h s.heap.size) s.heap H locs := by rw [hH, hlo]; exact hS
  suffices hgo : W p l e ({ frames := 5, cells := 0, slots := 0, locals := 112 }) s m ([.ref (h 0), .int 3, .int x1] : List Value).toArray below meth cd H locs 0 0 Qz (F0 m 0 ls []) by rw [hH, hlo] at hgo; exact hgo
  clear hH hlo
  obtain ⟨sp, hsp⟩ : ∃ z : Int32 × sg_F, z = sX12_tellsAs_3_f0_f3 x1 f L := ⟨_, rfl⟩
  have hs : sp = sX12_tellsAs_3_f0_f3 x1 f L := hsp
  have o_1 : (f 0 48).toInt = 0 := (congrArg Int32.toInt (show f 0 48 = 0 from hf_0_48)).trans (by decide)
  have hF : sgK WkX12_tellsAs_3_f0_f3 f f := sgK.rf
  refine lv_iload_n hx hb dX12_tellsAs_0 rfl (lv_at hl 1 rfl) ?_
  refine lv_iconst (v := 5) hx hb dX12_tellsAs_1 ic_5 ?_
  refine lv_icmp_ne (tgt := 20) hx hb dX12_tellsAs_2 (by decide) (fun c => ?_) (fun c => absurd c (by decide))
  refine lv_iload_n hx hb dX12_tellsAs_20 rfl (lv_at hl 1 rfl) ?_
  refine lv_bipush (v := 7) hx hb dX12_tellsAs_21 bp_7 ?_
  refine lv_icmp_ne (tgt := 41) hx hb dX12_tellsAs_23 (by decide) (fun c => ?_) (fun c => absurd c (by decide))
  refine lv_aload_n hx hb dX12_tellsAs_41 rfl (lv_at hl 0 rfl) ?_
  refine lv_iconst (v := 2) hx hb dX12_tellsAs_42 ic_2 ?_
  have q_2 : (f 0 48).toInt = 0 := (congrArg Int32.toInt (show f 0 48 = 0 from hf_0_48)).trans (by decide)
  refine sg_callv (va_runV (As := [.int 2]) (rest := []) ⟨hx, hb, hml, hown, hts⟩ (kX12_begins_2_f0 l D ca za h hh f L Q hI hf_0_48 (by have k0 : (2 : Int32).toInt = 2 := ti_2; omega) H.size) (sl_c12_begins_0_0_0_0_12 hts ⟨Nat.le_of_ble_eq_true rfl, Nat.le_of_ble_eq_true rfl⟩) (sl_vM_0 hA hK hP hS hZ) rfl rfl hl.1 rfl (lv_room (Nat.le_of_ble_eq_true rfl)) dX12_tellsAs_43 ⟨Nat.le_refl _, Nat.le_refl _⟩) hA hS (fun f_4 L_5 Q_6 H locs hq hP hS => ?_)
  obtain ⟨⟨hI, hk_f_4, eL9, eQ9⟩, p_7, u_8⟩ := hq
  rw [eL9, eQ9] at hP; clear eL9 eQ9
  have hF : sgK WkX12_tellsAs_3_f0_f3 f f_4 := sgK.tr hF hk_f_4 (by decide +kernel)
  obtain ⟨v_9, ev_9⟩ : ∃ z : Int32, z = f_4 0 48 := ⟨_, rfl⟩
  have q_10 : 0 ≤ v_9.toInt ∧ v_9.toInt ≤ 19 := by rw [ev_9]; exact hI 0 48
  have q_11 : (f_4 0 48).toInt = v_9.toInt := (congrArg Int32.toInt (show f_4 0 48 = v_9 from ev_9.symm))
  refine lv_aload_n hx hb dX12_tellsAs_46 rfl (lv_at hl 0 rfl) ?_
  refine lv_aload_n hx hb dX12_tellsAs_47 rfl (lv_at hl 0 rfl) ?_
  refine sl_gM_0_49_12 (v := 3) hx hb hts hown hK hP (show f_4 0 49 = 3 from ((hk_f_4 0 49 (by decide)).trans hf_0_49)) dX12_tellsAs_48 ?_
  refine lv_iload_n hx hb dX12_tellsAs_51 rfl (lv_at hl 2 rfl) ?_
  have c_13 : v_9 = 1 := Int32.toInt_inj.mp (by have k9 : (1 : Int32).toInt = 1 := ti_1; omega)
  have q_14 : (f_4 0 48).toInt = 1 := (congrArg Int32.toInt (show f_4 0 48 = 1 from (Eq.trans ev_9.symm c_13))).trans (by decide)
  refine sg_calli (va_runV (As := [.int 3, .int x1]) (rest := []) ⟨hx, hb, hml, hown, hts⟩ (kX12_sitsAs_3_f1_f3 l D ca za h hh f_4 L Q hI x1 (Eq.trans ev_9.symm c_13) ((hk_f_4 0 49 (by decide)).trans hf_0_49) (by have k0 : (3 : Int32).toInt = 3 := ti_3; omega) H.size) (sl_c12_sitsAs_4_0_0_89_12 hts ⟨Nat.le_of_ble_eq_true rfl, Nat.le_of_ble_eq_true rfl⟩) (sl_vM_0 hA hK hP hS hZ) rfl rfl hl.1 rfl (lv_room (Nat.le_of_ble_eq_true rfl)) dX12_tellsAs_52 ⟨Nat.le_refl _, Nat.le_refl _⟩) hA hS (fun r_19 f_16 L_17 Q_18 H locs hq hP hS => ?_)
  obtain ⟨⟨hI, hk_f_16, eL9, eQ9⟩, hq, p_20, u_21⟩ := hq
  rw [eL9, eQ9] at hP; clear eL9 eQ9
  have hF : sgK WkX12_tellsAs_3_f0_f3 f f_16 := sgK.tr hF hk_f_16 (by decide +kernel)
  obtain ⟨v_22, ev_22⟩ : ∃ z : Int32, z = f_16 0 48 := ⟨_, rfl⟩
  have q_23 : 0 ≤ v_22.toInt ∧ v_22.toInt ≤ 19 := by rw [ev_22]; exact hI 0 48
  have q_24 : (f_16 0 48).toInt = v_22.toInt := (congrArg Int32.toInt (show f_16 0 48 = v_22 from ev_22.symm))
  have k_26 : (3 : Int32).toInt = 3 := by decide
  refine lv_istore_n (lv' := [(3, .int r_19), (0, .ref (h 0)), (1, .int 3), (2, .int x1)]) hx hb dX12_tellsAs_55 rfl hl (by decide) rfl (fun ls hl => ?_)
  refine lv_iload_n hx hb dX12_tellsAs_56 rfl (lv_at hl 0 rfl) ?_
  refine lv_aload_n hx hb dX12_tellsAs_57 rfl (lv_at hl 1 rfl) ?_
  refine lv_aload_n hx hb dX12_tellsAs_58 rfl (lv_at hl 1 rfl) ?_
  refine sl_gM_0_49_12 (v := 3) hx hb hts hown hK hP (show f_16 0 49 = 3 from ((hk_f_16 0 49 (by decide)).trans ((hk_f_4 0 49 (by decide)).trans hf_0_49))) dX12_tellsAs_59 ?_
  refine lv_iconst (v := 1) hx hb dX12_tellsAs_62 ic_1 ?_
  have c_27 : v_22 = 5 := Int32.toInt_inj.mp (by have k9 : (5 : Int32).toInt = 5 := ti_5; omega)
  have q_28 : (f_16 0 48).toInt = 5 := (congrArg Int32.toInt (show f_16 0 48 = 5 from (Eq.trans ev_22.symm c_27))).trans (by decide)
  refine sg_calli (va_runV (As := [.int 3, .int 1]) (rest := [.int r_19]) ⟨hx, hb, hml, hown, hts⟩ (kX12_slipsAs_3_f5_f3 l D ca za h hh f_16 L Q hI 1 (Eq.trans ev_22.symm c_27) ((hk_f_16 0 49 (by decide)).trans ((hk_f_4 0 49 (by decide)).trans hf_0_49)) (by decide) (by have k0 : (3 : Int32).toInt = 3 := ti_3; have k1 : (1 : Int32).toInt = 1 := ti_1; omega) H.size) (sl_c12_slipsAs_2_0_0_44_12 hts ⟨Nat.le_of_ble_eq_true rfl, Nat.le_of_ble_eq_true rfl⟩) (sl_vM_0 hA hK hP hS hZ) rfl rfl hl.1 rfl (lv_room (Nat.le_of_ble_eq_true rfl)) dX12_tellsAs_63 ⟨Nat.le_refl _, Nat.le_refl _⟩) hA hS (fun r_33 f_30 L_31 Q_32 H locs hq hP hS => ?_)
  obtain ⟨⟨hI, hk_f_30, eL9, eQ9⟩, hq, p_34, u_35⟩ := hq
  rw [eL9, eQ9] at hP; clear eL9 eQ9
  have hF : sgK WkX12_tellsAs_3_f0_f3 f f_30 := sgK.tr hF hk_f_30 (by decide +kernel)
  obtain ⟨v_36, ev_36⟩ : ∃ z : Int32, z = f_30 0 48 := ⟨_, rfl⟩
  have q_37 : 0 ≤ v_36.toInt ∧ v_36.toInt ≤ 19 := by rw [ev_36]; exact hI 0 48
  have q_38 : (f_30 0 48).toInt = v_36.toInt := (congrArg Int32.toInt (show f_30 0 48 = v_36 from ev_36.symm))
  have k_40 : (3 : Int32).toInt = 3 := by decide
  have k_41 : (1 : Int32).toInt = 1 := by decide
  refine lv_isub hx hb dX12_tellsAs_66 ?_
  refine lv_topi (fun v_42 ev_42 => ?_)
  exact hret _ _ _ _ (v_42) f_30 L Q dX12_tellsAs_67 hP hS ⟨⟨hI, hF, rfl, rfl⟩, trivial, ⟨by omega, by omega⟩, (Eq.trans (Eq.symm (hs.trans ((spl_e u_8 (spl_e ev_9 (spl2_e u_21 (spl_e ev_22 (spl2_e u_35 (spl_e ev_36 (spl_e ev_42 rfl)))))))))) hsp)⟩

abbrev WkX12_sitsAs_4_f1_f4 : List (Nat × Nat × Option Nat) := [(0, 0, some 48), (21, 21, some 1), (21, 21, some 2), (21, 21, some 3)]
set_option maxHeartbeats 4000000 in
set_option maxRecDepth 100000 in
theorem kX12_sitsAs_4_f1_f4 (l : Launch) (D : va_G) (ca : Nat → ClassId) (za h : Nat → Nat) (hh : sgH 26 h) (f : sg_F) (L : sg_L) (Q : sg_Q) (hI : sgI loM hiM f) (x1 : Int32) (hf_0_48 : f 0 48 = 1) (hf_0_49 : f 0 49 = 4) (p0 : 1 ≤ (f 0 48).toInt ∧ (f 0 48).toInt ≤ 1) (sz : Nat) : Met l yX12_sitsAs gwX12_sitsAs { frames := 3, cells := 0, slots := 0, locals := 65 } (sgP D vwCl (tyX ca) 26 h (eM ca h) zcM za f L Q sz [.ref (h 0), .int 4, .int x1]) (sgQi D vwCl 26 h (eM ca h) sz (fun r f1 L1 Q1 => ((sgI loM hiM f1 ∧ sgK WkX12_sitsAs_4_f1_f4 f f1 ∧ L1 = L ∧ Q1 = Q) ∧ True ∧ (4 ≤ (f1 0 48).toInt ∧ (f1 0 48).toInt ≤ 4) ∧ (r, f1) = sX12_sitsAs_4_f1_f4 x1 f L))) 0 0 (sgA 26 h sz) := by
  refine sg_ofWi (cc := cX12_sitsAs) (maxL := 4) RX12 (by decide) rfl rfl (Nat.le_of_ble_eq_true rfl) ?_
  intro p e s m below meth cd Qz ls hx hb hml hown hts hK hZ hP hS hl hret
  have hA := sgY.self (n := 26) (h := h) (sz := s.heap.size)
  have hl : lv_has ls 4 [(0, .ref (h 0)), (1, .int 4), (2, .int x1)] := hl
  obtain ⟨H, hH⟩ : ∃ z : Heap, z = s.heap := ⟨_, rfl⟩
  obtain ⟨locs, hlo⟩ : ∃ z : List Loc, z = [] := ⟨_, rfl⟩
  have hP : va_P D vwCl (sgw 26 h (eM ca h) f L Q) H := by rw [hH]; exact hP
  have hS : va_S (sgA 26 h s.heap.size) s.heap H locs := by rw [hH, hlo]; exact hS
  suffices hgo : W p l e ({ frames := 3, cells := 0, slots := 0, locals := 65 }) s m ([.ref (h 0), .int 4, .int x1] : List Value).toArray below meth cd H locs 0 0 Qz (F0 m 0 ls []) by rw [hH, hlo] at hgo; exact hgo
  clear hH hlo
  obtain ⟨sp, hsp⟩ : ∃ z : Int32 × sg_F, z = sX12_sitsAs_4_f1_f4 x1 f L := ⟨_, rfl⟩
  have hs : sp = sX12_sitsAs_4_f1_f4 x1 f L := hsp
  have o_1 : (f 0 48).toInt = 1 := (congrArg Int32.toInt (show f 0 48 = 1 from hf_0_48)).trans (by decide)
  have hF : sgK WkX12_sitsAs_4_f1_f4 f f := sgK.rf
  refine lv_iload_n hx hb dX12_sitsAs_0 rfl (lv_at hl 1 rfl) ?_
  refine lv_iconst (v := 3) hx hb dX12_sitsAs_1 ic_3 ?_
  refine lv_icmp_eq (tgt := 10) hx hb dX12_sitsAs_2 (by decide) (fun c => absurd c (by decide)) (fun c => ?_)
  refine lv_iload_n hx hb dX12_sitsAs_5 rfl (lv_at hl 1 rfl) ?_
  refine lv_iconst (v := 5) hx hb dX12_sitsAs_6 ic_5 ?_
  refine lv_icmp_ne (tgt := 25) hx hb dX12_sitsAs_7 (by decide) (fun c => ?_) (fun c => absurd c (by decide))
  refine lv_iload_n hx hb dX12_sitsAs_25 rfl (lv_at hl 1 rfl) ?_
  refine lv_iconst (v := 2) hx hb dX12_sitsAs_26 ic_2 ?_
  refine lv_icmp_ne (tgt := 44) hx hb dX12_sitsAs_27 (by decide) (fun c => ?_) (fun c => absurd c (by decide))
  refine lv_iload_n hx hb dX12_sitsAs_44 rfl (lv_at hl 1 rfl) ?_
  refine lv_bipush (v := 7) hx hb dX12_sitsAs_45 bp_7 ?_
  refine lv_icmp_ne (tgt := 75) hx hb dX12_sitsAs_47 (by decide) (fun c => ?_) (fun c => absurd c (by decide))
  refine lv_aload_n hx hb dX12_sitsAs_75 rfl (lv_at hl 0 rfl) ?_
  refine lv_bipush (v := 10) hx hb dX12_sitsAs_76 bp_10 ?_
  have q_2 : (f 0 48).toInt = 1 := (congrArg Int32.toInt (show f 0 48 = 1 from hf_0_48)).trans (by decide)
  refine sg_callv (va_runV (As := [.int 10]) (rest := []) ⟨hx, hb, hml, hown, hts⟩ (kX12_begins_10_f1 l D ca za h hh f L Q hI hf_0_48 (by have k0 : (10 : Int32).toInt = 10 := ti_10; omega) H.size) (sl_c12_begins_0_0_0_0_12 hts ⟨Nat.le_of_ble_eq_true rfl, Nat.le_of_ble_eq_true rfl⟩) (sl_vM_0 hA hK hP hS hZ) rfl rfl hl.1 rfl (lv_room (Nat.le_of_ble_eq_true rfl)) dX12_sitsAs_78 ⟨Nat.le_refl _, Nat.le_refl _⟩) hA hS (fun f_4 L_5 Q_6 H locs hq hP hS => ?_)
  obtain ⟨⟨hI, hk_f_4, eL9, eQ9⟩, p_7, u_8⟩ := hq
  rw [eL9, eQ9] at hP; clear eL9 eQ9
  have hF : sgK WkX12_sitsAs_4_f1_f4 f f_4 := sgK.tr hF hk_f_4 (by decide +kernel)
  obtain ⟨v_9, ev_9⟩ : ∃ z : Int32, z = f_4 0 48 := ⟨_, rfl⟩
  have q_10 : 0 ≤ v_9.toInt ∧ v_9.toInt ≤ 19 := by rw [ev_9]; exact hI 0 48
  have q_11 : (f_4 0 48).toInt = v_9.toInt := (congrArg Int32.toInt (show f_4 0 48 = v_9 from ev_9.symm))
  refine lv_aload_n hx hb dX12_sitsAs_81 rfl (lv_at hl 0 rfl) ?_
  refine lv_aload_n hx hb dX12_sitsAs_82 rfl (lv_at hl 0 rfl) ?_
  refine sl_gM_0_49_12 (v := 4) hx hb hts hown hK hP (show f_4 0 49 = 4 from ((hk_f_4 0 49 (by decide)).trans hf_0_49)) dX12_sitsAs_83 ?_
  refine lv_iload_n hx hb dX12_sitsAs_86 rfl (lv_at hl 2 rfl) ?_
  have c_13 : v_9 = 2 := Int32.toInt_inj.mp (by have k9 : (2 : Int32).toInt = 2 := ti_2; omega)
  have q_14 : (f_4 0 48).toInt = 2 := (congrArg Int32.toInt (show f_4 0 48 = 2 from (Eq.trans ev_9.symm c_13))).trans (by decide)
  refine sg_calli (va_runV (As := [.int 4, .int x1]) (rest := []) ⟨hx, hb, hml, hown, hts⟩ (kX12_setsAs_4_f2_f4 l D ca za h hh f_4 L Q hI x1 (Eq.trans ev_9.symm c_13) ((hk_f_4 0 49 (by decide)).trans hf_0_49) (by have k0 : (4 : Int32).toInt = 4 := ti_4; omega) H.size) (sl_c12_setsAs_2_0_0_43_12 hts ⟨Nat.le_of_ble_eq_true rfl, Nat.le_of_ble_eq_true rfl⟩) (sl_vM_0 hA hK hP hS hZ) rfl rfl hl.1 rfl (lv_room (Nat.le_of_ble_eq_true rfl)) dX12_sitsAs_87 ⟨Nat.le_refl _, Nat.le_refl _⟩) hA hS (fun r_19 f_16 L_17 Q_18 H locs hq hP hS => ?_)
  obtain ⟨⟨hI, hk_f_16, eL9, eQ9⟩, hq, p_20, u_21⟩ := hq
  rw [eL9, eQ9] at hP; clear eL9 eQ9
  have hF : sgK WkX12_sitsAs_4_f1_f4 f f_16 := sgK.tr hF hk_f_16 (by decide +kernel)
  obtain ⟨v_22, ev_22⟩ : ∃ z : Int32, z = f_16 0 48 := ⟨_, rfl⟩
  have q_23 : 0 ≤ v_22.toInt ∧ v_22.toInt ≤ 19 := by rw [ev_22]; exact hI 0 48
  have q_24 : (f_16 0 48).toInt = v_22.toInt := (congrArg Int32.toInt (show f_16 0 48 = v_22 from ev_22.symm))
  have k_26 : (4 : Int32).toInt = 4 := by decide
  refine lv_iconst (v := 2) hx hb dX12_sitsAs_90 ic_2 ?_
  refine lv_imul hx hb dX12_sitsAs_91 ?_
  refine lv_topi (fun v_27 ev_27 => ?_)
  exact hret _ _ _ _ (v_27) f_16 L Q dX12_sitsAs_92 hP hS ⟨⟨hI, hF, rfl, rfl⟩, trivial, ⟨by omega, by omega⟩, (Eq.trans (Eq.symm (hs.trans ((spl_e u_8 (spl_e ev_9 (spl2_e u_21 (spl_e ev_22 (spl_e ev_27 rfl)))))))) hsp)⟩

abbrev WkX12_slipsAs_1_f5_f4 : List (Nat × Nat × Option Nat) := [(0, 0, some 48), (21, 21, some 5)]
set_option maxHeartbeats 4000000 in
set_option maxRecDepth 100000 in
theorem kX12_slipsAs_1_f5_f4 (l : Launch) (D : va_G) (ca : Nat → ClassId) (za h : Nat → Nat) (hh : sgH 26 h) (f : sg_F) (L : sg_L) (Q : sg_Q) (hI : sgI loM hiM f) (x1 : Int32) (hf_0_48 : f 0 48 = 5) (hf_0_49 : f 0 49 = 4) (b1 : 1 ≤ x1.toInt ∧ x1.toInt ≤ 1) (p0 : 5 ≤ (f 0 48).toInt ∧ (f 0 48).toInt ≤ 5) (sz : Nat) : Met l yX12_slipsAs gwX12_slipsAs { frames := 1, cells := 0, slots := 0, locals := 21 } (sgP D vwCl (tyX ca) 26 h (eM ca h) zcM za f L Q sz [.ref (h 0), .int 1, .int x1]) (sgQi D vwCl 26 h (eM ca h) sz (fun r f1 L1 Q1 => ((sgI loM hiM f1 ∧ sgK WkX12_slipsAs_1_f5_f4 f f1 ∧ L1 = L ∧ Q1 = Q) ∧ True ∧ (6 ≤ (f1 0 48).toInt ∧ (f1 0 48).toInt ≤ 6) ∧ (r, f1) = sX12_slipsAs_1_f5_f4 x1 f L))) 0 0 (sgA 26 h sz) := by
  refine sg_ofWi (cc := cX12_slipsAs) (maxL := 4) RX12 (by decide) rfl rfl (Nat.le_of_ble_eq_true rfl) ?_
  intro p e s m below meth cd Qz ls hx hb hml hown hts hK hZ hP hS hl hret
  have hA := sgY.self (n := 26) (h := h) (sz := s.heap.size)
  have hl : lv_has ls 4 [(0, .ref (h 0)), (1, .int 1), (2, .int x1)] := hl
  obtain ⟨H, hH⟩ : ∃ z : Heap, z = s.heap := ⟨_, rfl⟩
  obtain ⟨locs, hlo⟩ : ∃ z : List Loc, z = [] := ⟨_, rfl⟩
  have hP : va_P D vwCl (sgw 26 h (eM ca h) f L Q) H := by rw [hH]; exact hP
  have hS : va_S (sgA 26 h s.heap.size) s.heap H locs := by rw [hH, hlo]; exact hS
  suffices hgo : W p l e ({ frames := 1, cells := 0, slots := 0, locals := 21 }) s m ([.ref (h 0), .int 1, .int x1] : List Value).toArray below meth cd H locs 0 0 Qz (F0 m 0 ls []) by rw [hH, hlo] at hgo; exact hgo
  clear hH hlo
  obtain ⟨sp, hsp⟩ : ∃ z : Int32 × sg_F, z = sX12_slipsAs_1_f5_f4 x1 f L := ⟨_, rfl⟩
  have hs : sp = sX12_slipsAs_1_f5_f4 x1 f L := hsp
  have o_1 : (f 0 48).toInt = 5 := (congrArg Int32.toInt (show f 0 48 = 5 from hf_0_48)).trans (by decide)
  have hF : sgK WkX12_slipsAs_1_f5_f4 f f := sgK.rf
  refine lv_iload_n hx hb dX12_slipsAs_0 rfl (lv_at hl 1 rfl) ?_
  refine lv_iconst (v := 3) hx hb dX12_slipsAs_1 ic_3 ?_
  refine lv_icmp_eq (tgt := 10) hx hb dX12_slipsAs_2 (by decide) (fun c => absurd c (by decide)) (fun c => ?_)
  refine lv_iload_n hx hb dX12_slipsAs_5 rfl (lv_at hl 1 rfl) ?_
  refine lv_iconst (v := 5) hx hb dX12_slipsAs_6 ic_5 ?_
  refine lv_icmp_ne (tgt := 25) hx hb dX12_slipsAs_7 (by decide) (fun c => ?_) (fun c => absurd c (by decide))
  refine lv_iload_n hx hb dX12_slipsAs_25 rfl (lv_at hl 1 rfl) ?_
  refine lv_iconst (v := 4) hx hb dX12_slipsAs_26 ic_4 ?_
  refine lv_icmp_eq (tgt := 36) hx hb dX12_slipsAs_27 (by decide) (fun c => absurd c (by decide)) (fun c => ?_)
  refine lv_iload_n hx hb dX12_slipsAs_30 rfl (lv_at hl 1 rfl) ?_
  refine lv_bipush (v := 7) hx hb dX12_slipsAs_31 bp_7 ?_
  refine lv_icmp_ne (tgt := 61) hx hb dX12_slipsAs_33 (by decide) (fun c => ?_) (fun c => absurd c (by decide))
  refine lv_aload_n hx hb dX12_slipsAs_61 rfl (lv_at hl 0 rfl) ?_
  refine lv_bipush (v := 11) hx hb dX12_slipsAs_62 bp_11 ?_
  have q_2 : (f 0 48).toInt = 5 := (congrArg Int32.toInt (show f 0 48 = 5 from hf_0_48)).trans (by decide)
  refine sg_callv (va_runV (As := [.int 11]) (rest := []) ⟨hx, hb, hml, hown, hts⟩ (kX12_begins_11_f5 l D ca za h hh f L Q hI hf_0_48 (by have k0 : (11 : Int32).toInt = 11 := ti_11; omega) H.size) (sl_c12_begins_0_0_0_0_12 hts ⟨Nat.le_of_ble_eq_true rfl, Nat.le_of_ble_eq_true rfl⟩) (sl_vM_0 hA hK hP hS hZ) rfl rfl hl.1 rfl (lv_room (Nat.le_of_ble_eq_true rfl)) dX12_slipsAs_64 ⟨Nat.le_refl _, Nat.le_refl _⟩) hA hS (fun f_4 L_5 Q_6 H locs hq hP hS => ?_)
  obtain ⟨⟨hI, hk_f_4, eL9, eQ9⟩, p_7, u_8⟩ := hq
  rw [eL9, eQ9] at hP; clear eL9 eQ9
  have hF : sgK WkX12_slipsAs_1_f5_f4 f f_4 := sgK.tr hF hk_f_4 (by decide +kernel)
  obtain ⟨v_9, ev_9⟩ : ∃ z : Int32, z = f_4 0 48 := ⟨_, rfl⟩
  have q_10 : 0 ≤ v_9.toInt ∧ v_9.toInt ≤ 19 := by rw [ev_9]; exact hI 0 48
  have q_11 : (f_4 0 48).toInt = v_9.toInt := (congrArg Int32.toInt (show f_4 0 48 = v_9 from ev_9.symm))
  refine lv_iload_n hx hb dX12_slipsAs_67 rfl (lv_at hl 2 rfl) ?_
  refine lv_aload_n hx hb dX12_slipsAs_68 rfl (lv_at hl 0 rfl) ?_
  refine sl_gM_0_50_12 (v := (f_4 0 50)) hx hb hts hown hK hP rfl dX12_slipsAs_69 ?_
  refine lv_topi (fun v_13 ev_13 => ?_)
  have q_14 : 0 ≤ v_13.toInt ∧ v_13.toInt ≤ 49 := by rw [ev_13]; exact hI 0 50
  refine lv_ixor hx hb dX12_slipsAs_72 ?_
  refine lv_topi (fun v_15 ev_15 => ?_)
  exact hret _ _ _ _ (v_15) f_4 L Q dX12_slipsAs_73 hP hS ⟨⟨hI, hF, rfl, rfl⟩, trivial, ⟨by omega, by omega⟩, (Eq.trans (Eq.symm (hs.trans ((spl_e u_8 (spl_e ev_9 (spl_e ev_13 (spl_e ev_15 rfl))))))) hsp)⟩

abbrev WkX12_setsAs_0_f7_f4 : List (Nat × Nat × Option Nat) := [(0, 0, some 48), (21, 21, some 7)]
set_option maxHeartbeats 4000000 in
set_option maxRecDepth 100000 in
theorem kX12_setsAs_0_f7_f4 (l : Launch) (D : va_G) (ca : Nat → ClassId) (za h : Nat → Nat) (hh : sgH 26 h) (f : sg_F) (L : sg_L) (Q : sg_Q) (hI : sgI loM hiM f) (x1 : Int32) (hf_0_48 : f 0 48 = 7) (hf_0_49 : f 0 49 = 4) (b1 : 2 ≤ x1.toInt ∧ x1.toInt ≤ 2) (p0 : 7 ≤ (f 0 48).toInt ∧ (f 0 48).toInt ≤ 7) (sz : Nat) : Met l yX12_setsAs gwX12_setsAs { frames := 1, cells := 0, slots := 0, locals := 21 } (sgP D vwCl (tyX ca) 26 h (eM ca h) zcM za f L Q sz [.ref (h 0), .int 0, .int x1]) (sgQi D vwCl 26 h (eM ca h) sz (fun r f1 L1 Q1 => ((sgI loM hiM f1 ∧ sgK WkX12_setsAs_0_f7_f4 f f1 ∧ L1 = L ∧ Q1 = Q) ∧ (2 ≤ r.toInt ∧ r.toInt ≤ 51) ∧ (8 ≤ (f1 0 48).toInt ∧ (f1 0 48).toInt ≤ 8) ∧ (r, f1) = sX12_setsAs_0_f7_f4 x1 f L))) 0 0 (sgA 26 h sz) := by
  refine sg_ofWi (cc := cX12_setsAs) (maxL := 3) RX12 (by decide) rfl rfl (Nat.le_of_ble_eq_true rfl) ?_
  intro p e s m below meth cd Qz ls hx hb hml hown hts hK hZ hP hS hl hret
  have hA := sgY.self (n := 26) (h := h) (sz := s.heap.size)
  have hl : lv_has ls 3 [(0, .ref (h 0)), (1, .int 0), (2, .int x1)] := hl
  obtain ⟨H, hH⟩ : ∃ z : Heap, z = s.heap := ⟨_, rfl⟩
  obtain ⟨locs, hlo⟩ : ∃ z : List Loc, z = [] := ⟨_, rfl⟩
  have hP : va_P D vwCl (sgw 26 h (eM ca h) f L Q) H := by rw [hH]; exact hP
  have hS : va_S (sgA 26 h s.heap.size) s.heap H locs := by rw [hH, hlo]; exact hS
  suffices hgo : W p l e ({ frames := 1, cells := 0, slots := 0, locals := 21 }) s m ([.ref (h 0), .int 0, .int x1] : List Value).toArray below meth cd H locs 0 0 Qz (F0 m 0 ls []) by rw [hH, hlo] at hgo; exact hgo
  clear hH hlo
  obtain ⟨sp, hsp⟩ : ∃ z : Int32 × sg_F, z = sX12_setsAs_0_f7_f4 x1 f L := ⟨_, rfl⟩
  have hs : sp = sX12_setsAs_0_f7_f4 x1 f L := hsp
  have o_1 : (f 0 48).toInt = 7 := (congrArg Int32.toInt (show f 0 48 = 7 from hf_0_48)).trans (by decide)
  have hF : sgK WkX12_setsAs_0_f7_f4 f f := sgK.rf
  refine lv_iload_n hx hb dX12_setsAs_0 rfl (lv_at hl 1 rfl) ?_
  refine lv_iconst (v := 1) hx hb dX12_setsAs_1 ic_1 ?_
  refine lv_icmp_eq (tgt := 16) hx hb dX12_setsAs_2 (by decide) (fun c => absurd c (by decide)) (fun c => ?_)
  refine lv_iload_n hx hb dX12_setsAs_5 rfl (lv_at hl 1 rfl) ?_
  refine lv_iconst (v := 4) hx hb dX12_setsAs_6 ic_4 ?_
  refine lv_icmp_eq (tgt := 16) hx hb dX12_setsAs_7 (by decide) (fun c => absurd c (by decide)) (fun c => ?_)
  refine lv_iload_n hx hb dX12_setsAs_10 rfl (lv_at hl 1 rfl) ?_
  refine lv_bipush (v := 7) hx hb dX12_setsAs_11 bp_7 ?_
  refine lv_icmp_ne (tgt := 31) hx hb dX12_setsAs_13 (by decide) (fun c => ?_) (fun c => absurd c (by decide))
  refine lv_iload_n hx hb dX12_setsAs_31 rfl (lv_at hl 1 rfl) ?_
  refine lv_bipush (v := 6) hx hb dX12_setsAs_32 bp_6 ?_
  refine lv_icmp_ne (tgt := 52) hx hb dX12_setsAs_34 (by decide) (fun c => ?_) (fun c => absurd c (by decide))
  refine lv_aload_n hx hb dX12_setsAs_52 rfl (lv_at hl 0 rfl) ?_
  refine lv_iconst (v := 1) hx hb dX12_setsAs_53 ic_1 ?_
  have q_2 : (f 0 48).toInt = 7 := (congrArg Int32.toInt (show f 0 48 = 7 from hf_0_48)).trans (by decide)
  refine sg_callv (va_runV (As := [.int 1]) (rest := []) ⟨hx, hb, hml, hown, hts⟩ (kX12_begins_1_f7 l D ca za h hh f L Q hI hf_0_48 (by have k0 : (1 : Int32).toInt = 1 := ti_1; omega) H.size) (sl_c12_begins_0_0_0_0_12 hts ⟨Nat.le_of_ble_eq_true rfl, Nat.le_of_ble_eq_true rfl⟩) (sl_vM_0 hA hK hP hS hZ) rfl rfl hl.1 rfl (lv_room (Nat.le_of_ble_eq_true rfl)) dX12_setsAs_54 ⟨Nat.le_refl _, Nat.le_refl _⟩) hA hS (fun f_4 L_5 Q_6 H locs hq hP hS => ?_)
  obtain ⟨⟨hI, hk_f_4, eL9, eQ9⟩, p_7, u_8⟩ := hq
  rw [eL9, eQ9] at hP; clear eL9 eQ9
  have hF : sgK WkX12_setsAs_0_f7_f4 f f_4 := sgK.tr hF hk_f_4 (by decide +kernel)
  obtain ⟨v_9, ev_9⟩ : ∃ z : Int32, z = f_4 0 48 := ⟨_, rfl⟩
  have q_10 : 0 ≤ v_9.toInt ∧ v_9.toInt ≤ 19 := by rw [ev_9]; exact hI 0 48
  have q_11 : (f_4 0 48).toInt = v_9.toInt := (congrArg Int32.toInt (show f_4 0 48 = v_9 from ev_9.symm))
  refine lv_iload_n hx hb dX12_setsAs_57 rfl (lv_at hl 2 rfl) ?_
  refine lv_aload_n hx hb dX12_setsAs_58 rfl (lv_at hl 0 rfl) ?_
  refine sl_gM_0_50_12 (v := (f_4 0 50)) hx hb hts hown hK hP rfl dX12_setsAs_59 ?_
  refine lv_topi (fun v_13 ev_13 => ?_)
  have q_14 : 0 ≤ v_13.toInt ∧ v_13.toInt ≤ 49 := by rw [ev_13]; exact hI 0 50
  refine lv_iadd hx hb dX12_setsAs_62 ?_
  refine lv_topi (fun v_15 ev_15 => ?_)
  have q_16 : v_15.toInt = x1.toInt + v_13.toInt := by rw [ev_15]; first | exact bn_addI (by omega) (by omega) | exact (bn_addI (by omega) (by omega)).trans (by omega)
  exact hret _ _ _ _ (v_15) f_4 L Q dX12_setsAs_63 hP hS ⟨⟨hI, hF, rfl, rfl⟩, ⟨by omega, by omega⟩, ⟨by omega, by omega⟩, (Eq.trans (Eq.symm (hs.trans ((spl_e u_8 (spl_e ev_9 (spl_e ev_13 (spl_e ev_15 rfl))))))) hsp)⟩

abbrev WkX12_setsAs_4_f6_f4 : List (Nat × Nat × Option Nat) := [(0, 0, some 48), (21, 21, some 6), (21, 21, some 7)]
set_option maxHeartbeats 4000000 in
set_option maxRecDepth 100000 in
theorem kX12_setsAs_4_f6_f4 (l : Launch) (D : va_G) (ca : Nat → ClassId) (za h : Nat → Nat) (hh : sgH 26 h) (f : sg_F) (L : sg_L) (Q : sg_Q) (hI : sgI loM hiM f) (x1 : Int32) (hf_0_48 : f 0 48 = 6) (hf_0_49 : f 0 49 = 4) (b1 : 2 ≤ x1.toInt ∧ x1.toInt ≤ 2) (p0 : 6 ≤ (f 0 48).toInt ∧ (f 0 48).toInt ≤ 6) (sz : Nat) : Met l yX12_setsAs gwX12_setsAs { frames := 2, cells := 0, slots := 0, locals := 43 } (sgP D vwCl (tyX ca) 26 h (eM ca h) zcM za f L Q sz [.ref (h 0), .int 4, .int x1]) (sgQi D vwCl 26 h (eM ca h) sz (fun r f1 L1 Q1 => ((sgI loM hiM f1 ∧ sgK WkX12_setsAs_4_f6_f4 f f1 ∧ L1 = L ∧ Q1 = Q) ∧ (5 ≤ r.toInt ∧ r.toInt ≤ 54) ∧ (8 ≤ (f1 0 48).toInt ∧ (f1 0 48).toInt ≤ 8) ∧ (r, f1) = sX12_setsAs_4_f6_f4 x1 f L))) 0 0 (sgA 26 h sz) := by
  refine sg_ofWi (cc := cX12_setsAs) (maxL := 3) RX12 (by decide) rfl rfl (Nat.le_of_ble_eq_true rfl) ?_
  intro p e s m below meth cd Qz ls hx hb hml hown hts hK hZ hP hS hl hret
  have hA := sgY.self (n := 26) (h := h) (sz := s.heap.size)
  have hl : lv_has ls 3 [(0, .ref (h 0)), (1, .int 4), (2, .int x1)] := hl
  obtain ⟨H, hH⟩ : ∃ z : Heap, z = s.heap := ⟨_, rfl⟩
  obtain ⟨locs, hlo⟩ : ∃ z : List Loc, z = [] := ⟨_, rfl⟩
  have hP : va_P D vwCl (sgw 26 h (eM ca h) f L Q) H := by rw [hH]; exact hP
  have hS : va_S (sgA 26 h s.heap.size) s.heap H locs := by rw [hH, hlo]; exact hS
  suffices hgo : W p l e ({ frames := 2, cells := 0, slots := 0, locals := 43 }) s m ([.ref (h 0), .int 4, .int x1] : List Value).toArray below meth cd H locs 0 0 Qz (F0 m 0 ls []) by rw [hH, hlo] at hgo; exact hgo
  clear hH hlo
  obtain ⟨sp, hsp⟩ : ∃ z : Int32 × sg_F, z = sX12_setsAs_4_f6_f4 x1 f L := ⟨_, rfl⟩
  have hs : sp = sX12_setsAs_4_f6_f4 x1 f L := hsp
  have o_1 : (f 0 48).toInt = 6 := (congrArg Int32.toInt (show f 0 48 = 6 from hf_0_48)).trans (by decide)
  have hF : sgK WkX12_setsAs_4_f6_f4 f f := sgK.rf
  have blk_16 : ∀ (fp_16 : sg_F) (H : Heap) (locs : List Loc) (ls : Array Slot), sp = sX12_setsAs_4_f6_f4_b16 x1 fp_16 L → 6 ≤ (fp_16 0 48).toInt ∧ (fp_16 0 48).toInt ≤ 6 → 4 ≤ (fp_16 0 49).toInt ∧ (fp_16 0 49).toInt ≤ 4 → sgI loM hiM fp_16 → sgK WkX12_setsAs_4_f6_f4 f fp_16 → va_P D vwCl (sgw 26 h (eM ca h) fp_16 L Q) H → va_S (sgA 26 h s.heap.size) s.heap H locs → lv_has ls 3 [(0, .ref (h 0)), (2, .int x1)] → W p l e ({ frames := 2, cells := 0, slots := 0, locals := 43 }) s m ([.ref (h 0), .int 4, .int x1] : List Value).toArray below meth cd H locs 0 0 Qz (F0 m 16 ls []) := by
    intro fp_16 H locs ls hs hy0_16 hy1_16 hI hF hP hS hl
    obtain ⟨v_2, ev_2⟩ : ∃ z : Int32, z = fp_16 0 48 := ⟨_, rfl⟩
    have q_3 : 0 ≤ v_2.toInt ∧ v_2.toInt ≤ 19 := by rw [ev_2]; exact hI 0 48
    have q_4 : (fp_16 0 48).toInt = v_2.toInt := by rw [ev_2]
    obtain ⟨v_5, ev_5⟩ : ∃ z : Int32, z = fp_16 0 49 := ⟨_, rfl⟩
    have q_6 : 0 ≤ v_5.toInt ∧ v_5.toInt ≤ 7 := by rw [ev_5]; exact hI 0 49
    have q_7 : (fp_16 0 49).toInt = v_5.toInt := by rw [ev_5]
    have m_8 : fp_16 0 49 = 4 := (hF 0 49 (by decide)).trans hf_0_49
    refine lv_aload_n hx hb dX12_setsAs_16 rfl (lv_at hl 0 rfl) ?_
    refine lv_bipush (v := 20) hx hb dX12_setsAs_17 bp_20 ?_
    have c_9 : v_2 = 6 := Int32.toInt_inj.mp (by have k9 : (6 : Int32).toInt = 6 := ti_6; omega)
    have q_10 : (fp_16 0 48).toInt = 6 := (congrArg Int32.toInt (show fp_16 0 48 = 6 from (Eq.trans ev_2.symm c_9))).trans (by decide)
    refine sg_callv (va_runV (As := [.int 20]) (rest := []) ⟨hx, hb, hml, hown, hts⟩ (kX12_begins_20_f6 l D ca za h hh fp_16 L Q hI (Eq.trans ev_2.symm c_9) (by have k0 : (20 : Int32).toInt = 20 := ti_20; omega) H.size) (sl_c12_begins_0_0_0_0_12 hts ⟨Nat.le_of_ble_eq_true rfl, Nat.le_of_ble_eq_true rfl⟩) (sl_vM_0 hA hK hP hS hZ) rfl rfl hl.1 rfl (lv_room (Nat.le_of_ble_eq_true rfl)) dX12_setsAs_19 ⟨Nat.le_refl _, Nat.le_refl _⟩) hA hS (fun f_12 L_13 Q_14 H locs hq hP hS => ?_)
    obtain ⟨⟨hI, hk_f_12, eL9, eQ9⟩, p_15, u_16⟩ := hq
    rw [eL9, eQ9] at hP; clear eL9 eQ9
    have hF : sgK WkX12_setsAs_4_f6_f4 f f_12 := sgK.tr hF hk_f_12 (by decide +kernel)
    obtain ⟨v_17, ev_17⟩ : ∃ z : Int32, z = f_12 0 48 := ⟨_, rfl⟩
    have q_18 : 0 ≤ v_17.toInt ∧ v_17.toInt ≤ 19 := by rw [ev_17]; exact hI 0 48
    have q_19 : (f_12 0 48).toInt = v_17.toInt := (congrArg Int32.toInt (show f_12 0 48 = v_17 from ev_17.symm))
    refine lv_aload_n hx hb dX12_setsAs_22 rfl (lv_at hl 0 rfl) ?_
    refine lv_iconst (v := 0) hx hb dX12_setsAs_23 ic_0 ?_
    refine lv_iload_n hx hb dX12_setsAs_24 rfl (lv_at hl 1 rfl) ?_
    have c_21 : v_17 = 7 := Int32.toInt_inj.mp (by have k9 : (7 : Int32).toInt = 7 := ti_7; omega)
    have q_22 : (f_12 0 48).toInt = 7 := (congrArg Int32.toInt (show f_12 0 48 = 7 from (Eq.trans ev_17.symm c_21))).trans (by decide)
    refine sg_calli (va_runV (As := [.int 0, .int x1]) (rest := []) ⟨hx, hb, hml, hown, hts⟩ (kX12_setsAs_0_f7_f4 l D ca za h hh f_12 L Q hI x1 (Eq.trans ev_17.symm c_21) ((hk_f_12 0 49 (by decide)).trans m_8) b1 (by have k0 : (0 : Int32).toInt = 0 := ti_0; omega) H.size) (sl_c12_setsAs_1_0_0_21_12 hts ⟨Nat.le_of_ble_eq_true rfl, Nat.le_of_ble_eq_true rfl⟩) (sl_vM_0 hA hK hP hS hZ) rfl rfl hl.1 rfl (lv_room (Nat.le_of_ble_eq_true rfl)) dX12_setsAs_25 ⟨Nat.le_refl _, Nat.le_refl _⟩) hA hS (fun r_27 f_24 L_25 Q_26 H locs hq hP hS => ?_)
    obtain ⟨⟨hI, hk_f_24, eL9, eQ9⟩, hq, p_28, u_29⟩ := hq
    rw [eL9, eQ9] at hP; clear eL9 eQ9
    have hF : sgK WkX12_setsAs_4_f6_f4 f f_24 := sgK.tr hF hk_f_24 (by decide +kernel)
    obtain ⟨v_30, ev_30⟩ : ∃ z : Int32, z = f_24 0 48 := ⟨_, rfl⟩
    have q_31 : 0 ≤ v_30.toInt ∧ v_30.toInt ≤ 19 := by rw [ev_30]; exact hI 0 48
    have q_32 : (f_24 0 48).toInt = v_30.toInt := (congrArg Int32.toInt (show f_24 0 48 = v_30 from ev_30.symm))
    have k_34 : (0 : Int32).toInt = 0 := by decide
    refine lv_iconst (v := 3) hx hb dX12_setsAs_28 ic_3 ?_
    refine lv_iadd hx hb dX12_setsAs_29 ?_
    refine lv_topi (fun v_35 ev_35 => ?_)
    have q_36 : v_35.toInt = r_27.toInt + 3 := by rw [ev_35]; first | exact cm_add ti_3 (by omega) (by omega) | (have k1 : (3 : Int32).toInt = 3 := ti_3; exact (bn_addI (by omega) (by omega)).trans (by omega))
    exact hret _ _ _ _ (v_35) f_24 L Q dX12_setsAs_30 hP hS ⟨⟨hI, hF, rfl, rfl⟩, ⟨by omega, by omega⟩, ⟨by omega, by omega⟩, (Eq.trans (Eq.symm (hs.trans ((spl_e ev_2 (spl_e ev_5 (spl_e u_16 (spl_e ev_17 (spl2_e u_29 (spl_e ev_30 (spl_e ev_35 rfl)))))))))) hsp)⟩
  refine lv_iload_n hx hb dX12_setsAs_0 rfl (lv_at hl 1 rfl) ?_
  refine lv_iconst (v := 1) hx hb dX12_setsAs_1 ic_1 ?_
  refine lv_icmp_eq (tgt := 16) hx hb dX12_setsAs_2 (by decide) (fun c => absurd c (by decide)) (fun c => ?_)
  refine lv_iload_n hx hb dX12_setsAs_5 rfl (lv_at hl 1 rfl) ?_
  refine lv_iconst (v := 4) hx hb dX12_setsAs_6 ic_4 ?_
  refine lv_icmp_eq (tgt := 16) hx hb dX12_setsAs_7 (by decide) (fun c => ?_) (fun c => absurd c (by decide))
  exact blk_16 f _ _ _ hs (by have zz0_48 : (f 0 48).toInt = 6 := (congrArg Int32.toInt (show f 0 48 = 6 from hf_0_48)).trans (by decide); exact ⟨by omega, by omega⟩) (by have zz0_49 : (f 0 49).toInt = 4 := (congrArg Int32.toInt (show f 0 49 = 4 from hf_0_49)).trans (by decide); exact ⟨by omega, by omega⟩) hI hF hP hS (lv_sub hl [0, 2] rfl)

abbrev WkX12_slipsAs_4_f4_f4 : List (Nat × Nat × Option Nat) := [(0, 0, some 48), (21, 21, some 4), (21, 21, some 5), (21, 21, some 6), (21, 21, some 7)]
set_option maxHeartbeats 4000000 in
set_option maxRecDepth 100000 in
theorem kX12_slipsAs_4_f4_f4 (l : Launch) (D : va_G) (ca : Nat → ClassId) (za h : Nat → Nat) (hh : sgH 26 h) (f : sg_F) (L : sg_L) (Q : sg_Q) (hI : sgI loM hiM f) (x1 : Int32) (hf_0_48 : f 0 48 = 4) (hf_0_49 : f 0 49 = 4) (b1 : 1 ≤ x1.toInt ∧ x1.toInt ≤ 1) (p0 : 4 ≤ (f 0 48).toInt ∧ (f 0 48).toInt ≤ 4) (sz : Nat) : Met l yX12_slipsAs gwX12_slipsAs { frames := 3, cells := 0, slots := 0, locals := 65 } (sgP D vwCl (tyX ca) 26 h (eM ca h) zcM za f L Q sz [.ref (h 0), .int 4, .int x1]) (sgQi D vwCl 26 h (eM ca h) sz (fun r f1 L1 Q1 => ((sgI loM hiM f1 ∧ sgK WkX12_slipsAs_4_f4_f4 f f1 ∧ L1 = L ∧ Q1 = Q) ∧ True ∧ (8 ≤ (f1 0 48).toInt ∧ (f1 0 48).toInt ≤ 8) ∧ (r, f1) = sX12_slipsAs_4_f4_f4 x1 f L))) 0 0 (sgA 26 h sz) := by
  refine sg_ofWi (cc := cX12_slipsAs) (maxL := 4) RX12 (by decide) rfl rfl (Nat.le_of_ble_eq_true rfl) ?_
  intro p e s m below meth cd Qz ls hx hb hml hown hts hK hZ hP hS hl hret
  have hA := sgY.self (n := 26) (h := h) (sz := s.heap.size)
  have hl : lv_has ls 4 [(0, .ref (h 0)), (1, .int 4), (2, .int x1)] := hl
  obtain ⟨H, hH⟩ : ∃ z : Heap, z = s.heap := ⟨_, rfl⟩
  obtain ⟨locs, hlo⟩ : ∃ z : List Loc, z = [] := ⟨_, rfl⟩
  have hP : va_P D vwCl (sgw 26 h (eM ca h) f L Q) H := by rw [hH]; exact hP
  have hS : va_S (sgA 26 h s.heap.size) s.heap H locs := by rw [hH, hlo]; exact hS
  suffices hgo : W p l e ({ frames := 3, cells := 0, slots := 0, locals := 65 }) s m ([.ref (h 0), .int 4, .int x1] : List Value).toArray below meth cd H locs 0 0 Qz (F0 m 0 ls []) by rw [hH, hlo] at hgo; exact hgo
  clear hH hlo
  obtain ⟨sp, hsp⟩ : ∃ z : Int32 × sg_F, z = sX12_slipsAs_4_f4_f4 x1 f L := ⟨_, rfl⟩
  have hs : sp = sX12_slipsAs_4_f4_f4 x1 f L := hsp
  have o_1 : (f 0 48).toInt = 4 := (congrArg Int32.toInt (show f 0 48 = 4 from hf_0_48)).trans (by decide)
  have hF : sgK WkX12_slipsAs_4_f4_f4 f f := sgK.rf
  have blk_36 : ∀ (fp_36 : sg_F) (H : Heap) (locs : List Loc) (ls : Array Slot), sp = sX12_slipsAs_4_f4_f4_b36 x1 fp_36 L → 4 ≤ (fp_36 0 48).toInt ∧ (fp_36 0 48).toInt ≤ 4 → 4 ≤ (fp_36 0 49).toInt ∧ (fp_36 0 49).toInt ≤ 4 → sgI loM hiM fp_36 → sgK WkX12_slipsAs_4_f4_f4 f fp_36 → va_P D vwCl (sgw 26 h (eM ca h) fp_36 L Q) H → va_S (sgA 26 h s.heap.size) s.heap H locs → lv_has ls 4 [(0, .ref (h 0)), (2, .int x1)] → W p l e ({ frames := 3, cells := 0, slots := 0, locals := 65 }) s m ([.ref (h 0), .int 4, .int x1] : List Value).toArray below meth cd H locs 0 0 Qz (F0 m 36 ls []) := by
    intro fp_36 H locs ls hs hy0_36 hy1_36 hI hF hP hS hl
    obtain ⟨v_2, ev_2⟩ : ∃ z : Int32, z = fp_36 0 48 := ⟨_, rfl⟩
    have q_3 : 0 ≤ v_2.toInt ∧ v_2.toInt ≤ 19 := by rw [ev_2]; exact hI 0 48
    have q_4 : (fp_36 0 48).toInt = v_2.toInt := by rw [ev_2]
    obtain ⟨v_5, ev_5⟩ : ∃ z : Int32, z = fp_36 0 49 := ⟨_, rfl⟩
    have q_6 : 0 ≤ v_5.toInt ∧ v_5.toInt ≤ 7 := by rw [ev_5]; exact hI 0 49
    have q_7 : (fp_36 0 49).toInt = v_5.toInt := by rw [ev_5]
    have m_8 : fp_36 0 49 = 4 := (hF 0 49 (by decide)).trans hf_0_49
    refine lv_aload_n hx hb dX12_slipsAs_36 rfl (lv_at hl 0 rfl) ?_
    refine lv_bipush (v := 50) hx hb dX12_slipsAs_37 bp_50 ?_
    have c_9 : v_2 = 4 := Int32.toInt_inj.mp (by have k9 : (4 : Int32).toInt = 4 := ti_4; omega)
    have q_10 : (fp_36 0 48).toInt = 4 := (congrArg Int32.toInt (show fp_36 0 48 = 4 from (Eq.trans ev_2.symm c_9))).trans (by decide)
    refine sg_callv (va_runV (As := [.int 50]) (rest := []) ⟨hx, hb, hml, hown, hts⟩ (kX12_begins_50_f4 l D ca za h hh fp_36 L Q hI (Eq.trans ev_2.symm c_9) (by have k0 : (50 : Int32).toInt = 50 := ti_50; omega) H.size) (sl_c12_begins_0_0_0_0_12 hts ⟨Nat.le_of_ble_eq_true rfl, Nat.le_of_ble_eq_true rfl⟩) (sl_vM_0 hA hK hP hS hZ) rfl rfl hl.1 rfl (lv_room (Nat.le_of_ble_eq_true rfl)) dX12_slipsAs_39 ⟨Nat.le_refl _, Nat.le_refl _⟩) hA hS (fun f_12 L_13 Q_14 H locs hq hP hS => ?_)
    obtain ⟨⟨hI, hk_f_12, eL9, eQ9⟩, p_15, u_16⟩ := hq
    rw [eL9, eQ9] at hP; clear eL9 eQ9
    have hF : sgK WkX12_slipsAs_4_f4_f4 f f_12 := sgK.tr hF hk_f_12 (by decide +kernel)
    obtain ⟨v_17, ev_17⟩ : ∃ z : Int32, z = f_12 0 48 := ⟨_, rfl⟩
    have q_18 : 0 ≤ v_17.toInt ∧ v_17.toInt ≤ 19 := by rw [ev_17]; exact hI 0 48
    have q_19 : (f_12 0 48).toInt = v_17.toInt := (congrArg Int32.toInt (show f_12 0 48 = v_17 from ev_17.symm))
    refine lv_aload_n hx hb dX12_slipsAs_42 rfl (lv_at hl 0 rfl) ?_
    refine lv_iconst (v := 1) hx hb dX12_slipsAs_43 ic_1 ?_
    refine lv_iload_n hx hb dX12_slipsAs_44 rfl (lv_at hl 1 rfl) ?_
    have c_21 : v_17 = 5 := Int32.toInt_inj.mp (by have k9 : (5 : Int32).toInt = 5 := ti_5; omega)
    have q_22 : (f_12 0 48).toInt = 5 := (congrArg Int32.toInt (show f_12 0 48 = 5 from (Eq.trans ev_17.symm c_21))).trans (by decide)
    refine sg_calli (va_runV (As := [.int 1, .int x1]) (rest := []) ⟨hx, hb, hml, hown, hts⟩ (kX12_slipsAs_1_f5_f4 l D ca za h hh f_12 L Q hI x1 (Eq.trans ev_17.symm c_21) ((hk_f_12 0 49 (by decide)).trans m_8) b1 (by have k0 : (1 : Int32).toInt = 1 := ti_1; omega) H.size) (sl_c12_slipsAs_1_0_0_21_12 hts ⟨Nat.le_of_ble_eq_true rfl, Nat.le_of_ble_eq_true rfl⟩) (sl_vM_0 hA hK hP hS hZ) rfl rfl hl.1 rfl (lv_room (Nat.le_of_ble_eq_true rfl)) dX12_slipsAs_45 ⟨Nat.le_refl _, Nat.le_refl _⟩) hA hS (fun r_27 f_24 L_25 Q_26 H locs hq hP hS => ?_)
    obtain ⟨⟨hI, hk_f_24, eL9, eQ9⟩, hq, p_28, u_29⟩ := hq
    rw [eL9, eQ9] at hP; clear eL9 eQ9
    have hF : sgK WkX12_slipsAs_4_f4_f4 f f_24 := sgK.tr hF hk_f_24 (by decide +kernel)
    obtain ⟨v_30, ev_30⟩ : ∃ z : Int32, z = f_24 0 48 := ⟨_, rfl⟩
    have q_31 : 0 ≤ v_30.toInt ∧ v_30.toInt ≤ 19 := by rw [ev_30]; exact hI 0 48
    have q_32 : (f_24 0 48).toInt = v_30.toInt := (congrArg Int32.toInt (show f_24 0 48 = v_30 from ev_30.symm))
    have k_34 : (1 : Int32).toInt = 1 := by decide
    refine lv_istore_n (lv' := [(3, .int r_27), (0, .ref (h 0)), (2, .int x1)]) hx hb dX12_slipsAs_48 rfl hl (by decide) rfl (fun ls hl => ?_)
    refine lv_iload_n hx hb dX12_slipsAs_49 rfl (lv_at hl 0 rfl) ?_
    refine lv_aload_n hx hb dX12_slipsAs_50 rfl (lv_at hl 1 rfl) ?_
    refine lv_aload_n hx hb dX12_slipsAs_51 rfl (lv_at hl 1 rfl) ?_
    refine sl_gM_0_49_12 (v := 4) hx hb hts hown hK hP (show f_24 0 49 = 4 from ((hk_f_24 0 49 (by decide)).trans ((hk_f_12 0 49 (by decide)).trans m_8))) dX12_slipsAs_52 ?_
    refine lv_iconst (v := 2) hx hb dX12_slipsAs_55 ic_2 ?_
    have c_35 : v_30 = 6 := Int32.toInt_inj.mp (by have k9 : (6 : Int32).toInt = 6 := ti_6; omega)
    have q_36 : (f_24 0 48).toInt = 6 := (congrArg Int32.toInt (show f_24 0 48 = 6 from (Eq.trans ev_30.symm c_35))).trans (by decide)
    refine sg_calli (va_runV (As := [.int 4, .int 2]) (rest := [.int r_27]) ⟨hx, hb, hml, hown, hts⟩ (kX12_setsAs_4_f6_f4 l D ca za h hh f_24 L Q hI 2 (Eq.trans ev_30.symm c_35) ((hk_f_24 0 49 (by decide)).trans ((hk_f_12 0 49 (by decide)).trans m_8)) (by decide) (by have k0 : (4 : Int32).toInt = 4 := ti_4; have k1 : (2 : Int32).toInt = 2 := ti_2; omega) H.size) (sl_c12_setsAs_2_0_0_43_12 hts ⟨Nat.le_of_ble_eq_true rfl, Nat.le_of_ble_eq_true rfl⟩) (sl_vM_0 hA hK hP hS hZ) rfl rfl hl.1 rfl (lv_room (Nat.le_of_ble_eq_true rfl)) dX12_slipsAs_56 ⟨Nat.le_refl _, Nat.le_refl _⟩) hA hS (fun r_41 f_38 L_39 Q_40 H locs hq hP hS => ?_)
    obtain ⟨⟨hI, hk_f_38, eL9, eQ9⟩, hq, p_42, u_43⟩ := hq
    rw [eL9, eQ9] at hP; clear eL9 eQ9
    have hF : sgK WkX12_slipsAs_4_f4_f4 f f_38 := sgK.tr hF hk_f_38 (by decide +kernel)
    obtain ⟨v_44, ev_44⟩ : ∃ z : Int32, z = f_38 0 48 := ⟨_, rfl⟩
    have q_45 : 0 ≤ v_44.toInt ∧ v_44.toInt ≤ 19 := by rw [ev_44]; exact hI 0 48
    have q_46 : (f_38 0 48).toInt = v_44.toInt := (congrArg Int32.toInt (show f_38 0 48 = v_44 from ev_44.symm))
    have k_48 : (4 : Int32).toInt = 4 := by decide
    have k_49 : (2 : Int32).toInt = 2 := by decide
    refine lv_isub hx hb dX12_slipsAs_59 ?_
    refine lv_topi (fun v_50 ev_50 => ?_)
    exact hret _ _ _ _ (v_50) f_38 L Q dX12_slipsAs_60 hP hS ⟨⟨hI, hF, rfl, rfl⟩, trivial, ⟨by omega, by omega⟩, (Eq.trans (Eq.symm (hs.trans ((spl_e ev_2 (spl_e ev_5 (spl_e u_16 (spl_e ev_17 (spl2_e u_29 (spl_e ev_30 (spl2_e u_43 (spl_e ev_44 (spl_e ev_50 rfl)))))))))))) hsp)⟩
  refine lv_iload_n hx hb dX12_slipsAs_0 rfl (lv_at hl 1 rfl) ?_
  refine lv_iconst (v := 3) hx hb dX12_slipsAs_1 ic_3 ?_
  refine lv_icmp_eq (tgt := 10) hx hb dX12_slipsAs_2 (by decide) (fun c => absurd c (by decide)) (fun c => ?_)
  refine lv_iload_n hx hb dX12_slipsAs_5 rfl (lv_at hl 1 rfl) ?_
  refine lv_iconst (v := 5) hx hb dX12_slipsAs_6 ic_5 ?_
  refine lv_icmp_ne (tgt := 25) hx hb dX12_slipsAs_7 (by decide) (fun c => ?_) (fun c => absurd c (by decide))
  refine lv_iload_n hx hb dX12_slipsAs_25 rfl (lv_at hl 1 rfl) ?_
  refine lv_iconst (v := 4) hx hb dX12_slipsAs_26 ic_4 ?_
  refine lv_icmp_eq (tgt := 36) hx hb dX12_slipsAs_27 (by decide) (fun c => ?_) (fun c => absurd c (by decide))
  exact blk_36 f _ _ _ hs (by have zz0_48 : (f 0 48).toInt = 4 := (congrArg Int32.toInt (show f 0 48 = 4 from hf_0_48)).trans (by decide); exact ⟨by omega, by omega⟩) (by have zz0_49 : (f 0 49).toInt = 4 := (congrArg Int32.toInt (show f 0 49 = 4 from hf_0_49)).trans (by decide); exact ⟨by omega, by omega⟩) hI hF hP hS (lv_sub hl [0, 2] rfl)

abbrev WkX12_tellsAs_4_f0_f4 : List (Nat × Nat × Option Nat) := [(0, 0, some 48), (21, 21, some 0), (21, 21, some 1), (21, 21, some 2), (21, 21, some 3), (21, 21, some 4), (21, 21, some 5), (21, 21, some 6), (21, 21, some 7)]
set_option maxHeartbeats 4000000 in
set_option maxRecDepth 100000 in
theorem kX12_tellsAs_4_f0_f4 (l : Launch) (D : va_G) (ca : Nat → ClassId) (za h : Nat → Nat) (hh : sgH 26 h) (f : sg_F) (L : sg_L) (Q : sg_Q) (hI : sgI loM hiM f) (x1 : Int32) (hf_0_48 : f 0 48 = 0) (hf_0_49 : f 0 49 = 4) (p0 : 0 ≤ (f 0 48).toInt ∧ (f 0 48).toInt ≤ 0) (sz : Nat) : Met l yX12_tellsAs gwX12_tellsAs { frames := 4, cells := 0, slots := 0, locals := 88 } (sgP D vwCl (tyX ca) 26 h (eM ca h) zcM za f L Q sz [.ref (h 0), .int 4, .int x1]) (sgQi D vwCl 26 h (eM ca h) sz (fun r f1 L1 Q1 => ((sgI loM hiM f1 ∧ sgK WkX12_tellsAs_4_f0_f4 f f1 ∧ L1 = L ∧ Q1 = Q) ∧ True ∧ (8 ≤ (f1 0 48).toInt ∧ (f1 0 48).toInt ≤ 8) ∧ (r, f1) = sX12_tellsAs_4_f0_f4 x1 f L))) 0 0 (sgA 26 h sz) := by
  refine sg_ofWi (cc := cX12_tellsAs) (maxL := 4) RX12 (by decide) rfl rfl (Nat.le_of_ble_eq_true rfl) ?_
  intro p e s m below meth cd Qz ls hx hb hml hown hts hK hZ hP hS hl hret
  have hA := sgY.self (n := 26) (h := h) (sz := s.heap.size)
  have hl : lv_has ls 4 [(0, .ref (h 0)), (1, .int 4), (2, .int x1)] := hl
  obtain ⟨H, hH⟩ : ∃ z : Heap, z = s.heap := ⟨_, rfl⟩
  obtain ⟨locs, hlo⟩ : ∃ z : List Loc, z = [] := ⟨_, rfl⟩
  have hP : va_P D vwCl (sgw 26 h (eM ca h) f L Q) H := by rw [hH]; exact hP
  have hS : va_S (sgA 26 h s.heap.size) s.heap H locs := by rw [hH, hlo]; exact hS
  suffices hgo : W p l e ({ frames := 4, cells := 0, slots := 0, locals := 88 }) s m ([.ref (h 0), .int 4, .int x1] : List Value).toArray below meth cd H locs 0 0 Qz (F0 m 0 ls []) by rw [hH, hlo] at hgo; exact hgo
  clear hH hlo
  obtain ⟨sp, hsp⟩ : ∃ z : Int32 × sg_F, z = sX12_tellsAs_4_f0_f4 x1 f L := ⟨_, rfl⟩
  have hs : sp = sX12_tellsAs_4_f0_f4 x1 f L := hsp
  have o_1 : (f 0 48).toInt = 0 := (congrArg Int32.toInt (show f 0 48 = 0 from hf_0_48)).trans (by decide)
  have hF : sgK WkX12_tellsAs_4_f0_f4 f f := sgK.rf
  refine lv_iload_n hx hb dX12_tellsAs_0 rfl (lv_at hl 1 rfl) ?_
  refine lv_iconst (v := 5) hx hb dX12_tellsAs_1 ic_5 ?_
  refine lv_icmp_ne (tgt := 20) hx hb dX12_tellsAs_2 (by decide) (fun c => ?_) (fun c => absurd c (by decide))
  refine lv_iload_n hx hb dX12_tellsAs_20 rfl (lv_at hl 1 rfl) ?_
  refine lv_bipush (v := 7) hx hb dX12_tellsAs_21 bp_7 ?_
  refine lv_icmp_ne (tgt := 41) hx hb dX12_tellsAs_23 (by decide) (fun c => ?_) (fun c => absurd c (by decide))
  refine lv_aload_n hx hb dX12_tellsAs_41 rfl (lv_at hl 0 rfl) ?_
  refine lv_iconst (v := 2) hx hb dX12_tellsAs_42 ic_2 ?_
  have q_2 : (f 0 48).toInt = 0 := (congrArg Int32.toInt (show f 0 48 = 0 from hf_0_48)).trans (by decide)
  refine sg_callv (va_runV (As := [.int 2]) (rest := []) ⟨hx, hb, hml, hown, hts⟩ (kX12_begins_2_f0 l D ca za h hh f L Q hI hf_0_48 (by have k0 : (2 : Int32).toInt = 2 := ti_2; omega) H.size) (sl_c12_begins_0_0_0_0_12 hts ⟨Nat.le_of_ble_eq_true rfl, Nat.le_of_ble_eq_true rfl⟩) (sl_vM_0 hA hK hP hS hZ) rfl rfl hl.1 rfl (lv_room (Nat.le_of_ble_eq_true rfl)) dX12_tellsAs_43 ⟨Nat.le_refl _, Nat.le_refl _⟩) hA hS (fun f_4 L_5 Q_6 H locs hq hP hS => ?_)
  obtain ⟨⟨hI, hk_f_4, eL9, eQ9⟩, p_7, u_8⟩ := hq
  rw [eL9, eQ9] at hP; clear eL9 eQ9
  have hF : sgK WkX12_tellsAs_4_f0_f4 f f_4 := sgK.tr hF hk_f_4 (by decide +kernel)
  obtain ⟨v_9, ev_9⟩ : ∃ z : Int32, z = f_4 0 48 := ⟨_, rfl⟩
  have q_10 : 0 ≤ v_9.toInt ∧ v_9.toInt ≤ 19 := by rw [ev_9]; exact hI 0 48
  have q_11 : (f_4 0 48).toInt = v_9.toInt := (congrArg Int32.toInt (show f_4 0 48 = v_9 from ev_9.symm))
  refine lv_aload_n hx hb dX12_tellsAs_46 rfl (lv_at hl 0 rfl) ?_
  refine lv_aload_n hx hb dX12_tellsAs_47 rfl (lv_at hl 0 rfl) ?_
  refine sl_gM_0_49_12 (v := 4) hx hb hts hown hK hP (show f_4 0 49 = 4 from ((hk_f_4 0 49 (by decide)).trans hf_0_49)) dX12_tellsAs_48 ?_
  refine lv_iload_n hx hb dX12_tellsAs_51 rfl (lv_at hl 2 rfl) ?_
  have c_13 : v_9 = 1 := Int32.toInt_inj.mp (by have k9 : (1 : Int32).toInt = 1 := ti_1; omega)
  have q_14 : (f_4 0 48).toInt = 1 := (congrArg Int32.toInt (show f_4 0 48 = 1 from (Eq.trans ev_9.symm c_13))).trans (by decide)
  refine sg_calli (va_runV (As := [.int 4, .int x1]) (rest := []) ⟨hx, hb, hml, hown, hts⟩ (kX12_sitsAs_4_f1_f4 l D ca za h hh f_4 L Q hI x1 (Eq.trans ev_9.symm c_13) ((hk_f_4 0 49 (by decide)).trans hf_0_49) (by have k0 : (4 : Int32).toInt = 4 := ti_4; omega) H.size) (sl_c12_sitsAs_3_0_0_65_12 hts ⟨Nat.le_of_ble_eq_true rfl, Nat.le_of_ble_eq_true rfl⟩) (sl_vM_0 hA hK hP hS hZ) rfl rfl hl.1 rfl (lv_room (Nat.le_of_ble_eq_true rfl)) dX12_tellsAs_52 ⟨Nat.le_refl _, Nat.le_refl _⟩) hA hS (fun r_19 f_16 L_17 Q_18 H locs hq hP hS => ?_)
  obtain ⟨⟨hI, hk_f_16, eL9, eQ9⟩, hq, p_20, u_21⟩ := hq
  rw [eL9, eQ9] at hP; clear eL9 eQ9
  have hF : sgK WkX12_tellsAs_4_f0_f4 f f_16 := sgK.tr hF hk_f_16 (by decide +kernel)
  obtain ⟨v_22, ev_22⟩ : ∃ z : Int32, z = f_16 0 48 := ⟨_, rfl⟩
  have q_23 : 0 ≤ v_22.toInt ∧ v_22.toInt ≤ 19 := by rw [ev_22]; exact hI 0 48
  have q_24 : (f_16 0 48).toInt = v_22.toInt := (congrArg Int32.toInt (show f_16 0 48 = v_22 from ev_22.symm))
  have k_26 : (4 : Int32).toInt = 4 := by decide
  refine lv_istore_n (lv' := [(3, .int r_19), (0, .ref (h 0)), (1, .int 4), (2, .int x1)]) hx hb dX12_tellsAs_55 rfl hl (by decide) rfl (fun ls hl => ?_)
  refine lv_iload_n hx hb dX12_tellsAs_56 rfl (lv_at hl 0 rfl) ?_
  refine lv_aload_n hx hb dX12_tellsAs_57 rfl (lv_at hl 1 rfl) ?_
  refine lv_aload_n hx hb dX12_tellsAs_58 rfl (lv_at hl 1 rfl) ?_
  refine sl_gM_0_49_12 (v := 4) hx hb hts hown hK hP (show f_16 0 49 = 4 from ((hk_f_16 0 49 (by decide)).trans ((hk_f_4 0 49 (by decide)).trans hf_0_49))) dX12_tellsAs_59 ?_
  refine lv_iconst (v := 1) hx hb dX12_tellsAs_62 ic_1 ?_
  have c_27 : v_22 = 4 := Int32.toInt_inj.mp (by have k9 : (4 : Int32).toInt = 4 := ti_4; omega)
  have q_28 : (f_16 0 48).toInt = 4 := (congrArg Int32.toInt (show f_16 0 48 = 4 from (Eq.trans ev_22.symm c_27))).trans (by decide)
  refine sg_calli (va_runV (As := [.int 4, .int 1]) (rest := [.int r_19]) ⟨hx, hb, hml, hown, hts⟩ (kX12_slipsAs_4_f4_f4 l D ca za h hh f_16 L Q hI 1 (Eq.trans ev_22.symm c_27) ((hk_f_16 0 49 (by decide)).trans ((hk_f_4 0 49 (by decide)).trans hf_0_49)) (by decide) (by have k0 : (4 : Int32).toInt = 4 := ti_4; have k1 : (1 : Int32).toInt = 1 := ti_1; omega) H.size) (sl_c12_slipsAs_3_0_0_65_12 hts ⟨Nat.le_of_ble_eq_true rfl, Nat.le_of_ble_eq_true rfl⟩) (sl_vM_0 hA hK hP hS hZ) rfl rfl hl.1 rfl (lv_room (Nat.le_of_ble_eq_true rfl)) dX12_tellsAs_63 ⟨Nat.le_refl _, Nat.le_refl _⟩) hA hS (fun r_33 f_30 L_31 Q_32 H locs hq hP hS => ?_)
  obtain ⟨⟨hI, hk_f_30, eL9, eQ9⟩, hq, p_34, u_35⟩ := hq
  rw [eL9, eQ9] at hP; clear eL9 eQ9
  have hF : sgK WkX12_tellsAs_4_f0_f4 f f_30 := sgK.tr hF hk_f_30 (by decide +kernel)
  obtain ⟨v_36, ev_36⟩ : ∃ z : Int32, z = f_30 0 48 := ⟨_, rfl⟩
  have q_37 : 0 ≤ v_36.toInt ∧ v_36.toInt ≤ 19 := by rw [ev_36]; exact hI 0 48
  have q_38 : (f_30 0 48).toInt = v_36.toInt := (congrArg Int32.toInt (show f_30 0 48 = v_36 from ev_36.symm))
  have k_40 : (4 : Int32).toInt = 4 := by decide
  have k_41 : (1 : Int32).toInt = 1 := by decide
  refine lv_isub hx hb dX12_tellsAs_66 ?_
  refine lv_topi (fun v_42 ev_42 => ?_)
  exact hret _ _ _ _ (v_42) f_30 L Q dX12_tellsAs_67 hP hS ⟨⟨hI, hF, rfl, rfl⟩, trivial, ⟨by omega, by omega⟩, (Eq.trans (Eq.symm (hs.trans ((spl_e u_8 (spl_e ev_9 (spl2_e u_21 (spl_e ev_22 (spl2_e u_35 (spl_e ev_36 (spl_e ev_42 rfl)))))))))) hsp)⟩

abbrev WkX12_begins_60_f0 : List (Nat × Nat × Option Nat) := [(0, 0, some 48), (21, 21, some 0)]
set_option maxHeartbeats 4000000 in
set_option maxRecDepth 100000 in
theorem kX12_begins_60_f0 (l : Launch) (D : va_G) (ca : Nat → ClassId) (za h : Nat → Nat) (hh : sgH 26 h) (f : sg_F) (L : sg_L) (Q : sg_Q) (hI : sgI loM hiM f) (hf_0_48 : f 0 48 = 0) (p0 : 0 ≤ (f 0 48).toInt ∧ (f 0 48).toInt ≤ 0) (sz : Nat) : Met l yX12_begins gwX12_begins { frames := 0, cells := 0, slots := 0, locals := 0 } (sgP D vwCl (tyX ca) 26 h (eM ca h) zcM za f L Q sz [.ref (h 0), .int 60]) (sgQv D vwCl 26 h (eM ca h) sz (fun f1 L1 Q1 => ((sgI loM hiM f1 ∧ sgK WkX12_begins_60_f0 f f1 ∧ L1 = L ∧ Q1 = Q) ∧ (1 ≤ (f1 0 48).toInt ∧ (f1 0 48).toInt ≤ 1) ∧ (f1) = sX12_begins_60_f0 f L))) 0 0 (sgA 26 h sz) := by
  refine sg_ofWv (cc := cX12_begins) (maxL := 2) RX12 (by decide) rfl rfl (Nat.le_of_ble_eq_true rfl) ?_
  intro p e s m below meth cd Qz ls hx hb hml hown hts hK hZ hP hS hl hret
  have hA := sgY.self (n := 26) (h := h) (sz := s.heap.size)
  have hl : lv_has ls 2 [(0, .ref (h 0)), (1, .int 60)] := hl
  obtain ⟨H, hH⟩ : ∃ z : Heap, z = s.heap := ⟨_, rfl⟩
  obtain ⟨locs, hlo⟩ : ∃ z : List Loc, z = [] := ⟨_, rfl⟩
  have hP : va_P D vwCl (sgw 26 h (eM ca h) f L Q) H := by rw [hH]; exact hP
  have hS : va_S (sgA 26 h s.heap.size) s.heap H locs := by rw [hH, hlo]; exact hS
  suffices hgo : W p l e ({ frames := 0, cells := 0, slots := 0, locals := 0 }) s m ([.ref (h 0), .int 60] : List Value).toArray below meth cd H locs 0 0 Qz (F0 m 0 ls []) by rw [hH, hlo] at hgo; exact hgo
  clear hH hlo
  obtain ⟨sp, hsp⟩ : ∃ z : sg_F, z = sX12_begins_60_f0 f L := ⟨_, rfl⟩
  have hs : sp = sX12_begins_60_f0 f L := hsp
  have o_1 : (f 0 48).toInt = 0 := (congrArg Int32.toInt (show f 0 48 = 0 from hf_0_48)).trans (by decide)
  have hF : sgK WkX12_begins_60_f0 f f := sgK.rf
  have blk_19 : ∀ (fp_19 : sg_F) (H : Heap) (locs : List Loc) (ls : Array Slot), sp = sX12_begins_60_f0_b19 fp_19 L → 0 ≤ (fp_19 0 48).toInt ∧ (fp_19 0 48).toInt ≤ 0 → sgI loM hiM fp_19 → sgK WkX12_begins_60_f0 f fp_19 → va_P D vwCl (sgw 26 h (eM ca h) fp_19 L Q) H → va_S (sgA 26 h s.heap.size) s.heap H locs → lv_has ls 2 [(0, .ref (h 0))] → W p l e ({ frames := 0, cells := 0, slots := 0, locals := 0 }) s m ([.ref (h 0), .int 60] : List Value).toArray below meth cd H locs 0 0 Qz (F0 m 19 ls []) := by
    intro fp_19 H locs ls hs hy0_19 hI hF hP hS hl
    obtain ⟨v_2, ev_2⟩ : ∃ z : Int32, z = fp_19 0 48 := ⟨_, rfl⟩
    have q_3 : 0 ≤ v_2.toInt ∧ v_2.toInt ≤ 19 := by rw [ev_2]; exact hI 0 48
    have q_4 : (fp_19 0 48).toInt = v_2.toInt := by rw [ev_2]
    refine lv_aload_n hx hb dX12_begins_19 rfl (lv_at hl 0 rfl) ?_
    refine lv_dup hx hb dX12_begins_20 rfl ?_
    refine sl_gM_0_48_12 (v := v_2) hx hb hts hown hK hP (show fp_19 0 48 = v_2 from ev_2.symm) dX12_begins_21 ?_
    refine lv_iconst (v := 1) hx hb dX12_begins_24 ic_1 ?_
    refine lv_iadd hx hb dX12_begins_25 ?_
    refine lv_topi (fun v_5 ev_5 => ?_)
    have q_6 : v_5.toInt = v_2.toInt + 1 := by rw [ev_5]; first | exact cm_add ti_1 (by omega) (by omega) | (have k1 : (1 : Int32).toInt = 1 := ti_1; exact (bn_addI (by omega) (by omega)).trans (by omega))
    refine sl_pM_0_48_12 (x := v_5) hx hb hts hown hh hA hK hP hS dX12_begins_26 (fun f_7 H locs ef_7 hP hS => ?_)
    have hI : sgI loM hiM f_7 := by rw [ef_7]; exact sgI.put hI 0 48 (show 0 ≤ (v_5 : Int32).toInt ∧ (v_5 : Int32).toInt ≤ 19 from ⟨by omega, by omega⟩)
    have hF : sgK WkX12_begins_60_f0 f f_7 := sgK.put hF ef_7 (by rfl)
    have q_8 : (f_7 0 48).toInt = v_5.toInt := (congrArg Int32.toInt (show f_7 0 48 = v_5 from (by rw [ef_7, sg_up_s, sgu_s])))
    exact hret _ _ _ _ f_7 L Q dX12_begins_29 hP hS ⟨⟨hI, hF, rfl, rfl⟩, ⟨by omega, by omega⟩, (Eq.trans (Eq.symm (hs.trans ((spl_e ev_2 (spl_e ev_5 (spl_e ef_7 rfl)))))) hsp)⟩
  refine lv_aload_n hx hb dX12_begins_0 rfl (lv_at hl 0 rfl) ?_
  refine sl_gM_0_48_12 (v := 0) hx hb hts hown hK hP (show f 0 48 = 0 from hf_0_48) dX12_begins_1 ?_
  refine lv_bipush (v := 24) hx hb dX12_begins_4 bp_24 ?_
  refine lv_icmp_ge (tgt := 19) hx hb dX12_begins_6 (by decide) (fun c => absurd c (by decide)) (fun c => ?_)
  refine lv_aload_n hx hb dX12_begins_9 rfl (lv_at hl 0 rfl) ?_
  refine sl_gM_0_47_12 hx hb hts hown hK hP dX12_begins_10 ?_
  refine lv_aload_n hx hb dX12_begins_13 rfl (lv_at hl 0 rfl) ?_
  refine sl_gM_0_48_12 (v := 0) hx hb hts hown hK hP (show f 0 48 = 0 from hf_0_48) dX12_begins_14 ?_
  refine lv_iload_n hx hb dX12_begins_17 rfl (lv_at hl 1 rfl) ?_
  refine sg_iast hx hb hh hA hK hP hS 21 (by decide) 0 (fun _ => rfl) rfl (i := 0) (x := 60) (vp_in_iff.mpr (by decide)) dX12_begins_18 (fun f_10 H locs ef_10 hP hS => ?_)
  have ef_10 : f_10 = sg_up f 21 (sgu (f 21) 0 60) := ef_10
  have hI : sgI loM hiM f_10 := by rw [ef_10]; exact sgI.put hI 21 0 (show 0 ≤ (60 : Int32).toInt ∧ (60 : Int32).toInt ≤ 81 from by decide)
  have hF : sgK WkX12_begins_60_f0 f f_10 := sgK.put hF ef_10 (by rfl)
  exact blk_19 f_10 _ _ _ (hs.trans ((spl_e ef_10 rfl))) (by have zz0_48 : (f_10 0 48).toInt = 0 := (congrArg Int32.toInt (show f_10 0 48 = 0 from (by rw [ef_10, sg_up_n (by decide)]; exact hf_0_48))).trans (by decide); exact ⟨by omega, by omega⟩) hI hF hP hS (lv_sub hl [0] rfl)
