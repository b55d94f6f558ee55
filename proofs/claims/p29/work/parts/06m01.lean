/-! contracts of any state. Laid by a program (wip/tool) -/
abbrev WkX12_undo : List (Nat × Nat × Option Nat) := [(0, 0, some 5), (1, 1, none)]
set_option maxHeartbeats 4000000 in
set_option maxRecDepth 100000 in
theorem kX12_undo (l : Launch) (D : va_G) (ca : Nat → ClassId) (za h : Nat → Nat) (hh : sgH 26 h) (f : sg_F) (L : sg_L) (Q : sg_Q) (hI : sgI loM hiM f) (hJ : JM f) (sz : Nat) : Met l yX12_undo gwX12_undo { frames := 0, cells := 0, slots := 0, locals := 0 } (sgP D vwCl (tyX ca) 26 h (eM ca h) zcM za f L Q sz [.ref (h 0)]) (sgQi D vwCl 26 h (eM ca h) sz (fun r f1 L1 Q1 => ((sgI loM hiM f1 ∧ sgK WkX12_undo f f1 ∧ L1 = L ∧ Q1 = Q ∧ JM f1) ∧ ((-5) ≤ r.toInt ∧ r.toInt ≤ 39) ∧ (r, f1) = sX12_undo f L))) 0 0 (sgA 26 h sz) := by
  refine sg_ofWi (cc := cX12_undo) (maxL := 1) RX12 (by decide) rfl rfl (Nat.le_of_ble_eq_true rfl) ?_
  intro p e s m below meth cd Qz ls hx hb hml hown hts hK hZ hP hS hl hret
  have hA := sgY.self (n := 26) (h := h) (sz := s.heap.size)
  have hl : lv_has ls 1 [(0, .ref (h 0))] := hl
  obtain ⟨H, hH⟩ : ∃ z : Heap, z = s.heap := ⟨_, rfl⟩
  obtain ⟨locs, hlo⟩ : ∃ z : List Loc, z = [] := ⟨_, rfl⟩
  have hP : va_P D vwCl (sgw 26 h (eM ca h) f L Q) H := by rw [hH]; exact hP
  have hS : va_S (sgA 26 h s.heap.size) s.heap H locs := by rw [hH, hlo]; exact hS
  suffices hgo : W p l e ({ frames := 0, cells := 0, slots := 0, locals := 0 }) s m ([.ref (h 0)] : List Value).toArray below meth cd H locs 0 0 Qz (F0 m 0 ls []) by rw [hH, hlo] at hgo; exact hgo
  clear hH hlo
  obtain ⟨sp, hsp⟩ : ∃ z : Int32 × sg_F, z = sX12_undo f L := ⟨_, rfl⟩
  have hs : sp = sX12_undo f L := hsp
  have hF : sgK WkX12_undo f f := sgK.rf
  refine lv_aload_n hx hb dX12_undo_0 rfl (lv_at hl 0 rfl) ?_
  refine sl_gM_0_5_12 (v := (f 0 5)) hx hb hts hown hK hP rfl dX12_undo_1 ?_
  refine lv_topi (fun v_1 ev_1 => ?_)
  replace hs := hs.trans (spl_e ev_1 rfl)
  have q_2 : 0 ≤ v_1.toInt ∧ v_1.toInt ≤ 40 := by rw [ev_1]; exact hI 0 5
  refine lv_if_ne (tgt := 10) hx hb dX12_undo_4 (by decide) (fun c => ?_) (fun c => ?_)
  · skip
    have c_3 : v_1.toInt ≠ 0 := (by first | exact (cm_ne1 ti_0 c) | (have z := bn_ne c; have k1 : (0 : Int32).toInt = 0 := ti_0; omega))
    refine lv_aload_n hx hb dX12_undo_10 rfl (lv_at hl 0 rfl) ?_
    refine lv_dup hx hb dX12_undo_11 rfl ?_
    refine sl_gM_0_5_12 (v := v_1) hx hb hts hown hK hP (show f 0 5 = v_1 from ev_1.symm) dX12_undo_12 ?_
    refine lv_iconst (v := 1) hx hb dX12_undo_15 ic_1 ?_
    refine lv_isub hx hb dX12_undo_16 ?_
    refine lv_topi (fun v_5 ev_5 => ?_)
    have q_6 : v_5.toInt = v_1.toInt - 1 := by rw [ev_5]; first | exact cm_sub ti_1 (by omega) (by omega) | (have k1 : (1 : Int32).toInt = 1 := ti_1; exact (bn_subI (by omega) (by omega)).trans (by omega))
    obtain ⟨v_8, ev_8⟩ : ∃ z : Int32, z = f 0 4 := ⟨_, rfl⟩
    have q_9 : 0 ≤ v_8.toInt ∧ v_8.toInt ≤ 40 := by rw [ev_8]; exact hI 0 4
    have z_7 : (f 0 5).toInt = v_1.toInt := (congrArg Int32.toInt (show f 0 5 = v_1 from ev_1.symm))
    have z_10 : (f 0 4).toInt = v_8.toInt := (congrArg Int32.toInt (show f 0 4 = v_8 from ev_8.symm))
    have zJ2 := hJ.2
    refine sl_pM_0_5_12 (x := v_5) hx hb hts hown hh hA hK hP hS dX12_undo_17 (fun f_11 H locs ef_11 hP hS => ?_)
    have hI : sgI loM hiM f_11 := by rw [ef_11]; exact sgI.put hI 0 5 (show 0 ≤ (v_5 : Int32).toInt ∧ (v_5 : Int32).toInt ≤ 40 from ⟨by omega, by omega⟩)
    have hJ : JM f_11 := JM.dn hJ ef_11 (by omega)
    have hF : sgK WkX12_undo f f_11 := sgK.put hF ef_11 (by rfl)
    refine lv_aload_n hx hb dX12_undo_20 rfl (lv_at hl 0 rfl) ?_
    refine sl_gM_0_0_12 hx hb hts hown hK hP dX12_undo_21 ?_
    refine lv_aload_n hx hb dX12_undo_24 rfl (lv_at hl 0 rfl) ?_
    refine sl_gM_0_1_12 hx hb hts hown hK hP dX12_undo_25 ?_
    refine lv_aload_n hx hb dX12_undo_28 rfl (lv_at hl 0 rfl) ?_
    refine sl_gM_0_5_12 (v := v_5) hx hb hts hown hK hP (show f_11 0 5 = v_5 from (by rw [ef_11, sg_up_s, sgu_s])) dX12_undo_29 ?_
    refine sg_iald hx hb hK hP 2 (by decide) 0 rfl rfl (i := v_5) (vp_in_iff.mpr ⟨by omega, by omega⟩) dX12_undo_32 ?_
    refine lv_topi (fun v_12 ev_12 => ?_)
    have q_13 : 0 ≤ v_12.toInt ∧ v_12.toInt ≤ 70 := by rw [ev_12]; exact hI 2 _
    have q_14 : (f_11 2 (Int32.toNatClampNeg v_5)).toInt = v_12.toInt := by rw [ev_12]
    refine lv_aload_n hx hb dX12_undo_33 rfl (lv_at hl 0 rfl) ?_
    refine sl_gM_0_2_12 hx hb hts hown hK hP dX12_undo_34 ?_
    refine lv_aload_n hx hb dX12_undo_37 rfl (lv_at hl 0 rfl) ?_
    refine sl_gM_0_5_12 (v := v_5) hx hb hts hown hK hP (show f_11 0 5 = v_5 from (by rw [ef_11, sg_up_s, sgu_s])) dX12_undo_38 ?_
    refine sg_iald hx hb hK hP 3 (by decide) 0 rfl rfl (i := v_5) (vp_in_iff.mpr ⟨by omega, by omega⟩) dX12_undo_41 ?_
    refine lv_topi (fun v_15 ev_15 => ?_)
    have q_16 : 0 ≤ v_15.toInt ∧ v_15.toInt ≤ 99 := by rw [ev_15]; exact hI 3 _
    have q_17 : (f_11 3 (Int32.toNatClampNeg v_5)).toInt = v_15.toInt := by rw [ev_15]
    have zJ := hJ.1 (Int32.toNatClampNeg v_5)
    refine sg_iast hx hb hh hA hK hP hS 1 (by decide) 0 (fun _ => rfl) rfl (i := v_12) (x := v_15) (vp_in_iff.mpr ⟨by omega, by omega⟩) dX12_undo_42 (fun f_18 H locs ef_18 hP hS => ?_)
    have hI : sgI loM hiM f_18 := by rw [ef_18]; exact sgI.put hI 1 v_12.toNatClampNeg (segM1_w v_15 (by have z := bn_clI (x := v_12) (by omega); omega))
    have hJ : JM f_18 := JM.put hJ ef_18 (by decide)
    have hF : sgK WkX12_undo f f_18 := sgK.put hF ef_18 (by rfl)
    refine lv_aload_n hx hb dX12_undo_43 rfl (lv_at hl 0 rfl) ?_
    refine sl_gM_0_5_12 (v := v_5) hx hb hts hown hK hP (show f_18 0 5 = v_5 from (by rw [ef_18, sg_up_n (by decide)]; exact (by rw [ef_11, sg_up_s, sgu_s]))) dX12_undo_44 ?_
    exact hret _ _ _ _ (v_5) f_18 L Q dX12_undo_47 hP hS ⟨⟨hI, hF, rfl, rfl, hJ⟩, ⟨by omega, by omega⟩, (Eq.trans (Eq.symm (hs.trans ((if_neg c_3).trans (spl_e ev_5 (spl_e ev_8 (spl_e ef_11 (spl_e ev_12 (spl_e ev_15 (spl_e ef_18 rfl))))))))) hsp)⟩
  · skip
    have c_4 : v_1.toInt = 0 := (by first | exact (cm_eq1 ti_0 c) | (have z := Int32.toInt_inj.mpr c; have k1 : (0 : Int32).toInt = 0 := ti_0; omega))
    refine lv_bipush (v := (-5)) hx hb dX12_undo_7 bp_m5 ?_
    have k99 : ((-5) : Int32).toInt = (-5) := ti_m5
    exact hret _ _ _ _ (-5) f L Q dX12_undo_9 hP hS ⟨⟨hI, hF, rfl, rfl, hJ⟩, (by decide), (Eq.trans (Eq.symm (hs.trans ((if_pos c_4).trans rfl))) hsp)⟩

abbrev WkX12_redo : List (Nat × Nat × Option Nat) := [(0, 0, some 5), (1, 1, none)]
set_option maxHeartbeats 4000000 in
set_option maxRecDepth 100000 in
theorem kX12_redo (l : Launch) (D : va_G) (ca : Nat → ClassId) (za h : Nat → Nat) (hh : sgH 26 h) (f : sg_F) (L : sg_L) (Q : sg_Q) (hI : sgI loM hiM f) (hJ : JM f) (sz : Nat) : Met l yX12_redo gwX12_redo { frames := 0, cells := 0, slots := 0, locals := 0 } (sgP D vwCl (tyX ca) 26 h (eM ca h) zcM za f L Q sz [.ref (h 0)]) (sgQi D vwCl 26 h (eM ca h) sz (fun r f1 L1 Q1 => ((sgI loM hiM f1 ∧ sgK WkX12_redo f f1 ∧ L1 = L ∧ Q1 = Q ∧ JM f1) ∧ ((-41) ≤ r.toInt ∧ r.toInt ≤ 39) ∧ (r, f1) = sX12_redo f L))) 0 0 (sgA 26 h sz) := by
  refine sg_ofWi (cc := cX12_redo) (maxL := 1) RX12 (by decide) rfl rfl (Nat.le_of_ble_eq_true rfl) ?_
  intro p e s m below meth cd Qz ls hx hb hml hown hts hK hZ hP hS hl hret
  have hA := sgY.self (n := 26) (h := h) (sz := s.heap.size)
  have hl : lv_has ls 1 [(0, .ref (h 0))] := hl
  obtain ⟨H, hH⟩ : ∃ z : Heap, z = s.heap := ⟨_, rfl⟩
  obtain ⟨locs, hlo⟩ : ∃ z : List Loc, z = [] := ⟨_, rfl⟩
  have hP : va_P D vwCl (sgw 26 h (eM ca h) f L Q) H := by rw [hH]; exact hP
  have hS : va_S (sgA 26 h s.heap.size) s.heap H locs := by rw [hH, hlo]; exact hS
  suffices hgo : W p l e ({ frames := 0, cells := 0, slots := 0, locals := 0 }) s m ([.ref (h 0)] : List Value).toArray below meth cd H locs 0 0 Qz (F0 m 0 ls []) by rw [hH, hlo] at hgo; exact hgo
  clear hH hlo
  obtain ⟨sp, hsp⟩ : ∃ z : Int32 × sg_F, z = sX12_redo f L := ⟨_, rfl⟩
  have hs : sp = sX12_redo f L := hsp
  have hF : sgK WkX12_redo f f := sgK.rf
  refine lv_aload_n hx hb dX12_redo_0 rfl (lv_at hl 0 rfl) ?_
  refine sl_gM_0_5_12 (v := (f 0 5)) hx hb hts hown hK hP rfl dX12_redo_1 ?_
  refine lv_topi (fun v_1 ev_1 => ?_)
  have q_2 : 0 ≤ v_1.toInt ∧ v_1.toInt ≤ 40 := by rw [ev_1]; exact hI 0 5
  refine lv_aload_n hx hb dX12_redo_4 rfl (lv_at hl 0 rfl) ?_
  refine sl_gM_0_4_12 (v := (f 0 4)) hx hb hts hown hK hP rfl dX12_redo_5 ?_
  refine lv_topi (fun v_3 ev_3 => ?_)
  replace hs := hs.trans (spl_e ev_1 (spl_e ev_3 rfl))
  have q_4 : 0 ≤ v_3.toInt ∧ v_3.toInt ≤ 40 := by rw [ev_3]; exact hI 0 4
  refine lv_icmp_ne (tgt := 14) hx hb dX12_redo_8 (by decide) (fun c => ?_) (fun c => ?_)
  · skip
    have c_5 : v_1.toInt ≠ v_3.toInt := (by first | exact (bn_ne c) | (have z := bn_ne c; omega))
    refine lv_aload_n hx hb dX12_redo_14 rfl (lv_at hl 0 rfl) ?_
    refine sl_gM_0_0_12 hx hb hts hown hK hP dX12_redo_15 ?_
    refine lv_aload_n hx hb dX12_redo_18 rfl (lv_at hl 0 rfl) ?_
    refine sl_gM_0_1_12 hx hb hts hown hK hP dX12_redo_19 ?_
    refine lv_aload_n hx hb dX12_redo_22 rfl (lv_at hl 0 rfl) ?_
    refine sl_gM_0_5_12 (v := v_1) hx hb hts hown hK hP (show f 0 5 = v_1 from ev_1.symm) dX12_redo_23 ?_
    have z_7 : (f 0 5).toInt = v_1.toInt := (congrArg Int32.toInt (show f 0 5 = v_1 from ev_1.symm))
    have z_8 : (f 0 4).toInt = v_3.toInt := (congrArg Int32.toInt (show f 0 4 = v_3 from ev_3.symm))
    have zJ2 := hJ.2
    refine sg_iald hx hb hK hP 2 (by decide) 0 rfl rfl (i := v_1) (vp_in_iff.mpr ⟨by omega, by omega⟩) dX12_redo_26 ?_
    refine lv_topi (fun v_9 ev_9 => ?_)
    have q_10 : 0 ≤ v_9.toInt ∧ v_9.toInt ≤ 70 := by rw [ev_9]; exact hI 2 _
    have q_11 : (f 2 (Int32.toNatClampNeg v_1)).toInt = v_9.toInt := by rw [ev_9]
    refine lv_aload_n hx hb dX12_redo_27 rfl (lv_at hl 0 rfl) ?_
    refine sl_gM_0_3_12 hx hb hts hown hK hP dX12_redo_28 ?_
    refine lv_aload_n hx hb dX12_redo_31 rfl (lv_at hl 0 rfl) ?_
    refine sl_gM_0_5_12 (v := v_1) hx hb hts hown hK hP (show f 0 5 = v_1 from ev_1.symm) dX12_redo_32 ?_
    refine sg_iald hx hb hK hP 4 (by decide) 0 rfl rfl (i := v_1) (vp_in_iff.mpr ⟨by omega, by omega⟩) dX12_redo_35 ?_
    refine lv_topi (fun v_12 ev_12 => ?_)
    have q_13 : 0 ≤ v_12.toInt ∧ v_12.toInt ≤ 99 := by rw [ev_12]; exact hI 4 _
    have q_14 : (f 4 (Int32.toNatClampNeg v_1)).toInt = v_12.toInt := by rw [ev_12]
    have zJ := hJ.1 (Int32.toNatClampNeg v_1)
    refine sg_iast hx hb hh hA hK hP hS 1 (by decide) 0 (fun _ => rfl) rfl (i := v_9) (x := v_12) (vp_in_iff.mpr ⟨by omega, by omega⟩) dX12_redo_36 (fun f_15 H locs ef_15 hP hS => ?_)
    have hI : sgI loM hiM f_15 := by rw [ef_15]; exact sgI.put hI 1 v_9.toNatClampNeg (segM1_w v_12 (by have z := bn_clI (x := v_9) (by omega); omega))
    have hJ : JM f_15 := JM.put hJ ef_15 (by decide)
    have hF : sgK WkX12_redo f f_15 := sgK.put hF ef_15 (by rfl)
    refine lv_aload_n hx hb dX12_redo_37 rfl (lv_at hl 0 rfl) ?_
    refine lv_dup hx hb dX12_redo_38 rfl ?_
    refine sl_gM_0_5_12 (v := v_1) hx hb hts hown hK hP (show f_15 0 5 = v_1 from (by rw [ef_15, sg_up_n (by decide)]; exact ev_1.symm)) dX12_redo_39 ?_
    refine lv_iconst (v := 1) hx hb dX12_redo_42 ic_1 ?_
    refine lv_iadd hx hb dX12_redo_43 ?_
    refine lv_topi (fun v_16 ev_16 => ?_)
    have q_17 : v_16.toInt = v_1.toInt + 1 := by rw [ev_16]; first | exact cm_add ti_1 (by omega) (by omega) | (have k1 : (1 : Int32).toInt = 1 := ti_1; exact (bn_addI (by omega) (by omega)).trans (by omega))
    have z_18 : (f_15 0 5).toInt = v_1.toInt := (congrArg Int32.toInt (show f_15 0 5 = v_1 from (by rw [ef_15, sg_up_n (by decide)]; exact ev_1.symm)))
    have z_19 : (f_15 0 4).toInt = v_3.toInt := (congrArg Int32.toInt (show f_15 0 4 = v_3 from (by rw [ef_15, sg_up_n (by decide)]; exact ev_3.symm)))
    have zJ2 := hJ.2
    refine sl_pM_0_5_12 (x := v_16) hx hb hts hown hh hA hK hP hS dX12_redo_44 (fun f_20 H locs ef_20 hP hS => ?_)
    have hI : sgI loM hiM f_20 := by rw [ef_20]; exact sgI.put hI 0 5 (show 0 ≤ (v_16 : Int32).toInt ∧ (v_16 : Int32).toInt ≤ 40 from ⟨by omega, by omega⟩)
    have hJ : JM f_20 := JM.dn hJ ef_20 (by omega)
    have hF : sgK WkX12_redo f f_20 := sgK.put hF ef_20 (by rfl)
    refine lv_aload_n hx hb dX12_redo_47 rfl (lv_at hl 0 rfl) ?_
    refine sl_gM_0_4_12 (v := v_3) hx hb hts hown hK hP (show f_20 0 4 = v_3 from (by rw [ef_20, sg_up_s, sgu_n (by decide)]; exact (by rw [ef_15, sg_up_n (by decide)]; exact ev_3.symm))) dX12_redo_48 ?_
    refine lv_aload_n hx hb dX12_redo_51 rfl (lv_at hl 0 rfl) ?_
    refine sl_gM_0_5_12 (v := v_16) hx hb hts hown hK hP (show f_20 0 5 = v_16 from (by rw [ef_20, sg_up_s, sgu_s])) dX12_redo_52 ?_
    refine lv_isub hx hb dX12_redo_55 ?_
    refine lv_topi (fun v_21 ev_21 => ?_)
    have q_22 : v_21.toInt = v_3.toInt - v_16.toInt := by rw [ev_21]; first | exact bn_subI (by omega) (by omega) | exact (bn_subI (by omega) (by omega)).trans (by omega)
    exact hret _ _ _ _ (v_21) f_20 L Q dX12_redo_56 hP hS ⟨⟨hI, hF, rfl, rfl, hJ⟩, ⟨by omega, by omega⟩, (Eq.trans (Eq.symm (hs.trans ((if_neg c_5).trans (spl_e ev_9 (spl_e ev_12 (spl_e ef_15 (spl_e ev_16 (spl_e ef_20 (spl_e ev_21 rfl))))))))) hsp)⟩
  · skip
    have c_6 : v_1.toInt = v_3.toInt := (by first | exact (Int32.toInt_inj.mpr c) | (have z := Int32.toInt_inj.mpr c; omega))
    refine lv_bipush (v := (-5)) hx hb dX12_redo_11 bp_m5 ?_
    have k99 : ((-5) : Int32).toInt = (-5) := ti_m5
    exact hret _ _ _ _ (-5) f L Q dX12_redo_13 hP hS ⟨⟨hI, hF, rfl, rfl, hJ⟩, (by decide), (Eq.trans (Eq.symm (hs.trans ((if_pos c_6).trans rfl))) hsp)⟩

set_option maxHeartbeats 4000000 in
set_option maxRecDepth 100000 in
theorem kX12_within (l : Launch) (D : va_G) (ca : Nat → ClassId) (za h : Nat → Nat) (hh : sgH 26 h) (f : sg_F) (L : sg_L) (Q : sg_Q) (hI : sgI loM hiM f) (x0 : Int64) (x1 : Int64) (x2 : Int64) (sz : Nat) : Met l yX12_within gwX12_within { frames := 0, cells := 0, slots := 0, locals := 0 } (sgP D vwCl (tyX ca) 26 h (eM ca h) zcM za f L Q sz [.long x0, .long x1, .long x2]) (sgQi D vwCl 26 h (eM ca h) sz (fun r f1 L1 Q1 => ((f1 = f ∧ L1 = L ∧ Q1 = Q) ∧ ((r = 1 ∧ (x1.toInt ≤ x0.toInt ∧ x0.toInt ≤ x2.toInt)) ∨ (r = 0 ∧ (¬ (x1.toInt ≤ x0.toInt ∧ x0.toInt ≤ x2.toInt)))) ∧ (r) = sX12_within x0 x1 x2 f L))) 0 0 (sgA 26 h sz) := by
  refine sg_ofWz (cc := cX12_within) (maxL := 6) RX12 (by decide) rfl rfl (Nat.le_of_ble_eq_true rfl) ?_
  intro p e s m below meth cd Qz ls hx hb hml hown hts hK hZ hP hS hl hret
  have hA := sgY.self (n := 26) (h := h) (sz := s.heap.size)
  have hl : lv_has ls 6 [(0, .long x0), (2, .long x1), (4, .long x2)] := hl
  obtain ⟨H, hH⟩ : ∃ z : Heap, z = s.heap := ⟨_, rfl⟩
  obtain ⟨locs, hlo⟩ : ∃ z : List Loc, z = [] := ⟨_, rfl⟩
  have hP : va_P D vwCl (sgw 26 h (eM ca h) f L Q) H := by rw [hH]; exact hP
  have hS : va_S (sgA 26 h s.heap.size) s.heap H locs := by rw [hH, hlo]; exact hS
  suffices hgo : W p l e ({ frames := 0, cells := 0, slots := 0, locals := 0 }) s m ([.long x0, .long x1, .long x2] : List Value).toArray below meth cd H locs 0 0 Qz (F0 m 0 ls []) by rw [hH, hlo] at hgo; exact hgo
  clear hH hlo
  obtain ⟨sp, hsp⟩ : ∃ z : Int32, z = sX12_within x0 x1 x2 f L := ⟨_, rfl⟩
  have hs : sp = sX12_within x0 x1 x2 f L := hsp
  refine lv_lload_n hx hb dX12_within_0 rfl (lv_at hl 0 rfl) ?_
  refine lv_lload_n hx hb dX12_within_1 rfl (lv_at hl 1 rfl) ?_
  refine W.lcmp hx hb dX12_within_2 ?_
  refine lv_topi (fun v_1 ev_1 => ?_)
  replace hs := hs.trans (spl_e ev_1 rfl)
  have q_2 : (v_1.toInt = -1 ∧ x0.toInt < x1.toInt) ∨ (v_1.toInt = 0 ∧ x0.toInt = x1.toInt) ∨ (v_1.toInt = 1 ∧ x1.toInt < x0.toInt) := by rw [ev_1]; exact bn_lcmpI (x0 : Int64) (x1 : Int64)
  refine lv_if_lt (tgt := 17) hx hb dX12_within_3 (by decide) (fun c => ?_) (fun c => ?_)
  · skip
    have c_3 : v_1.toInt < 0 := (by first | exact (cm_lt1 ti_0 c) | (have z := bn_lt c; have k1 : (0 : Int32).toInt = 0 := ti_0; omega))
    refine lv_iconst (v := 0) hx hb dX12_within_17 ic_0 ?_
    have k99 : (0 : Int32).toInt = 0 := ti_0
    exact hret _ _ _ _ (0) f L Q dX12_within_18 (by decide) hP hS ⟨⟨rfl, rfl, rfl⟩, Or.inr (⟨rfl, by omega⟩), (Eq.trans (Eq.symm (hs.trans ((if_pos c_3).trans rfl))) hsp)⟩
  · skip
    have c_4 : 0 ≤ v_1.toInt := (by first | exact (cm_nlt1 ti_0 c) | (have z := bn_nlt c; have k1 : (0 : Int32).toInt = 0 := ti_0; omega))
    refine lv_lload_n hx hb dX12_within_6 rfl (lv_at hl 0 rfl) ?_
    refine lv_lload hx hb dX12_within_7 (lv_at hl 2 rfl) ?_
    refine W.lcmp hx hb dX12_within_9 ?_
    refine lv_topi (fun v_5 ev_5 => ?_)
    replace hs := hs.trans ((if_neg (Int.not_lt.mpr c_4)).trans (spl_e ev_5 rfl))
    have q_6 : (v_5.toInt = -1 ∧ x0.toInt < x2.toInt) ∨ (v_5.toInt = 0 ∧ x0.toInt = x2.toInt) ∨ (v_5.toInt = 1 ∧ x2.toInt < x0.toInt) := by rw [ev_5]; exact bn_lcmpI (x0 : Int64) (x2 : Int64)
    refine lv_if_gt (tgt := 17) hx hb dX12_within_10 (by decide) (fun c => ?_) (fun c => ?_)
    · skip
      have c_7 : 0 < v_5.toInt := (by first | exact (cm_lt0 ti_0 c) | (have z := bn_lt c; have k1 : (0 : Int32).toInt = 0 := ti_0; omega))
      refine lv_iconst (v := 0) hx hb dX12_within_17 ic_0 ?_
      have k99 : (0 : Int32).toInt = 0 := ti_0
      exact hret _ _ _ _ (0) f L Q dX12_within_18 (by decide) hP hS ⟨⟨rfl, rfl, rfl⟩, Or.inr (⟨rfl, by omega⟩), (Eq.trans (Eq.symm (hs.trans ((if_pos c_7).trans rfl))) hsp)⟩
    · skip
      have c_8 : v_5.toInt ≤ 0 := (by first | exact (cm_nlt0 ti_0 c) | (have z := bn_nlt c; have k1 : (0 : Int32).toInt = 0 := ti_0; omega))
      refine lv_iconst (v := 1) hx hb dX12_within_13 ic_1 ?_
      refine lv_goto (tgt := 18) hx hb dX12_within_14 (by decide) ?_
      have k99 : (1 : Int32).toInt = 1 := ti_1
      exact hret _ _ _ _ (1) f L Q dX12_within_18 (by decide) hP hS ⟨⟨rfl, rfl, rfl⟩, Or.inl ⟨rfl, by omega⟩, (Eq.trans (Eq.symm (hs.trans ((if_neg (Int.not_lt.mpr c_8)).trans rfl))) hsp)⟩

set_option maxHeartbeats 4000000 in
set_option maxRecDepth 100000 in
theorem kX12_isSetting (l : Launch) (D : va_G) (ca : Nat → ClassId) (za h : Nat → Nat) (hh : sgH 26 h) (f : sg_F) (L : sg_L) (Q : sg_Q) (hI : sgI loM hiM f) (x0 : Int64) (sz : Nat) : Met l yX12_isSetting gwX12_isSetting { frames := 1, cells := 0, slots := 0, locals := 25 } (sgP D vwCl (tyX ca) 26 h (eM ca h) zcM za f L Q sz [.long x0]) (sgQi D vwCl 26 h (eM ca h) sz (fun r f1 L1 Q1 => ((f1 = f ∧ L1 = L ∧ Q1 = Q) ∧ ((r = 1 ∧ (0 ≤ x0.toInt ∧ x0.toInt ≤ 60)) ∨ (r = 0 ∧ (¬ (0 ≤ x0.toInt ∧ x0.toInt ≤ 60)))) ∧ (r) = sX12_isSetting x0 f L))) 0 0 (sgA 26 h sz) := by
  refine sg_ofWz (cc := cX12_isSetting) (maxL := 2) RX12 (by decide) rfl rfl (Nat.le_of_ble_eq_true rfl) ?_
  intro p e s m below meth cd Qz ls hx hb hml hown hts hK hZ hP hS hl hret
  have hA := sgY.self (n := 26) (h := h) (sz := s.heap.size)
  have hl : lv_has ls 2 [(0, .long x0)] := hl
  obtain ⟨H, hH⟩ : ∃ z : Heap, z = s.heap := ⟨_, rfl⟩
  obtain ⟨locs, hlo⟩ : ∃ z : List Loc, z = [] := ⟨_, rfl⟩
  have hP : va_P D vwCl (sgw 26 h (eM ca h) f L Q) H := by rw [hH]; exact hP
  have hS : va_S (sgA 26 h s.heap.size) s.heap H locs := by rw [hH, hlo]; exact hS
  suffices hgo : W p l e ({ frames := 1, cells := 0, slots := 0, locals := 25 }) s m ([.long x0] : List Value).toArray below meth cd H locs 0 0 Qz (F0 m 0 ls []) by rw [hH, hlo] at hgo; exact hgo
  clear hH hlo
  obtain ⟨sp, hsp⟩ : ∃ z : Int32, z = sX12_isSetting x0 f L := ⟨_, rfl⟩
  have hs : sp = sX12_isSetting x0 f L := hsp
  refine lv_lload_n hx hb dX12_isSetting_0 rfl (lv_at hl 0 rfl) ?_
  refine lv_lconst (v := 0) hx hb dX12_isSetting_1 (by decide) ?_
  refine lv_ldc2 (v := 60) hx hb hown (hts _ (List.mem_cons_of_mem _ mw_639)) dX12_isSetting_2 ?_
  refine sg_calli (va_runS (As := [.long x0, .long 0, .long 60]) (rest := []) ⟨hx, hb, hml, hown, hts⟩ (kX12_within l D ca za h hh f L Q hI x0 0 60 H.size) (va_cwS 3 hts (gw_S (fun _ h => List.mem_cons_of_mem _ h) mw_631 mw_632 mw_619 mw_630) rfl rfl rfl hd_yX12_within.2 ⟨Nat.le_of_ble_eq_true rfl, Nat.le_of_ble_eq_true rfl⟩) (sg_preS hA hK hP hS hZ) rfl rfl hl.1 rfl (lv_room (Nat.le_of_ble_eq_true rfl)) dX12_isSetting_5 ⟨Nat.le_refl _, Nat.le_refl _⟩) hA hS (fun r_4 f_1 L_2 Q_3 H locs hq hP hS => ?_)
  obtain ⟨⟨ef9, eL9, eQ9⟩, hq, u_5⟩ := hq
  replace hs := hs.trans (spl_e u_5 rfl)
  rw [ef9, eL9, eQ9] at hP; clear ef9 eL9 eQ9
  have k_6 : (0 : Int64).toInt = 0 := by decide
  have k_7 : (60 : Int64).toInt = 60 := by decide
  rcases hq with ⟨rfl, hq⟩ | ⟨rfl, hq⟩
  · skip
    have hc_8 := hq
    have k99 : (1 : Int32).toInt = 1 := ti_1
    exact hret _ _ _ _ (1) f L Q dX12_isSetting_8 (by decide) hP hS ⟨⟨rfl, rfl, rfl⟩, Or.inl ⟨rfl, by omega⟩, (Eq.trans (Eq.symm (hs.trans ((if_pos rfl).trans rfl))) hsp)⟩
  · skip
    have hc_8 := hq
    have k99 : (0 : Int32).toInt = 0 := ti_0
    exact hret _ _ _ _ (0) f L Q dX12_isSetting_8 (by decide) hP hS ⟨⟨rfl, rfl, rfl⟩, Or.inr (⟨rfl, by omega⟩), (Eq.trans (Eq.symm (hs.trans ((if_neg (by decide)).trans rfl))) hsp)⟩

abbrev WkX12_adds : List (Nat × Nat × Option Nat) := [(0, 0, some 6), (1, 1, none)]
set_option maxHeartbeats 4000000 in
set_option maxRecDepth 100000 in
theorem kX12_adds (l : Launch) (D : va_G) (ca : Nat → ClassId) (za h : Nat → Nat) (hh : sgH 26 h) (f : sg_F) (L : sg_L) (Q : sg_Q) (hI : sgI loM hiM f) (x0 : Int32) (x1 : Int32) (x2 : Int32) (x3 : Int32) (b0 : 0 ≤ x0.toInt ∧ x0.toInt ≤ 60) (b1 : 0 ≤ x1.toInt ∧ x1.toInt ≤ 60) (b2 : 0 ≤ x2.toInt ∧ x2.toInt ≤ 60) (b3 : 1 ≤ x3.toInt ∧ x3.toInt ≤ 12) (p0 : 0 ≤ (f 0 6).toInt ∧ (f 0 6).toInt ≤ 7) (sz : Nat) : Met l yX12_adds gwX12_adds { frames := 0, cells := 0, slots := 0, locals := 0 } (sgP D vwCl (tyX ca) 26 h (eM ca h) zcM za f L Q sz [.ref (h 0), .int x0, .int x1, .int x2, .int x3]) (sgQv D vwCl 26 h (eM ca h) sz (fun f1 L1 Q1 => ((sgI loM hiM f1 ∧ sgK WkX12_adds f f1 ∧ L1 = L ∧ Q1 = Q) ∧ (f1) = sX12_adds x0 x1 x2 x3 f L))) 0 0 (sgA 26 h sz) := by
  refine sg_ofWv (cc := cX12_adds) (maxL := 6) RX12 (by decide) rfl rfl (Nat.le_of_ble_eq_true rfl) ?_
  intro p e s m below meth cd Qz ls hx hb hml hown hts hK hZ hP hS hl hret
  have hA := sgY.self (n := 26) (h := h) (sz := s.heap.size)
  have hl : lv_has ls 6 [(0, .ref (h 0)), (1, .int x0), (2, .int x1), (3, .int x2), (4, .int x3)] := hl
  obtain ⟨H, hH⟩ : ∃ z : Heap, z = s.heap := ⟨_, rfl⟩
  obtain ⟨locs, hlo⟩ : ∃ z : List Loc, z = [] := ⟨_, rfl⟩
  have hP : va_P D vwCl (sgw 26 h (eM ca h) f L Q) H := by rw [hH]; exact hP
  have hS : va_S (sgA 26 h s.heap.size) s.heap H locs := by rw [hH, hlo]; exact hS
  suffices hgo : W p l e ({ frames := 0, cells := 0, slots := 0, locals := 0 }) s m ([.ref (h 0), .int x0, .int x1, .int x2, .int x3] : List Value).toArray below meth cd H locs 0 0 Qz (F0 m 0 ls []) by rw [hH, hlo] at hgo; exact hgo
  clear hH hlo
  obtain ⟨sp, hsp⟩ : ∃ z : sg_F, z = sX12_adds x0 x1 x2 x3 f L := ⟨_, rfl⟩
  have hs : sp = sX12_adds x0 x1 x2 x3 f L := hsp
  obtain ⟨v_1, ev_1⟩ : ∃ z : Int32, z = f 0 6 := ⟨_, rfl⟩
  have q_2 : 0 ≤ v_1.toInt ∧ v_1.toInt ≤ 8 := by rw [ev_1]; exact hI 0 6
  have o_3 : (f 0 6).toInt = v_1.toInt := (congrArg Int32.toInt (show f 0 6 = v_1 from ev_1.symm))
  have hF : sgK WkX12_adds f f := sgK.rf
  refine lv_aload_n hx hb dX12_adds_0 rfl (lv_at hl 0 rfl) ?_
  refine sl_gM_0_6_12 (v := v_1) hx hb hts hown hK hP (show f 0 6 = v_1 from ev_1.symm) dX12_adds_1 ?_
  refine lv_istore (lv' := [(5, .int v_1), (0, .ref (h 0)), (1, .int x0), (2, .int x1), (3, .int x2), (4, .int x3)]) hx hb dX12_adds_4 hl (by decide) rfl (fun ls hl => ?_)
  refine lv_aload_n hx hb dX12_adds_6 rfl (lv_at hl 1 rfl) ?_
  refine sl_gM_0_0_12 hx hb hts hown hK hP dX12_adds_7 ?_
  refine lv_iload hx hb dX12_adds_10 (lv_at hl 0 rfl) ?_
  refine lv_iload_n hx hb dX12_adds_12 rfl (lv_at hl 2 rfl) ?_
  refine sg_iast hx hb hh hA hK hP hS 1 (by decide) 0 (fun _ => rfl) rfl (i := v_1) (x := x0) (vp_in_iff.mpr ⟨by omega, by omega⟩) dX12_adds_13 (fun f_4 H locs ef_4 hP hS => ?_)
  have hI : sgI loM hiM f_4 := by rw [ef_4]; exact sgI.put hI 1 v_1.toNatClampNeg (segM1_w x0 (by have z := bn_clI (x := v_1) (by omega); omega))
  have hF : sgK WkX12_adds f f_4 := sgK.put hF ef_4 (by rfl)
  refine lv_aload_n hx hb dX12_adds_14 rfl (lv_at hl 1 rfl) ?_
  refine sl_gM_0_0_12 hx hb hts hown hK hP dX12_adds_15 ?_
  refine lv_bipush (v := 8) hx hb dX12_adds_18 bp_8 ?_
  refine lv_iload hx hb dX12_adds_20 (lv_at hl 0 rfl) ?_
  refine lv_iadd hx hb dX12_adds_22 ?_
  refine lv_topi (fun v_5 ev_5 => ?_)
  have q_6 : v_5.toInt = 8 + v_1.toInt := by rw [ev_5]; have k0 : (8 : Int32).toInt = 8 := ti_8; exact (bn_addI (by omega) (by omega)).trans (by omega)
  refine lv_iload_n hx hb dX12_adds_23 rfl (lv_at hl 3 rfl) ?_
  refine sg_iast hx hb hh hA hK hP hS 1 (by decide) 0 (fun _ => rfl) rfl (i := v_5) (x := x1) (vp_in_iff.mpr ⟨by omega, by omega⟩) dX12_adds_24 (fun f_7 H locs ef_7 hP hS => ?_)
  have hI : sgI loM hiM f_7 := by rw [ef_7]; exact sgI.put hI 1 v_5.toNatClampNeg (segM1_w x1 (by have z := bn_clI (x := v_5) (by omega); omega))
  have hF : sgK WkX12_adds f f_7 := sgK.put hF ef_7 (by rfl)
  refine lv_aload_n hx hb dX12_adds_25 rfl (lv_at hl 1 rfl) ?_
  refine sl_gM_0_0_12 hx hb hts hown hK hP dX12_adds_26 ?_
  refine lv_bipush (v := 16) hx hb dX12_adds_29 bp_16 ?_
  refine lv_iload hx hb dX12_adds_31 (lv_at hl 0 rfl) ?_
  refine lv_iadd hx hb dX12_adds_33 ?_
  refine lv_topi (fun v_8 ev_8 => ?_)
  have q_9 : v_8.toInt = 16 + v_1.toInt := by rw [ev_8]; have k0 : (16 : Int32).toInt = 16 := ti_16; exact (bn_addI (by omega) (by omega)).trans (by omega)
  refine lv_iload_n hx hb dX12_adds_34 rfl (lv_at hl 4 rfl) ?_
  refine sg_iast hx hb hh hA hK hP hS 1 (by decide) 0 (fun _ => rfl) rfl (i := v_8) (x := x2) (vp_in_iff.mpr ⟨by omega, by omega⟩) dX12_adds_35 (fun f_10 H locs ef_10 hP hS => ?_)
  have hI : sgI loM hiM f_10 := by rw [ef_10]; exact sgI.put hI 1 v_8.toNatClampNeg (segM1_w x2 (by have z := bn_clI (x := v_8) (by omega); omega))
  have hF : sgK WkX12_adds f f_10 := sgK.put hF ef_10 (by rfl)
  refine lv_aload_n hx hb dX12_adds_36 rfl (lv_at hl 1 rfl) ?_
  refine sl_gM_0_0_12 hx hb hts hown hK hP dX12_adds_37 ?_
  refine lv_bipush (v := 24) hx hb dX12_adds_40 bp_24 ?_
  refine lv_iload hx hb dX12_adds_42 (lv_at hl 0 rfl) ?_
  refine lv_iadd hx hb dX12_adds_44 ?_
  refine lv_topi (fun v_11 ev_11 => ?_)
  have q_12 : v_11.toInt = 24 + v_1.toInt := by rw [ev_11]; have k0 : (24 : Int32).toInt = 24 := ti_24; exact (bn_addI (by omega) (by omega)).trans (by omega)
  refine lv_iconst (v := 1) hx hb dX12_adds_45 ic_1 ?_
  refine sg_iast hx hb hh hA hK hP hS 1 (by decide) 0 (fun _ => rfl) rfl (i := v_11) (x := 1) (vp_in_iff.mpr ⟨by omega, by omega⟩) dX12_adds_46 (fun f_13 H locs ef_13 hP hS => ?_)
  have hI : sgI loM hiM f_13 := by rw [ef_13]; exact sgI.put hI 1 v_11.toNatClampNeg (segM1_w 1 (by have z := bn_clI (x := v_11) (by omega); have k0 : (1 : Int32).toInt = 1 := ti_1; omega))
  have hF : sgK WkX12_adds f f_13 := sgK.put hF ef_13 (by rfl)
  refine lv_aload_n hx hb dX12_adds_47 rfl (lv_at hl 1 rfl) ?_
  refine sl_gM_0_0_12 hx hb hts hown hK hP dX12_adds_48 ?_
  refine lv_bipush (v := 32) hx hb dX12_adds_51 bp_32 ?_
  refine lv_iload hx hb dX12_adds_53 (lv_at hl 0 rfl) ?_
  refine lv_iadd hx hb dX12_adds_55 ?_
  refine lv_topi (fun v_14 ev_14 => ?_)
  have q_15 : v_14.toInt = 32 + v_1.toInt := by rw [ev_14]; have k0 : (32 : Int32).toInt = 32 := ti_32; exact (bn_addI (by omega) (by omega)).trans (by omega)
  refine lv_iconst (v := 1) hx hb dX12_adds_56 ic_1 ?_
  refine sg_iast hx hb hh hA hK hP hS 1 (by decide) 0 (fun _ => rfl) rfl (i := v_14) (x := 1) (vp_in_iff.mpr ⟨by omega, by omega⟩) dX12_adds_57 (fun f_16 H locs ef_16 hP hS => ?_)
  have hI : sgI loM hiM f_16 := by rw [ef_16]; exact sgI.put hI 1 v_14.toNatClampNeg (segM1_w 1 (by have z := bn_clI (x := v_14) (by omega); have k0 : (1 : Int32).toInt = 1 := ti_1; omega))
  have hF : sgK WkX12_adds f f_16 := sgK.put hF ef_16 (by rfl)
  refine lv_aload_n hx hb dX12_adds_58 rfl (lv_at hl 1 rfl) ?_
  refine sl_gM_0_0_12 hx hb hts hown hK hP dX12_adds_59 ?_
  refine lv_bipush (v := 40) hx hb dX12_adds_62 bp_40 ?_
  refine lv_iload hx hb dX12_adds_64 (lv_at hl 0 rfl) ?_
  refine lv_iadd hx hb dX12_adds_66 ?_
  refine lv_topi (fun v_17 ev_17 => ?_)
  have q_18 : v_17.toInt = 40 + v_1.toInt := by rw [ev_17]; have k0 : (40 : Int32).toInt = 40 := ti_40; exact (bn_addI (by omega) (by omega)).trans (by omega)
  refine lv_iload hx hb dX12_adds_67 (lv_at hl 5 rfl) ?_
  refine sg_iast hx hb hh hA hK hP hS 1 (by decide) 0 (fun _ => rfl) rfl (i := v_17) (x := x3) (vp_in_iff.mpr ⟨by omega, by omega⟩) dX12_adds_69 (fun f_19 H locs ef_19 hP hS => ?_)
  have hI : sgI loM hiM f_19 := by rw [ef_19]; exact sgI.put hI 1 v_17.toNatClampNeg (segM1_w x3 (by have z := bn_clI (x := v_17) (by omega); omega))
  have hF : sgK WkX12_adds f f_19 := sgK.put hF ef_19 (by rfl)
  refine lv_aload_n hx hb dX12_adds_70 rfl (lv_at hl 1 rfl) ?_
  refine sl_gM_0_0_12 hx hb hts hown hK hP dX12_adds_71 ?_
  refine lv_bipush (v := 48) hx hb dX12_adds_74 bp_48 ?_
  refine lv_iload hx hb dX12_adds_76 (lv_at hl 0 rfl) ?_
  refine lv_iadd hx hb dX12_adds_78 ?_
  refine lv_topi (fun v_20 ev_20 => ?_)
  have q_21 : v_20.toInt = 48 + v_1.toInt := by rw [ev_20]; have k0 : (48 : Int32).toInt = 48 := ti_48; exact (bn_addI (by omega) (by omega)).trans (by omega)
  refine lv_iconst (v := 0) hx hb dX12_adds_79 ic_0 ?_
  refine sg_iast hx hb hh hA hK hP hS 1 (by decide) 0 (fun _ => rfl) rfl (i := v_20) (x := 0) (vp_in_iff.mpr ⟨by omega, by omega⟩) dX12_adds_80 (fun f_22 H locs ef_22 hP hS => ?_)
  have hI : sgI loM hiM f_22 := by rw [ef_22]; exact sgI.put hI 1 v_20.toNatClampNeg (segM1_w 0 (by have z := bn_clI (x := v_20) (by omega); have k0 : (0 : Int32).toInt = 0 := ti_0; omega))
  have hF : sgK WkX12_adds f f_22 := sgK.put hF ef_22 (by rfl)
  refine lv_aload_n hx hb dX12_adds_81 rfl (lv_at hl 1 rfl) ?_
  refine sl_gM_0_0_12 hx hb hts hown hK hP dX12_adds_82 ?_
  refine lv_bipush (v := 56) hx hb dX12_adds_85 bp_56 ?_
  refine lv_iload hx hb dX12_adds_87 (lv_at hl 0 rfl) ?_
  refine lv_iadd hx hb dX12_adds_89 ?_
  refine lv_topi (fun v_23 ev_23 => ?_)
  have q_24 : v_23.toInt = 56 + v_1.toInt := by rw [ev_23]; have k0 : (56 : Int32).toInt = 56 := ti_56; exact (bn_addI (by omega) (by omega)).trans (by omega)
  refine lv_iconst (v := 0) hx hb dX12_adds_90 ic_0 ?_
  refine sg_iast hx hb hh hA hK hP hS 1 (by decide) 0 (fun _ => rfl) rfl (i := v_23) (x := 0) (vp_in_iff.mpr ⟨by omega, by omega⟩) dX12_adds_91 (fun f_25 H locs ef_25 hP hS => ?_)
  have hI : sgI loM hiM f_25 := by rw [ef_25]; exact sgI.put hI 1 v_23.toNatClampNeg (segM1_w 0 (by have z := bn_clI (x := v_23) (by omega); have k0 : (0 : Int32).toInt = 0 := ti_0; omega))
  have hF : sgK WkX12_adds f f_25 := sgK.put hF ef_25 (by rfl)
  refine lv_aload_n hx hb dX12_adds_92 rfl (lv_at hl 1 rfl) ?_
  refine lv_dup hx hb dX12_adds_93 rfl ?_
  refine sl_gM_0_6_12 (v := v_1) hx hb hts hown hK hP (show f_25 0 6 = v_1 from (by rw [ef_25, sg_up_n (by decide)]; exact (by rw [ef_22, sg_up_n (by decide)]; exact (by rw [ef_19, sg_up_n (by decide)]; exact (by rw [ef_16, sg_up_n (by decide)]; exact (by rw [ef_13, sg_up_n (by decide)]; exact (by rw [ef_10, sg_up_n (by decide)]; exact (by rw [ef_7, sg_up_n (by decide)]; exact (by rw [ef_4, sg_up_n (by decide)]; exact ev_1.symm))))))))) dX12_adds_94 ?_
  refine lv_iconst (v := 1) hx hb dX12_adds_97 ic_1 ?_
  refine lv_iadd hx hb dX12_adds_98 ?_
  refine lv_topi (fun v_26 ev_26 => ?_)
  have q_27 : v_26.toInt = v_1.toInt + 1 := by rw [ev_26]; first | exact cm_add ti_1 (by omega) (by omega) | (have k1 : (1 : Int32).toInt = 1 := ti_1; exact (bn_addI (by omega) (by omega)).trans (by omega))
  refine sl_pM_0_6_12 (x := v_26) hx hb hts hown hh hA hK hP hS dX12_adds_99 (fun f_28 H locs ef_28 hP hS => ?_)
  have hI : sgI loM hiM f_28 := by rw [ef_28]; exact sgI.put hI 0 6 (show 0 ≤ (v_26 : Int32).toInt ∧ (v_26 : Int32).toInt ≤ 8 from ⟨by omega, by omega⟩)
  have hF : sgK WkX12_adds f f_28 := sgK.put hF ef_28 (by rfl)
  exact hret _ _ _ _ f_28 L Q dX12_adds_102 hP hS ⟨⟨hI, hF, rfl, rfl⟩, (Eq.trans (Eq.symm (hs.trans ((spl_e ev_1 (spl_e ef_4 (spl_e ev_5 (spl_e ef_7 (spl_e ev_8 (spl_e ef_10 (spl_e ev_11 (spl_e ef_13 (spl_e ev_14 (spl_e ef_16 (spl_e ev_17 (spl_e ef_19 (spl_e ev_20 (spl_e ef_22 (spl_e ev_23 (spl_e ef_25 (spl_e ev_26 (spl_e ef_28 rfl))))))))))))))))))))) hsp)⟩

abbrev WkX12_sitter : List (Nat × Nat × Option Nat) := [(0, 0, some 6), (1, 1, none)]
set_option maxHeartbeats 4000000 in
set_option maxRecDepth 100000 in
theorem kX12_sitter (l : Launch) (D : va_G) (ca : Nat → ClassId) (za h : Nat → Nat) (hh : sgH 26 h) (f : sg_F) (L : sg_L) (Q : sg_Q) (hI : sgI loM hiM f) (x0 : Int32) (x1 : Int32) (sz : Nat) : Met l yX12_sitter gwX12_sitter { frames := 2, cells := 0, slots := 0, locals := 46 } (sgP D vwCl (tyX ca) 26 h (eM ca h) zcM za f L Q sz [.ref (h 0), .int x0, .int x1]) (sgQi D vwCl 26 h (eM ca h) sz (fun r f1 L1 Q1 => ((sgI loM hiM f1 ∧ sgK WkX12_sitter f f1 ∧ L1 = L ∧ Q1 = Q) ∧ ((-3) ≤ r.toInt ∧ r.toInt ≤ 7) ∧ (r, f1) = sX12_sitter x0 x1 f L))) 0 0 (sgA 26 h sz) := by
  refine sg_ofWi (cc := cX12_sitter) (maxL := 3) RX12 (by decide) rfl rfl (Nat.le_of_ble_eq_true rfl) ?_
  intro p e s m below meth cd Qz ls hx hb hml hown hts hK hZ hP hS hl hret
  have hA := sgY.self (n := 26) (h := h) (sz := s.heap.size)
  have hl : lv_has ls 3 [(0, .ref (h 0)), (1, .int x0), (2, .int x1)] := hl
  obtain ⟨H, hH⟩ : ∃ z : Heap, z = s.heap := ⟨_, rfl⟩
  obtain ⟨locs, hlo⟩ : ∃ z : List Loc, z = [] := ⟨_, rfl⟩
  have hP : va_P D vwCl (sgw 26 h (eM ca h) f L Q) H := by rw [hH]; exact hP
  have hS : va_S (sgA 26 h s.heap.size) s.heap H locs := by rw [hH, hlo]; exact hS
  suffices hgo : W p l e ({ frames := 2, cells := 0, slots := 0, locals := 46 }) s m ([.ref (h 0), .int x0, .int x1] : List Value).toArray below meth cd H locs 0 0 Qz (F0 m 0 ls []) by rw [hH, hlo] at hgo; exact hgo
  clear hH hlo
  obtain ⟨sp, hsp⟩ : ∃ z : Int32 × sg_F, z = sX12_sitter x0 x1 f L := ⟨_, rfl⟩
  have hs : sp = sX12_sitter x0 x1 f L := hsp
  have hF : sgK WkX12_sitter f f := sgK.rf
  refine lv_iload_n hx hb dX12_sitter_0 rfl (lv_at hl 1 rfl) ?_
  obtain ⟨w_1, ew_1⟩ : ∃ z : Int64, z = Int32.toInt64 x0 := ⟨_, rfl⟩
  have q_2 : w_1.toInt = x0.toInt := by rw [ew_1]; exact Int32.toInt_toInt64 _
  refine lv_i2l (v := w_1) hx hb dX12_sitter_1 ew_1.symm ?_
  refine sg_calli (va_runS (As := [.long w_1]) (rest := []) ⟨hx, hb, hml, hown, hts⟩ (kX12_isSetting l D ca za h hh f L Q hI w_1 H.size) (va_cwS 1 hts (gw_S (fun _ h => List.mem_cons_of_mem _ h) mw_653 mw_654 mw_619 mw_652) rfl rfl rfl hd_yX12_isSetting.2 ⟨Nat.le_of_ble_eq_true rfl, Nat.le_of_ble_eq_true rfl⟩) (sg_preS hA hK hP hS hZ) rfl rfl hl.1 rfl (lv_room (Nat.le_of_ble_eq_true rfl)) dX12_sitter_2 ⟨Nat.le_refl _, Nat.le_refl _⟩) hA hS (fun r_6 f_3 L_4 Q_5 H locs hq hP hS => ?_)
  obtain ⟨⟨ef9, eL9, eQ9⟩, hq, u_7⟩ := hq
  replace hs := hs.trans (spl_e ew_1 (spl_e u_7 rfl))
  rw [ef9, eL9, eQ9] at hP; clear ef9 eL9 eQ9
  rcases hq with ⟨rfl, hq⟩ | ⟨rfl, hq⟩
  · skip
    have hc_8 := hq
    refine lv_if_eq (tgt := 20) hx hb dX12_sitter_5 (by decide) (fun c => absurd c (by decide)) (fun c => ?_)
    refine lv_iload_n hx hb dX12_sitter_8 rfl (lv_at hl 2 rfl) ?_
    obtain ⟨w_9, ew_9⟩ : ∃ z : Int64, z = Int32.toInt64 x1 := ⟨_, rfl⟩
    have q_10 : w_9.toInt = x1.toInt := by rw [ew_9]; exact Int32.toInt_toInt64 _
    refine lv_i2l (v := w_9) hx hb dX12_sitter_9 ew_9.symm ?_
    refine lv_lconst (v := 1) hx hb dX12_sitter_10 (by decide) ?_
    refine lv_ldc2 (v := 12) hx hb hown (hts _ (List.mem_cons_of_mem _ mw_660)) dX12_sitter_11 ?_
    refine sg_calli (va_runS (As := [.long w_9, .long 1, .long 12]) (rest := []) ⟨hx, hb, hml, hown, hts⟩ (kX12_within l D ca za h hh f L Q hI w_9 1 12 H.size) (va_cwS 3 hts (gw_S (fun _ h => List.mem_cons_of_mem _ h) mw_631 mw_632 mw_619 mw_630) rfl rfl rfl hd_yX12_within.2 ⟨Nat.le_of_ble_eq_true rfl, Nat.le_of_ble_eq_true rfl⟩) (sg_preS hA hK hP hS hZ) rfl rfl hl.1 rfl (lv_room (Nat.le_of_ble_eq_true rfl)) dX12_sitter_14 ⟨Nat.le_refl _, Nat.le_refl _⟩) hA hS (fun r_14 f_11 L_12 Q_13 H locs hq hP hS => ?_)
    obtain ⟨⟨ef9, eL9, eQ9⟩, hq, u_15⟩ := hq
    replace hs := hs.trans ((if_pos rfl).trans (spl_e ew_9 (spl_e u_15 rfl)))
    rw [ef9, eL9, eQ9] at hP; clear ef9 eL9 eQ9
    have k_16 : (1 : Int64).toInt = 1 := by decide
    have k_17 : (12 : Int64).toInt = 12 := by decide
    rcases hq with ⟨rfl, hq⟩ | ⟨rfl, hq⟩
    · skip
      have hc_18 := hq
      refine lv_if_ne (tgt := 22) hx hb dX12_sitter_17 (by decide) (fun c => ?_) (fun c => absurd c (by decide))
      refine lv_aload_n hx hb dX12_sitter_22 rfl (lv_at hl 0 rfl) ?_
      refine sl_gM_0_6_12 (v := (f 0 6)) hx hb hts hown hK hP rfl dX12_sitter_23 ?_
      refine lv_topi (fun v_19 ev_19 => ?_)
      replace hs := hs.trans ((if_pos rfl).trans (spl_e ev_19 rfl))
      have q_20 : 0 ≤ v_19.toInt ∧ v_19.toInt ≤ 8 := by rw [ev_19]; exact hI 0 6
      refine lv_bipush (v := 8) hx hb dX12_sitter_26 bp_8 ?_
      refine lv_icmp_ne (tgt := 34) hx hb dX12_sitter_28 (by decide) (fun c => ?_) (fun c => ?_)
      · skip
        have c_21 : v_19.toInt ≠ 8 := (by first | exact (cm_ne1 ti_8 c) | (have z := bn_ne c; have k1 : (8 : Int32).toInt = 8 := ti_8; omega))
        refine lv_aload_n hx hb dX12_sitter_34 rfl (lv_at hl 0 rfl) ?_
        refine lv_iload_n hx hb dX12_sitter_35 rfl (lv_at hl 1 rfl) ?_
        refine lv_iload_n hx hb dX12_sitter_36 rfl (lv_at hl 1 rfl) ?_
        refine lv_iload_n hx hb dX12_sitter_37 rfl (lv_at hl 1 rfl) ?_
        refine lv_iload_n hx hb dX12_sitter_38 rfl (lv_at hl 2 rfl) ?_
        have q_23 : (f 0 6).toInt = v_19.toInt := (congrArg Int32.toInt (show f 0 6 = v_19 from ev_19.symm))
        refine sg_callv (va_runV (As := [.int x0, .int x0, .int x0, .int x1]) (rest := []) ⟨hx, hb, hml, hown, hts⟩ (kX12_adds l D ca za h hh f L Q hI x0 x0 x0 x1 ⟨by omega, by omega⟩ ⟨by omega, by omega⟩ ⟨by omega, by omega⟩ ⟨by omega, by omega⟩ (by omega) H.size) (sl_c12_adds_0_0_0_0_12 hts ⟨Nat.le_of_ble_eq_true rfl, Nat.le_of_ble_eq_true rfl⟩) (sl_vM_0 hA hK hP hS hZ) rfl rfl hl.1 rfl (lv_room (Nat.le_of_ble_eq_true rfl)) dX12_sitter_39 ⟨Nat.le_refl _, Nat.le_refl _⟩) hA hS (fun f_25 L_26 Q_27 H locs hq hP hS => ?_)
        obtain ⟨⟨hI, hk_f_25, eL9, eQ9⟩, u_28⟩ := hq
        rw [eL9, eQ9] at hP; clear eL9 eQ9
        have hF : sgK WkX12_sitter f f_25 := sgK.tr hF hk_f_25 (by decide +kernel)
        refine lv_aload_n hx hb dX12_sitter_42 rfl (lv_at hl 0 rfl) ?_
        refine sl_gM_0_6_12 (v := (f_25 0 6)) hx hb hts hown hK hP rfl dX12_sitter_43 ?_
        refine lv_topi (fun v_29 ev_29 => ?_)
        have q_30 : 0 ≤ v_29.toInt ∧ v_29.toInt ≤ 8 := by rw [ev_29]; exact hI 0 6
        refine lv_iconst (v := 1) hx hb dX12_sitter_46 ic_1 ?_
        refine lv_isub hx hb dX12_sitter_47 ?_
        refine lv_topi (fun v_31 ev_31 => ?_)
        have q_32 : v_31.toInt = v_29.toInt - 1 := by rw [ev_31]; first | exact cm_sub ti_1 (by omega) (by omega) | (have k1 : (1 : Int32).toInt = 1 := ti_1; exact (bn_subI (by omega) (by omega)).trans (by omega))
        exact hret _ _ _ _ (v_31) f_25 L Q dX12_sitter_48 hP hS ⟨⟨hI, hF, rfl, rfl⟩, ⟨by omega, by omega⟩, (Eq.trans (Eq.symm (hs.trans ((if_neg c_21).trans (spl_e u_28 (spl_e ev_29 (spl_e ev_31 rfl)))))) hsp)⟩
      · skip
        have c_22 : v_19.toInt = 8 := (by first | exact (cm_eq1 ti_8 c) | (have z := Int32.toInt_inj.mpr c; have k1 : (8 : Int32).toInt = 8 := ti_8; omega))
        refine lv_bipush (v := (-3)) hx hb dX12_sitter_31 bp_m3 ?_
        have k99 : ((-3) : Int32).toInt = (-3) := ti_m3
        exact hret _ _ _ _ (-3) f L Q dX12_sitter_33 hP hS ⟨⟨hI, hF, rfl, rfl⟩, (by decide), (Eq.trans (Eq.symm (hs.trans ((if_pos c_22).trans rfl))) hsp)⟩
    · skip
      have hc_18 := hq
      refine lv_if_ne (tgt := 22) hx hb dX12_sitter_17 (by decide) (fun c => absurd c (by decide)) (fun c => ?_)
      refine lv_iconst (v := (-1)) hx hb dX12_sitter_20 ic_m1 ?_
      have k99 : ((-1) : Int32).toInt = (-1) := ti_m1
      exact hret _ _ _ _ (-1) f L Q dX12_sitter_21 hP hS ⟨⟨hI, hF, rfl, rfl⟩, (by decide), (Eq.trans (Eq.symm (hs.trans ((if_neg (by decide)).trans rfl))) hsp)⟩
  · skip
    have hc_8 := hq
    refine lv_if_eq (tgt := 20) hx hb dX12_sitter_5 (by decide) (fun c => ?_) (fun c => absurd c (by decide))
    refine lv_iconst (v := (-1)) hx hb dX12_sitter_20 ic_m1 ?_
    have k99 : ((-1) : Int32).toInt = (-1) := ti_m1
    exact hret _ _ _ _ (-1) f L Q dX12_sitter_21 hP hS ⟨⟨hI, hF, rfl, rfl⟩, (by decide), (Eq.trans (Eq.symm (hs.trans ((if_neg (by decide)).trans rfl))) hsp)⟩

set_option maxHeartbeats 4000000 in
set_option maxRecDepth 100000 in
theorem kX12_isShelf (l : Launch) (D : va_G) (ca : Nat → ClassId) (za h : Nat → Nat) (hh : sgH 26 h) (f : sg_F) (L : sg_L) (Q : sg_Q) (hI : sgI loM hiM f) (x0 : Int32) (sz : Nat) : Met l yX12_isShelf gwX12_isShelf { frames := 1, cells := 0, slots := 0, locals := 25 } (sgP D vwCl (tyX ca) 26 h (eM ca h) zcM za f L Q sz [.int x0]) (sgQi D vwCl 26 h (eM ca h) sz (fun r f1 L1 Q1 => ((f1 = f ∧ L1 = L ∧ Q1 = Q) ∧ ((r = 1 ∧ (0 ≤ x0.toInt ∧ x0.toInt ≤ 5)) ∨ (r = 0 ∧ (¬ (0 ≤ x0.toInt ∧ x0.toInt ≤ 5)))) ∧ (r) = sX12_isShelf x0 f L))) 0 0 (sgA 26 h sz) := by
  refine sg_ofWz (cc := cX12_isShelf) (maxL := 1) RX12 (by decide) rfl rfl (Nat.le_of_ble_eq_true rfl) ?_
  intro p e s m below meth cd Qz ls hx hb hml hown hts hK hZ hP hS hl hret
  have hA := sgY.self (n := 26) (h := h) (sz := s.heap.size)
  have hl : lv_has ls 1 [(0, .int x0)] := hl
  obtain ⟨H, hH⟩ : ∃ z : Heap, z = s.heap := ⟨_, rfl⟩
  obtain ⟨locs, hlo⟩ : ∃ z : List Loc, z = [] := ⟨_, rfl⟩
  have hP : va_P D vwCl (sgw 26 h (eM ca h) f L Q) H := by rw [hH]; exact hP
  have hS : va_S (sgA 26 h s.heap.size) s.heap H locs := by rw [hH, hlo]; exact hS
  suffices hgo : W p l e ({ frames := 1, cells := 0, slots := 0, locals := 25 }) s m ([.int x0] : List Value).toArray below meth cd H locs 0 0 Qz (F0 m 0 ls []) by rw [hH, hlo] at hgo; exact hgo
  clear hH hlo
  obtain ⟨sp, hsp⟩ : ∃ z : Int32, z = sX12_isShelf x0 f L := ⟨_, rfl⟩
  have hs : sp = sX12_isShelf x0 f L := hsp
  refine lv_iload_n hx hb dX12_isShelf_0 rfl (lv_at hl 0 rfl) ?_
  obtain ⟨w_1, ew_1⟩ : ∃ z : Int64, z = Int32.toInt64 x0 := ⟨_, rfl⟩
  have q_2 : w_1.toInt = x0.toInt := by rw [ew_1]; exact Int32.toInt_toInt64 _
  refine lv_i2l (v := w_1) hx hb dX12_isShelf_1 ew_1.symm ?_
  refine lv_lconst (v := 0) hx hb dX12_isShelf_2 (by decide) ?_
  refine lv_ldc2 (v := 5) hx hb hown (hts _ (List.mem_cons_of_mem _ mw_638)) dX12_isShelf_3 ?_
  refine sg_calli (va_runS (As := [.long w_1, .long 0, .long 5]) (rest := []) ⟨hx, hb, hml, hown, hts⟩ (kX12_within l D ca za h hh f L Q hI w_1 0 5 H.size) (va_cwS 3 hts (gw_S (fun _ h => List.mem_cons_of_mem _ h) mw_631 mw_632 mw_619 mw_630) rfl rfl rfl hd_yX12_within.2 ⟨Nat.le_of_ble_eq_true rfl, Nat.le_of_ble_eq_true rfl⟩) (sg_preS hA hK hP hS hZ) rfl rfl hl.1 rfl (lv_room (Nat.le_of_ble_eq_true rfl)) dX12_isShelf_6 ⟨Nat.le_refl _, Nat.le_refl _⟩) hA hS (fun r_6 f_3 L_4 Q_5 H locs hq hP hS => ?_)
  obtain ⟨⟨ef9, eL9, eQ9⟩, hq, u_7⟩ := hq
  replace hs := hs.trans (spl_e ew_1 (spl_e u_7 rfl))
  rw [ef9, eL9, eQ9] at hP; clear ef9 eL9 eQ9
  have k_8 : (0 : Int64).toInt = 0 := by decide
  have k_9 : (5 : Int64).toInt = 5 := by decide
  rcases hq with ⟨rfl, hq⟩ | ⟨rfl, hq⟩
  · skip
    have hc_10 := hq
    have k99 : (1 : Int32).toInt = 1 := ti_1
    exact hret _ _ _ _ (1) f L Q dX12_isShelf_9 (by decide) hP hS ⟨⟨rfl, rfl, rfl⟩, Or.inl ⟨rfl, by omega⟩, (Eq.trans (Eq.symm (hs.trans ((if_pos rfl).trans rfl))) hsp)⟩
  · skip
    have hc_10 := hq
    have k99 : (0 : Int32).toInt = 0 := ti_0
    exact hret _ _ _ _ (0) f L Q dX12_isShelf_9 (by decide) hP hS ⟨⟨rfl, rfl, rfl⟩, Or.inr (⟨rfl, by omega⟩), (Eq.trans (Eq.symm (hs.trans ((if_neg (by decide)).trans rfl))) hsp)⟩

abbrev WkX12_sitters : List (Nat × Nat × Option Nat) := [(0, 0, some 6), (1, 1, none)]
set_option maxHeartbeats 4000000 in
set_option maxRecDepth 100000 in
theorem kX12_sitters (l : Launch) (D : va_G) (ca : Nat → ClassId) (za h : Nat → Nat) (hh : sgH 26 h) (f : sg_F) (L : sg_L) (Q : sg_Q) (hI : sgI loM hiM f) (x0 : Int32) (x1 : Int32) (x2 : Int32) (sz : Nat) : Met l yX12_sitters gwX12_sitters { frames := 2, cells := 0, slots := 0, locals := 46 } (sgP D vwCl (tyX ca) 26 h (eM ca h) zcM za f L Q sz [.ref (h 0), .int x0, .int x1, .int x2]) (sgQi D vwCl 26 h (eM ca h) sz (fun r f1 L1 Q1 => ((sgI loM hiM f1 ∧ sgK WkX12_sitters f f1 ∧ L1 = L ∧ Q1 = Q) ∧ ((-12) ≤ r.toInt ∧ r.toInt ≤ 8) ∧ (r, f1) = sX12_sitters x0 x1 x2 f L))) 0 0 (sgA 26 h sz) := by
  refine sg_ofWi (cc := cX12_sitters) (maxL := 7) RX12 (by decide) rfl rfl (Nat.le_of_ble_eq_true rfl) ?_
  intro p e s m below meth cd Qz ls hx hb hml hown hts hK hZ hP hS hl hret
  have hA := sgY.self (n := 26) (h := h) (sz := s.heap.size)
  have hl : lv_has ls 7 [(0, .ref (h 0)), (1, .int x0), (2, .int x1), (3, .int x2)] := hl
  obtain ⟨H, hH⟩ : ∃ z : Heap, z = s.heap := ⟨_, rfl⟩
  obtain ⟨locs, hlo⟩ : ∃ z : List Loc, z = [] := ⟨_, rfl⟩
  have hP : va_P D vwCl (sgw 26 h (eM ca h) f L Q) H := by rw [hH]; exact hP
  have hS : va_S (sgA 26 h s.heap.size) s.heap H locs := by rw [hH, hlo]; exact hS
  suffices hgo : W p l e ({ frames := 2, cells := 0, slots := 0, locals := 46 }) s m ([.ref (h 0), .int x0, .int x1, .int x2] : List Value).toArray below meth cd H locs 0 0 Qz (F0 m 0 ls []) by rw [hH, hlo] at hgo; exact hgo
  clear hH hlo
  obtain ⟨sp, hsp⟩ : ∃ z : Int32 × sg_F, z = sX12_sitters x0 x1 x2 f L := ⟨_, rfl⟩
  have hs : sp = sX12_sitters x0 x1 x2 f L := hsp
  have hF : sgK WkX12_sitters f f := sgK.rf
  have loop_69 : ∀ (n_69 : Nat) (y4_69 : Int32) (y5_69 : Int32) (fp_69 : sg_F) (H : Heap) (locs : List Loc) (ls : Array Slot), sp = sX12_sitters_l69 x0 x1 x2 n_69 y4_69 y5_69 fp_69 L → 2 * (8 - y4_69.toInt) + y5_69.toInt < (n_69 : Int) → 0 ≤ x0.toInt ∧ x0.toInt ≤ 5 → 1 ≤ x2.toInt ∧ x2.toInt ≤ 8 → 0 ≤ y4_69.toInt ∧ y4_69.toInt ≤ 8 → 0 ≤ y5_69.toInt ∧ y5_69.toInt ≤ 1 → y5_69.toInt = 0 ∨ 0 ≤ x1.toInt → sgI loM hiM fp_69 → sgK WkX12_sitters f fp_69 → va_P D vwCl (sgw 26 h (eM ca h) fp_69 L Q) H → va_S (sgA 26 h s.heap.size) s.heap H locs → lv_has ls 7 [(0, .ref (h 0)), (1, .int x0), (2, .int x1), (3, .int x2), (4, .int y4_69), (5, .int y5_69)] → W p l e ({ frames := 2, cells := 0, slots := 0, locals := 46 }) s m ([.ref (h 0), .int x0, .int x1, .int x2] : List Value).toArray below meth cd H locs 0 0 Qz (F0 m 69 ls []) := by
    intro n_69
    induction n_69 with
    | zero => intro y4_69 y5_69 fp_69 H locs ls hs hm_69 hy0_69 hy1_69 hy2_69 hy3_69 hg0_69 hI hF hP hS hl; exact absurd hm_69 (by omega)
    | succ n_69 ih_69 =>
      intro y4_69 y5_69 fp_69 H locs ls hs hm_69 hy0_69 hy1_69 hy2_69 hy3_69 hg0_69 hI hF hP hS hl
      have hs : sp = sX12_sitters_h69 x0 x1 x2 (sX12_sitters_l69 x0 x1 x2 n_69) y4_69 y5_69 fp_69 L := hs
      refine lv_iload hx hb dX12_sitters_69 (lv_at hl 5 rfl) ?_
      refine lv_if_eq (tgt := 253) hx hb dX12_sitters_71 (by decide) (fun c => ?_) (fun c => ?_)
      · skip
        have c_1 : y5_69.toInt = 0 := (by first | exact (cm_eq1 ti_0 c) | (have z := Int32.toInt_inj.mpr c; have k1 : (0 : Int32).toInt = 0 := ti_0; omega))
        refine lv_iload hx hb dX12_sitters_253 (lv_at hl 4 rfl) ?_
        exact hret _ _ _ _ (y4_69) fp_69 L Q dX12_sitters_255 hP hS ⟨⟨hI, hF, rfl, rfl⟩, ⟨by omega, by omega⟩, (Eq.trans (Eq.symm (hs.trans (((if_pos c_1).trans rfl)))) hsp)⟩
      · skip
        have c_2 : y5_69.toInt ≠ 0 := (by first | exact (cm_ne1 ti_0 c) | (have z := bn_ne c; have k1 : (0 : Int32).toInt = 0 := ti_0; omega))
        replace hs := hs.trans ((if_neg c_2).trans rfl)
        refine lv_iload hx hb dX12_sitters_74 (lv_at hl 4 rfl) ?_
        refine lv_iload_n hx hb dX12_sitters_76 rfl (lv_at hl 3 rfl) ?_
        refine lv_icmp_ge (tgt := 253) hx hb dX12_sitters_77 (by decide) (fun c => ?_) (fun c => ?_)
        · skip
          have c_3 : x2.toInt ≤ y4_69.toInt := (by first | exact (bn_le c) | (have z := bn_le c; omega))
          refine lv_iload hx hb dX12_sitters_253 (lv_at hl 4 rfl) ?_
          exact hret _ _ _ _ (y4_69) fp_69 L Q dX12_sitters_255 hP hS ⟨⟨hI, hF, rfl, rfl⟩, ⟨by omega, by omega⟩, (Eq.trans (Eq.symm (hs.trans ((if_neg (Int.not_lt.mpr c_3)).trans rfl))) hsp)⟩
        · skip
          have c_4 : y4_69.toInt < x2.toInt := (by first | exact (bn_nle c) | (have z := bn_nle c; omega))
          refine lv_iload_n hx hb dX12_sitters_80 rfl (lv_at hl 2 rfl) ?_
          refine lv_aload_n hx hb dX12_sitters_81 rfl (lv_at hl 0 rfl) ?_
          refine sl_gM_0_52_12 hx hb hts hown hK hP dX12_sitters_82 ?_
          refine lv_iload_n hx hb dX12_sitters_85 rfl (lv_at hl 1 rfl) ?_
          refine sg_iald hx hb hK hP 23 (by decide) 0 rfl rfl (i := x0) (vp_in_iff.mpr ⟨by omega, by omega⟩) dX12_sitters_86 ?_
          refine lv_topi (fun v_5 ev_5 => ?_)
          have q_6 : 0 ≤ v_5.toInt ∧ v_5.toInt ≤ 60 := by rw [ev_5]; exact hI 23 _
          refine lv_iconst (v := 4) hx hb dX12_sitters_87 ic_4 ?_
          refine lv_isub hx hb dX12_sitters_88 ?_
          refine lv_topi (fun v_7 ev_7 => ?_)
          have q_8 : v_7.toInt = v_5.toInt - 4 := by rw [ev_7]; first | exact cm_sub ti_4 (by omega) (by omega) | (have k1 : (4 : Int32).toInt = 4 := ti_4; exact (bn_subI (by omega) (by omega)).trans (by omega))
          refine lv_iconst (v := 4) hx hb dX12_sitters_89 ic_4 ?_
          refine lv_iload hx hb dX12_sitters_90 (lv_at hl 4 rfl) ?_
          refine lv_imul hx hb dX12_sitters_92 ?_
          refine lv_topi (fun v_9 ev_9 => ?_)
          have q_10 : v_9.toInt = 4 * y4_69.toInt := by rw [ev_9]; exact bn_mulJ (by decide) (by omega) (by omega)
          refine lv_isub hx hb dX12_sitters_93 ?_
          refine lv_topi (fun v_11 ev_11 => ?_)
          replace hs := hs.trans ((if_pos c_4).trans (spl_e ev_5 (spl_e ev_7 (spl_e ev_9 (spl_e ev_11 rfl)))))
          have q_12 : v_11.toInt = v_7.toInt - v_9.toInt := by rw [ev_11]; first | exact bn_subI (by omega) (by omega) | exact (bn_subI (by omega) (by omega)).trans (by omega)
          refine lv_icmp_gt (tgt := 110) hx hb dX12_sitters_94 (by decide) (fun c => ?_) (fun c => ?_)
          · skip
            have c_13 : v_11.toInt < x1.toInt := (by first | exact (bn_lt c) | (have z := bn_lt c; omega))
            refine lv_iconst (v := 0) hx hb dX12_sitters_110 ic_0 ?_
            refine lv_istore (lv' := [(5, .int 0), (0, .ref (h 0)), (1, .int x0), (2, .int x1), (3, .int x2), (4, .int y4_69)]) hx hb dX12_sitters_111 hl (by decide) rfl (fun ls hl => ?_)
            refine lv_bipush (v := 60) hx hb dX12_sitters_113 bp_60 ?_
            refine lv_iload_n hx hb dX12_sitters_115 rfl (lv_at hl 2 rfl) ?_
            refine lv_imul hx hb dX12_sitters_116 ?_
            refine lv_topi (fun v_15 ev_15 => ?_)
            have q_16 : v_15.toInt = 60 * x0.toInt := by rw [ev_15]; exact bn_mulJ (by decide) (by omega) (by omega)
            refine lv_iload_n hx hb dX12_sitters_117 rfl (lv_at hl 3 rfl) ?_
            refine lv_iadd hx hb dX12_sitters_118 ?_
            refine lv_topi (fun v_17 ev_17 => ?_)
            refine lv_iconst (v := 4) hx hb dX12_sitters_119 ic_4 ?_
            refine lv_iload hx hb dX12_sitters_120 (lv_at hl 5 rfl) ?_
            refine lv_imul hx hb dX12_sitters_122 ?_
            rw [← ev_9]
            refine lv_iadd hx hb dX12_sitters_123 ?_
            refine lv_topi (fun v_18 ev_18 => ?_)
            refine lv_istore (lv' := [(6, .int v_18), (5, .int 0), (0, .ref (h 0)), (1, .int x0), (2, .int x1), (3, .int x2), (4, .int y4_69)]) hx hb dX12_sitters_124 hl (by decide) rfl (fun ls hl => ?_)
            refine lv_iload hx hb dX12_sitters_126 (lv_at hl 1 rfl) ?_
            refine lv_if_eq (tgt := 197) hx hb dX12_sitters_128 (by decide) (fun c => ?_) (fun c => absurd c (by decide))
            refine lv_iconst (v := 0) hx hb dX12_sitters_197 ic_0 ?_
            refine lv_istore (lv' := [(5, .int 0), (6, .int v_18), (0, .ref (h 0)), (1, .int x0), (2, .int x1), (3, .int x2), (4, .int y4_69)]) hx hb dX12_sitters_198 hl (by decide) rfl (fun ls hl => ?_)
            refine lv_iload hx hb dX12_sitters_200 (lv_at hl 0 rfl) ?_
            refine lv_if_eq (tgt := 250) hx hb dX12_sitters_202 (by decide) (fun c => ?_) (fun c => absurd c (by decide))
            refine lv_goto (tgt := 69) hx hb dX12_sitters_250 (by decide) ?_
            exact ih_69 y4_69 0 fp_69 _ _ _ (hs.trans ((if_pos c_13).trans (spl_e ev_15 (spl_e ev_17 (spl_e ev_18 rfl))))) (by have kc1 : (0 : Int32).toInt = 0 := ti_0; omega) hy0_69 hy1_69 hy2_69 (by decide) (by have kc1 : (0 : Int32).toInt = 0 := ti_0; omega) hI hF hP hS (lv_sub hl [2, 3, 4, 5, 6, 0] rfl)
          · skip
            have c_14 : x1.toInt ≤ v_11.toInt := (by first | exact (bn_nlt c) | (have z := bn_nlt c; omega))
            refine lv_aload_n hx hb dX12_sitters_97 rfl (lv_at hl 0 rfl) ?_
            refine sl_gM_0_6_12 (v := (fp_69 0 6)) hx hb hts hown hK hP rfl dX12_sitters_98 ?_
            refine lv_topi (fun v_19 ev_19 => ?_)
            replace hs := hs.trans ((if_neg (Int.not_lt.mpr c_14)).trans (spl_e ev_19 rfl))
            have q_20 : 0 ≤ v_19.toInt ∧ v_19.toInt ≤ 8 := by rw [ev_19]; exact hI 0 6
            refine lv_bipush (v := 8) hx hb dX12_sitters_101 bp_8 ?_
            refine lv_icmp_ge (tgt := 110) hx hb dX12_sitters_103 (by decide) (fun c => ?_) (fun c => ?_)
            · skip
              have c_21 : 8 ≤ v_19.toInt := (by first | exact (cm_le0 ti_8 c) | (have z := bn_le c; have k1 : (8 : Int32).toInt = 8 := ti_8; omega))
              refine lv_iconst (v := 0) hx hb dX12_sitters_110 ic_0 ?_
              refine lv_istore (lv' := [(5, .int 0), (0, .ref (h 0)), (1, .int x0), (2, .int x1), (3, .int x2), (4, .int y4_69)]) hx hb dX12_sitters_111 hl (by decide) rfl (fun ls hl => ?_)
              refine lv_bipush (v := 60) hx hb dX12_sitters_113 bp_60 ?_
              refine lv_iload_n hx hb dX12_sitters_115 rfl (lv_at hl 2 rfl) ?_
              refine lv_imul hx hb dX12_sitters_116 ?_
              refine lv_topi (fun v_23 ev_23 => ?_)
              have q_24 : v_23.toInt = 60 * x0.toInt := by rw [ev_23]; exact bn_mulJ (by decide) (by omega) (by omega)
              refine lv_iload_n hx hb dX12_sitters_117 rfl (lv_at hl 3 rfl) ?_
              refine lv_iadd hx hb dX12_sitters_118 ?_
              refine lv_topi (fun v_25 ev_25 => ?_)
              have q_26 : v_25.toInt = v_23.toInt + x1.toInt := by rw [ev_25]; first | exact bn_addI (by omega) (by omega) | exact (bn_addI (by omega) (by omega)).trans (by omega)
              refine lv_iconst (v := 4) hx hb dX12_sitters_119 ic_4 ?_
              refine lv_iload hx hb dX12_sitters_120 (lv_at hl 5 rfl) ?_
              refine lv_imul hx hb dX12_sitters_122 ?_
              rw [← ev_9]
              refine lv_iadd hx hb dX12_sitters_123 ?_
              refine lv_topi (fun v_27 ev_27 => ?_)
              have q_28 : v_27.toInt = v_25.toInt + v_9.toInt := by rw [ev_27]; first | exact bn_addI (by omega) (by omega) | exact (bn_addI (by omega) (by omega)).trans (by omega)
              refine lv_istore (lv' := [(6, .int v_27), (5, .int 0), (0, .ref (h 0)), (1, .int x0), (2, .int x1), (3, .int x2), (4, .int y4_69)]) hx hb dX12_sitters_124 hl (by decide) rfl (fun ls hl => ?_)
              refine lv_iload hx hb dX12_sitters_126 (lv_at hl 1 rfl) ?_
              refine lv_if_eq (tgt := 197) hx hb dX12_sitters_128 (by decide) (fun c => ?_) (fun c => absurd c (by decide))
              refine lv_iconst (v := 0) hx hb dX12_sitters_197 ic_0 ?_
              refine lv_istore (lv' := [(5, .int 0), (6, .int v_27), (0, .ref (h 0)), (1, .int x0), (2, .int x1), (3, .int x2), (4, .int y4_69)]) hx hb dX12_sitters_198 hl (by decide) rfl (fun ls hl => ?_)
              refine lv_iload hx hb dX12_sitters_200 (lv_at hl 0 rfl) ?_
              refine lv_if_eq (tgt := 250) hx hb dX12_sitters_202 (by decide) (fun c => ?_) (fun c => absurd c (by decide))
              refine lv_goto (tgt := 69) hx hb dX12_sitters_250 (by decide) ?_
              exact ih_69 y4_69 0 fp_69 _ _ _ (hs.trans ((if_neg (Int.not_lt.mpr c_21)).trans (spl_e ev_23 (spl_e ev_25 (spl_e ev_27 rfl))))) (by have kc1 : (0 : Int32).toInt = 0 := ti_0; omega) hy0_69 hy1_69 hy2_69 (by decide) (by have kc1 : (0 : Int32).toInt = 0 := ti_0; omega) hI hF hP hS (lv_sub hl [2, 3, 4, 5, 6, 0] rfl)
            · skip
              have c_22 : v_19.toInt < 8 := (by first | exact (cm_nle0 ti_8 c) | (have z := bn_nle c; have k1 : (8 : Int32).toInt = 8 := ti_8; omega))
              refine lv_iconst (v := 1) hx hb dX12_sitters_106 ic_1 ?_
              refine lv_goto (tgt := 111) hx hb dX12_sitters_107 (by decide) ?_
              refine lv_istore (lv' := [(5, .int 1), (0, .ref (h 0)), (1, .int x0), (2, .int x1), (3, .int x2), (4, .int y4_69)]) hx hb dX12_sitters_111 hl (by decide) rfl (fun ls hl => ?_)
              refine lv_bipush (v := 60) hx hb dX12_sitters_113 bp_60 ?_
              refine lv_iload_n hx hb dX12_sitters_115 rfl (lv_at hl 2 rfl) ?_
              refine lv_imul hx hb dX12_sitters_116 ?_
              refine lv_topi (fun v_29 ev_29 => ?_)
              have q_30 : v_29.toInt = 60 * x0.toInt := by rw [ev_29]; exact bn_mulJ (by decide) (by omega) (by omega)
              refine lv_iload_n hx hb dX12_sitters_117 rfl (lv_at hl 3 rfl) ?_
              refine lv_iadd hx hb dX12_sitters_118 ?_
              refine lv_topi (fun v_31 ev_31 => ?_)
              have q_32 : v_31.toInt = v_29.toInt + x1.toInt := by rw [ev_31]; first | exact bn_addI (by omega) (by omega) | exact (bn_addI (by omega) (by omega)).trans (by omega)
              refine lv_iconst (v := 4) hx hb dX12_sitters_119 ic_4 ?_
              refine lv_iload hx hb dX12_sitters_120 (lv_at hl 5 rfl) ?_
              refine lv_imul hx hb dX12_sitters_122 ?_
              rw [← ev_9]
              refine lv_iadd hx hb dX12_sitters_123 ?_
              refine lv_topi (fun v_33 ev_33 => ?_)
              have q_34 : v_33.toInt = v_31.toInt + v_9.toInt := by rw [ev_33]; first | exact bn_addI (by omega) (by omega) | exact (bn_addI (by omega) (by omega)).trans (by omega)
              refine lv_istore (lv' := [(6, .int v_33), (5, .int 1), (0, .ref (h 0)), (1, .int x0), (2, .int x1), (3, .int x2), (4, .int y4_69)]) hx hb dX12_sitters_124 hl (by decide) rfl (fun ls hl => ?_)
              refine lv_iload hx hb dX12_sitters_126 (lv_at hl 1 rfl) ?_
              refine lv_if_eq (tgt := 197) hx hb dX12_sitters_128 (by decide) (fun c => absurd c (by decide)) (fun c => ?_)
              refine lv_aload_n hx hb dX12_sitters_131 rfl (lv_at hl 2 rfl) ?_
              refine sl_gM_0_53_12 hx hb hts hown hK hP dX12_sitters_132 ?_
              refine lv_iload hx hb dX12_sitters_135 (lv_at hl 0 rfl) ?_
              refine sg_lald hx hb hK hP 24 (by decide) 1 rfl rfl (i := v_33) (vp_in_iff.mpr ⟨by omega, by omega⟩) dX12_sitters_137 ?_
              obtain ⟨w_35, ew_35⟩ : ∃ z : Int64, z = L 24 (Int32.toNatClampNeg v_33) := ⟨_, rfl⟩
              rw [← ew_35]
              refine sg_calli (va_runS (As := [.long w_35]) (rest := []) ⟨hx, hb, hml, hown, hts⟩ (kX12_isSetting l D ca za h hh fp_69 L Q hI w_35 H.size) (va_cwS 1 hts (gw_S (fun _ h => List.mem_cons_of_mem _ h) mw_653 mw_654 mw_619 mw_652) rfl rfl rfl hd_yX12_isSetting.2 ⟨Nat.le_of_ble_eq_true rfl, Nat.le_of_ble_eq_true rfl⟩) (sg_preS hA hK hP hS hZ) rfl rfl hl.1 rfl (lv_room (Nat.le_of_ble_eq_true rfl)) dX12_sitters_138 ⟨Nat.le_refl _, Nat.le_refl _⟩) hA hS (fun r_39 f_36 L_37 Q_38 H locs hq hP hS => ?_)
              obtain ⟨⟨ef9, eL9, eQ9⟩, hq, u_40⟩ := hq
              replace hs := hs.trans ((if_pos c_22).trans (spl_e ev_29 (spl_e ev_31 (spl_e ev_33 (spl_e ew_35 (spl_e u_40 rfl))))))
              rw [ef9, eL9, eQ9] at hP; clear ef9 eL9 eQ9
              rcases hq with ⟨rfl, hq⟩ | ⟨rfl, hq⟩
              · skip
                have hc_41 := hq
                refine lv_if_eq (tgt := 197) hx hb dX12_sitters_141 (by decide) (fun c => absurd c (by decide)) (fun c => ?_)
                refine lv_aload_n hx hb dX12_sitters_144 rfl (lv_at hl 2 rfl) ?_
                refine sl_gM_0_53_12 hx hb hts hown hK hP dX12_sitters_145 ?_
                refine lv_iload hx hb dX12_sitters_148 (lv_at hl 0 rfl) ?_
                refine lv_iconst (v := 1) hx hb dX12_sitters_150 ic_1 ?_
                refine lv_iadd hx hb dX12_sitters_151 ?_
                refine lv_topi (fun v_42 ev_42 => ?_)
                have q_43 : v_42.toInt = v_33.toInt + 1 := by rw [ev_42]; first | exact cm_add ti_1 (by omega) (by omega) | (have k1 : (1 : Int32).toInt = 1 := ti_1; exact (bn_addI (by omega) (by omega)).trans (by omega))
                refine sg_lald hx hb hK hP 24 (by decide) 1 rfl rfl (i := v_42) (vp_in_iff.mpr ⟨by omega, by omega⟩) dX12_sitters_152 ?_
                obtain ⟨w_44, ew_44⟩ : ∃ z : Int64, z = L 24 (Int32.toNatClampNeg v_42) := ⟨_, rfl⟩
                rw [← ew_44]
                refine sg_calli (va_runS (As := [.long w_44]) (rest := []) ⟨hx, hb, hml, hown, hts⟩ (kX12_isSetting l D ca za h hh fp_69 L Q hI w_44 H.size) (va_cwS 1 hts (gw_S (fun _ h => List.mem_cons_of_mem _ h) mw_653 mw_654 mw_619 mw_652) rfl rfl rfl hd_yX12_isSetting.2 ⟨Nat.le_of_ble_eq_true rfl, Nat.le_of_ble_eq_true rfl⟩) (sg_preS hA hK hP hS hZ) rfl rfl hl.1 rfl (lv_room (Nat.le_of_ble_eq_true rfl)) dX12_sitters_153 ⟨Nat.le_refl _, Nat.le_refl _⟩) hA hS (fun r_48 f_45 L_46 Q_47 H locs hq hP hS => ?_)
                obtain ⟨⟨ef9, eL9, eQ9⟩, hq, u_49⟩ := hq
                replace hs := hs.trans ((if_pos rfl).trans (spl_e ev_42 (spl_e ew_44 (spl_e u_49 rfl))))
                rw [ef9, eL9, eQ9] at hP; clear ef9 eL9 eQ9
                rcases hq with ⟨rfl, hq⟩ | ⟨rfl, hq⟩
                · skip
                  have hc_50 := hq
                  refine lv_if_eq (tgt := 197) hx hb dX12_sitters_156 (by decide) (fun c => absurd c (by decide)) (fun c => ?_)
                  refine lv_aload_n hx hb dX12_sitters_159 rfl (lv_at hl 2 rfl) ?_
                  refine sl_gM_0_53_12 hx hb hts hown hK hP dX12_sitters_160 ?_
                  refine lv_iload hx hb dX12_sitters_163 (lv_at hl 0 rfl) ?_
                  refine lv_iconst (v := 2) hx hb dX12_sitters_165 ic_2 ?_
                  refine lv_iadd hx hb dX12_sitters_166 ?_
                  refine lv_topi (fun v_51 ev_51 => ?_)
                  have q_52 : v_51.toInt = v_33.toInt + 2 := by rw [ev_51]; first | exact cm_add ti_2 (by omega) (by omega) | (have k1 : (2 : Int32).toInt = 2 := ti_2; exact (bn_addI (by omega) (by omega)).trans (by omega))
                  refine sg_lald hx hb hK hP 24 (by decide) 1 rfl rfl (i := v_51) (vp_in_iff.mpr ⟨by omega, by omega⟩) dX12_sitters_167 ?_
                  obtain ⟨w_53, ew_53⟩ : ∃ z : Int64, z = L 24 (Int32.toNatClampNeg v_51) := ⟨_, rfl⟩
                  rw [← ew_53]
                  refine sg_calli (va_runS (As := [.long w_53]) (rest := []) ⟨hx, hb, hml, hown, hts⟩ (kX12_isSetting l D ca za h hh fp_69 L Q hI w_53 H.size) (va_cwS 1 hts (gw_S (fun _ h => List.mem_cons_of_mem _ h) mw_653 mw_654 mw_619 mw_652) rfl rfl rfl hd_yX12_isSetting.2 ⟨Nat.le_of_ble_eq_true rfl, Nat.le_of_ble_eq_true rfl⟩) (sg_preS hA hK hP hS hZ) rfl rfl hl.1 rfl (lv_room (Nat.le_of_ble_eq_true rfl)) dX12_sitters_168 ⟨Nat.le_refl _, Nat.le_refl _⟩) hA hS (fun r_57 f_54 L_55 Q_56 H locs hq hP hS => ?_)
                  obtain ⟨⟨ef9, eL9, eQ9⟩, hq, u_58⟩ := hq
                  replace hs := hs.trans ((if_pos rfl).trans (spl_e ev_51 (spl_e ew_53 (spl_e u_58 rfl))))
                  rw [ef9, eL9, eQ9] at hP; clear ef9 eL9 eQ9
                  rcases hq with ⟨rfl, hq⟩ | ⟨rfl, hq⟩
                  · skip
                    have hc_59 := hq
                    refine lv_if_eq (tgt := 197) hx hb dX12_sitters_171 (by decide) (fun c => absurd c (by decide)) (fun c => ?_)
                    refine lv_aload_n hx hb dX12_sitters_174 rfl (lv_at hl 2 rfl) ?_
                    refine sl_gM_0_53_12 hx hb hts hown hK hP dX12_sitters_175 ?_
                    refine lv_iload hx hb dX12_sitters_178 (lv_at hl 0 rfl) ?_
                    refine lv_iconst (v := 3) hx hb dX12_sitters_180 ic_3 ?_
                    refine lv_iadd hx hb dX12_sitters_181 ?_
                    refine lv_topi (fun v_60 ev_60 => ?_)
                    have q_61 : v_60.toInt = v_33.toInt + 3 := by rw [ev_60]; first | exact cm_add ti_3 (by omega) (by omega) | (have k1 : (3 : Int32).toInt = 3 := ti_3; exact (bn_addI (by omega) (by omega)).trans (by omega))
                    refine sg_lald hx hb hK hP 24 (by decide) 1 rfl rfl (i := v_60) (vp_in_iff.mpr ⟨by omega, by omega⟩) dX12_sitters_182 ?_
                    obtain ⟨w_62, ew_62⟩ : ∃ z : Int64, z = L 24 (Int32.toNatClampNeg v_60) := ⟨_, rfl⟩
                    rw [← ew_62]
                    refine lv_lconst (v := 1) hx hb dX12_sitters_183 (by decide) ?_
                    refine lv_ldc2 (v := 12) hx hb hown (hts _ (List.mem_cons_of_mem _ mw_660)) dX12_sitters_184 ?_
                    refine sg_calli (va_runS (As := [.long w_62, .long 1, .long 12]) (rest := []) ⟨hx, hb, hml, hown, hts⟩ (kX12_within l D ca za h hh fp_69 L Q hI w_62 1 12 H.size) (va_cwS 3 hts (gw_S (fun _ h => List.mem_cons_of_mem _ h) mw_631 mw_632 mw_619 mw_630) rfl rfl rfl hd_yX12_within.2 ⟨Nat.le_of_ble_eq_true rfl, Nat.le_of_ble_eq_true rfl⟩) (sg_preS hA hK hP hS hZ) rfl rfl hl.1 rfl (lv_room (Nat.le_of_ble_eq_true rfl)) dX12_sitters_187 ⟨Nat.le_refl _, Nat.le_refl _⟩) hA hS (fun r_66 f_63 L_64 Q_65 H locs hq hP hS => ?_)
                    obtain ⟨⟨ef9, eL9, eQ9⟩, hq, u_67⟩ := hq
                    replace hs := hs.trans ((if_pos rfl).trans (spl_e ev_60 (spl_e ew_62 (spl_e u_67 rfl))))
                    rw [ef9, eL9, eQ9] at hP; clear ef9 eL9 eQ9
                    have k_68 : (1 : Int64).toInt = 1 := by decide
                    have k_69 : (12 : Int64).toInt = 12 := by decide
                    rcases hq with ⟨rfl, hq⟩ | ⟨rfl, hq⟩
                    · skip
                      have hc_70 := hq
                      refine lv_if_eq (tgt := 197) hx hb dX12_sitters_190 (by decide) (fun c => absurd c (by decide)) (fun c => ?_)
                      refine lv_iconst (v := 1) hx hb dX12_sitters_193 ic_1 ?_
                      refine lv_goto (tgt := 198) hx hb dX12_sitters_194 (by decide) ?_
                      refine lv_istore (lv' := [(5, .int 1), (6, .int v_33), (0, .ref (h 0)), (1, .int x0), (2, .int x1), (3, .int x2), (4, .int y4_69)]) hx hb dX12_sitters_198 hl (by decide) rfl (fun ls hl => ?_)
                      refine lv_iload hx hb dX12_sitters_200 (lv_at hl 0 rfl) ?_
                      refine lv_if_eq (tgt := 250) hx hb dX12_sitters_202 (by decide) (fun c => absurd c (by decide)) (fun c => ?_)
                      refine lv_aload_n hx hb dX12_sitters_205 rfl (lv_at hl 2 rfl) ?_
                      refine lv_aload_n hx hb dX12_sitters_206 rfl (lv_at hl 2 rfl) ?_
                      refine sl_gM_0_53_12 hx hb hts hown hK hP dX12_sitters_207 ?_
                      refine lv_iload hx hb dX12_sitters_210 (lv_at hl 1 rfl) ?_
                      refine sg_lald hx hb hK hP 24 (by decide) 1 rfl rfl (i := v_33) (vp_in_iff.mpr ⟨by omega, by omega⟩) dX12_sitters_212 ?_
                      rw [← ew_35]
                      obtain ⟨v_71, ev_71⟩ : ∃ z : Int32, z = Int64.toInt32 w_35 := ⟨_, rfl⟩
                      have q_72 : v_71.toInt = w_35.toInt := by rw [ev_71]; exact bn_l2i (by omega) (by omega)
                      refine lv_l2i (v := v_71) hx hb dX12_sitters_213 ev_71.symm ?_
                      refine lv_aload_n hx hb dX12_sitters_214 rfl (lv_at hl 2 rfl) ?_
                      refine sl_gM_0_53_12 hx hb hts hown hK hP dX12_sitters_215 ?_
                      refine lv_iload hx hb dX12_sitters_218 (lv_at hl 1 rfl) ?_
                      refine lv_iconst (v := 1) hx hb dX12_sitters_220 ic_1 ?_
                      refine lv_iadd hx hb dX12_sitters_221 ?_
                      rw [← ev_42]
                      refine sg_lald hx hb hK hP 24 (by decide) 1 rfl rfl (i := v_42) (vp_in_iff.mpr ⟨by omega, by omega⟩) dX12_sitters_222 ?_
                      rw [← ew_44]
                      obtain ⟨v_73, ev_73⟩ : ∃ z : Int32, z = Int64.toInt32 w_44 := ⟨_, rfl⟩
                      have q_74 : v_73.toInt = w_44.toInt := by rw [ev_73]; exact bn_l2i (by omega) (by omega)
                      refine lv_l2i (v := v_73) hx hb dX12_sitters_223 ev_73.symm ?_
                      refine lv_aload_n hx hb dX12_sitters_224 rfl (lv_at hl 2 rfl) ?_
                      refine sl_gM_0_53_12 hx hb hts hown hK hP dX12_sitters_225 ?_
                      refine lv_iload hx hb dX12_sitters_228 (lv_at hl 1 rfl) ?_
                      refine lv_iconst (v := 2) hx hb dX12_sitters_230 ic_2 ?_
                      refine lv_iadd hx hb dX12_sitters_231 ?_
                      rw [← ev_51]
                      refine sg_lald hx hb hK hP 24 (by decide) 1 rfl rfl (i := v_51) (vp_in_iff.mpr ⟨by omega, by omega⟩) dX12_sitters_232 ?_
                      rw [← ew_53]
                      obtain ⟨v_75, ev_75⟩ : ∃ z : Int32, z = Int64.toInt32 w_53 := ⟨_, rfl⟩
                      have q_76 : v_75.toInt = w_53.toInt := by rw [ev_75]; exact bn_l2i (by omega) (by omega)
                      refine lv_l2i (v := v_75) hx hb dX12_sitters_233 ev_75.symm ?_
                      refine lv_aload_n hx hb dX12_sitters_234 rfl (lv_at hl 2 rfl) ?_
                      refine sl_gM_0_53_12 hx hb hts hown hK hP dX12_sitters_235 ?_
                      refine lv_iload hx hb dX12_sitters_238 (lv_at hl 1 rfl) ?_
                      refine lv_iconst (v := 3) hx hb dX12_sitters_240 ic_3 ?_
                      refine lv_iadd hx hb dX12_sitters_241 ?_
                      rw [← ev_60]
                      refine sg_lald hx hb hK hP 24 (by decide) 1 rfl rfl (i := v_60) (vp_in_iff.mpr ⟨by omega, by omega⟩) dX12_sitters_242 ?_
                      rw [← ew_62]
                      obtain ⟨v_77, ev_77⟩ : ∃ z : Int32, z = Int64.toInt32 w_62 := ⟨_, rfl⟩
                      have q_78 : v_77.toInt = w_62.toInt := by rw [ev_77]; exact bn_l2i (by omega) (by omega)
                      refine lv_l2i (v := v_77) hx hb dX12_sitters_243 ev_77.symm ?_
                      have q_79 : (fp_69 0 6).toInt = v_19.toInt := (congrArg Int32.toInt (show fp_69 0 6 = v_19 from ev_19.symm))
                      refine sg_callv (va_runV (As := [.int v_71, .int v_73, .int v_75, .int v_77]) (rest := []) ⟨hx, hb, hml, hown, hts⟩ (kX12_adds l D ca za h hh fp_69 L Q hI v_71 v_73 v_75 v_77 ⟨by omega, by omega⟩ ⟨by omega, by omega⟩ ⟨by omega, by omega⟩ ⟨by omega, by omega⟩ (by omega) H.size) (sl_c12_adds_0_0_0_0_12 hts ⟨Nat.le_of_ble_eq_true rfl, Nat.le_of_ble_eq_true rfl⟩) (sl_vM_0 hA hK hP hS hZ) rfl rfl hl.1 rfl (lv_room (Nat.le_of_ble_eq_true rfl)) dX12_sitters_244 ⟨Nat.le_refl _, Nat.le_refl _⟩) hA hS (fun f_81 L_82 Q_83 H locs hq hP hS => ?_)
                      obtain ⟨⟨hI, hk_f_81, eL9, eQ9⟩, u_84⟩ := hq
                      rw [eL9, eQ9] at hP; clear eL9 eQ9
                      have hF : sgK WkX12_sitters f f_81 := sgK.tr hF hk_f_81 (by decide +kernel)
                      obtain ⟨v_85, ev_85⟩ : ∃ z : Int32, z = y4_69 + 1 := ⟨_, rfl⟩
                      have q_86 : v_85.toInt = y4_69.toInt + 1 := by rw [ev_85]; exact (bn_addc y4_69 1 (by decide) (by omega) (by omega))
                      refine lv_iinc (v := v_85) (lv' := [(4, .int v_85), (5, .int 1), (6, .int v_33), (0, .ref (h 0)), (1, .int x0), (2, .int x1), (3, .int x2)]) hx hb dX12_sitters_247 hl (k := 6) rfl (by rw [ev_85]; rfl) (by decide) rfl (fun ls hl => ?_)
                      refine lv_goto (tgt := 69) hx hb dX12_sitters_250 (by decide) ?_
                      exact ih_69 v_85 1 f_81 _ _ _ (hs.trans ((if_pos rfl).trans (spl_e ev_71 (spl_e ev_73 (spl_e ev_75 (spl_e ev_77 (spl_e u_84 (spl_e ev_85 rfl)))))))) (by have kc1 : (1 : Int32).toInt = 1 := ti_1; omega) hy0_69 hy1_69 ⟨by omega, by omega⟩ (by decide) (by have kc1 : (1 : Int32).toInt = 1 := ti_1; omega) hI hF hP hS (lv_sub hl [3, 4, 5, 6, 0, 1] rfl)
                    · skip
                      have hc_70 := hq
                      refine lv_if_eq (tgt := 197) hx hb dX12_sitters_190 (by decide) (fun c => ?_) (fun c => absurd c (by decide))
                      refine lv_iconst (v := 0) hx hb dX12_sitters_197 ic_0 ?_
                      refine lv_istore (lv' := [(5, .int 0), (6, .int v_33), (0, .ref (h 0)), (1, .int x0), (2, .int x1), (3, .int x2), (4, .int y4_69)]) hx hb dX12_sitters_198 hl (by decide) rfl (fun ls hl => ?_)
                      refine lv_iload hx hb dX12_sitters_200 (lv_at hl 0 rfl) ?_
                      refine lv_if_eq (tgt := 250) hx hb dX12_sitters_202 (by decide) (fun c => ?_) (fun c => absurd c (by decide))
                      refine lv_goto (tgt := 69) hx hb dX12_sitters_250 (by decide) ?_
                      exact ih_69 y4_69 0 fp_69 _ _ _ (hs.trans ((if_neg (by decide)).trans rfl)) (by have kc1 : (0 : Int32).toInt = 0 := ti_0; omega) hy0_69 hy1_69 hy2_69 (by decide) (by have kc1 : (0 : Int32).toInt = 0 := ti_0; omega) hI hF hP hS (lv_sub hl [2, 3, 4, 5, 6, 0] rfl)
                  · skip
                    have hc_59 := hq
                    refine lv_if_eq (tgt := 197) hx hb dX12_sitters_171 (by decide) (fun c => ?_) (fun c => absurd c (by decide))
                    refine lv_iconst (v := 0) hx hb dX12_sitters_197 ic_0 ?_
                    refine lv_istore (lv' := [(5, .int 0), (6, .int v_33), (0, .ref (h 0)), (1, .int x0), (2, .int x1), (3, .int x2), (4, .int y4_69)]) hx hb dX12_sitters_198 hl (by decide) rfl (fun ls hl => ?_)
                    refine lv_iload hx hb dX12_sitters_200 (lv_at hl 0 rfl) ?_
                    refine lv_if_eq (tgt := 250) hx hb dX12_sitters_202 (by decide) (fun c => ?_) (fun c => absurd c (by decide))
                    refine lv_goto (tgt := 69) hx hb dX12_sitters_250 (by decide) ?_
                    exact ih_69 y4_69 0 fp_69 _ _ _ (hs.trans ((if_neg (by decide)).trans rfl)) (by have kc1 : (0 : Int32).toInt = 0 := ti_0; omega) hy0_69 hy1_69 hy2_69 (by decide) (by have kc1 : (0 : Int32).toInt = 0 := ti_0; omega) hI hF hP hS (lv_sub hl [2, 3, 4, 5, 6, 0] rfl)
                · skip
                  have hc_50 := hq
                  refine lv_if_eq (tgt := 197) hx hb dX12_sitters_156 (by decide) (fun c => ?_) (fun c => absurd c (by decide))
                  refine lv_iconst (v := 0) hx hb dX12_sitters_197 ic_0 ?_
                  refine lv_istore (lv' := [(5, .int 0), (6, .int v_33), (0, .ref (h 0)), (1, .int x0), (2, .int x1), (3, .int x2), (4, .int y4_69)]) hx hb dX12_sitters_198 hl (by decide) rfl (fun ls hl => ?_)
                  refine lv_iload hx hb dX12_sitters_200 (lv_at hl 0 rfl) ?_
                  refine lv_if_eq (tgt := 250) hx hb dX12_sitters_202 (by decide) (fun c => ?_) (fun c => absurd c (by decide))
                  refine lv_goto (tgt := 69) hx hb dX12_sitters_250 (by decide) ?_
                  exact ih_69 y4_69 0 fp_69 _ _ _ (hs.trans ((if_neg (by decide)).trans rfl)) (by have kc1 : (0 : Int32).toInt = 0 := ti_0; omega) hy0_69 hy1_69 hy2_69 (by decide) (by have kc1 : (0 : Int32).toInt = 0 := ti_0; omega) hI hF hP hS (lv_sub hl [2, 3, 4, 5, 6, 0] rfl)
              · skip
                have hc_41 := hq
                refine lv_if_eq (tgt := 197) hx hb dX12_sitters_141 (by decide) (fun c => ?_) (fun c => absurd c (by decide))
                refine lv_iconst (v := 0) hx hb dX12_sitters_197 ic_0 ?_
                refine lv_istore (lv' := [(5, .int 0), (6, .int v_33), (0, .ref (h 0)), (1, .int x0), (2, .int x1), (3, .int x2), (4, .int y4_69)]) hx hb dX12_sitters_198 hl (by decide) rfl (fun ls hl => ?_)
                refine lv_iload hx hb dX12_sitters_200 (lv_at hl 0 rfl) ?_
                refine lv_if_eq (tgt := 250) hx hb dX12_sitters_202 (by decide) (fun c => ?_) (fun c => absurd c (by decide))
                refine lv_goto (tgt := 69) hx hb dX12_sitters_250 (by decide) ?_
                exact ih_69 y4_69 0 fp_69 _ _ _ (hs.trans ((if_neg (by decide)).trans rfl)) (by have kc1 : (0 : Int32).toInt = 0 := ti_0; omega) hy0_69 hy1_69 hy2_69 (by decide) (by have kc1 : (0 : Int32).toInt = 0 := ti_0; omega) hI hF hP hS (lv_sub hl [2, 3, 4, 5, 6, 0] rfl)
  have blk_44 : ∀ (fp_44 : sg_F) (H : Heap) (locs : List Loc) (ls : Array Slot), sp = sX12_sitters_b44 x0 x1 x2 fp_44 L → 0 ≤ x0.toInt ∧ x0.toInt ≤ 5 → 1 ≤ x2.toInt ∧ x2.toInt ≤ 8 → sgI loM hiM fp_44 → sgK WkX12_sitters f fp_44 → va_P D vwCl (sgw 26 h (eM ca h) fp_44 L Q) H → va_S (sgA 26 h s.heap.size) s.heap H locs → lv_has ls 7 [(0, .ref (h 0)), (1, .int x0), (2, .int x1), (3, .int x2)] → W p l e ({ frames := 2, cells := 0, slots := 0, locals := 46 }) s m ([.ref (h 0), .int x0, .int x1, .int x2] : List Value).toArray below meth cd H locs 0 0 Qz (F0 m 44 ls []) := by
    intro fp_44 H locs ls hs hy0_44 hy1_44 hI hF hP hS hl
    refine lv_iconst (v := 0) hx hb dX12_sitters_44 ic_0 ?_
    refine lv_istore (lv' := [(4, .int 0), (0, .ref (h 0)), (1, .int x0), (2, .int x1), (3, .int x2)]) hx hb dX12_sitters_45 hl (by decide) rfl (fun ls hl => ?_)
    refine lv_aload_n hx hb dX12_sitters_47 rfl (lv_at hl 1 rfl) ?_
    refine sl_gM_0_51_12 hx hb hts hown hK hP dX12_sitters_48 ?_
    refine lv_iload_n hx hb dX12_sitters_51 rfl (lv_at hl 2 rfl) ?_
    refine sg_iald hx hb hK hP 22 (by decide) 0 rfl rfl (i := x0) (vp_in_iff.mpr ⟨by omega, by omega⟩) dX12_sitters_52 ?_
    refine lv_topi (fun v_87 ev_87 => ?_)
    replace hs := hs.trans (spl_e ev_87 rfl)
    have q_88 : (-1) ≤ v_87.toInt ∧ v_87.toInt ≤ 54 := by rw [ev_87]; exact hI 22 _
    refine lv_bipush (v := 50) hx hb dX12_sitters_53 bp_50 ?_
    refine lv_icmp_ne (tgt := 66) hx hb dX12_sitters_55 (by decide) (fun c => ?_) (fun c => ?_)
    · skip
      have c_89 : v_87.toInt ≠ 50 := (by first | exact (cm_ne1 ti_50 c) | (have z := bn_ne c; have k1 : (50 : Int32).toInt = 50 := ti_50; omega))
      refine lv_iconst (v := 0) hx hb dX12_sitters_66 ic_0 ?_
      refine lv_istore (lv' := [(5, .int 0), (4, .int 0), (0, .ref (h 0)), (1, .int x0), (2, .int x1), (3, .int x2)]) hx hb dX12_sitters_67 hl (by decide) rfl (fun ls hl => ?_)
      exact loop_69 30 0 0 fp_44 _ _ _ (hs.trans ((if_neg c_89).trans rfl)) (by have kc0 : (0 : Int32).toInt = 0 := ti_0; have kc1 : (0 : Int32).toInt = 0 := ti_0; omega) hy0_44 hy1_44 (by decide) (by decide) (by have kc0 : (0 : Int32).toInt = 0 := ti_0; have kc1 : (0 : Int32).toInt = 0 := ti_0; omega) hI hF hP hS (lv_sub hl [2, 3, 4, 5, 1, 0] rfl)
    · skip
      have c_90 : v_87.toInt = 50 := (by first | exact (cm_eq1 ti_50 c) | (have z := Int32.toInt_inj.mpr c; have k1 : (50 : Int32).toInt = 50 := ti_50; omega))
      replace hs := hs.trans ((if_pos c_90).trans rfl)
      refine lv_iload_n hx hb dX12_sitters_58 rfl (lv_at hl 3 rfl) ?_
      refine lv_if_lt (tgt := 66) hx hb dX12_sitters_59 (by decide) (fun c => ?_) (fun c => ?_)
      · skip
        have c_91 : x1.toInt < 0 := (by first | exact (cm_lt1 ti_0 c) | (have z := bn_lt c; have k1 : (0 : Int32).toInt = 0 := ti_0; omega))
        refine lv_iconst (v := 0) hx hb dX12_sitters_66 ic_0 ?_
        refine lv_istore (lv' := [(5, .int 0), (4, .int 0), (0, .ref (h 0)), (1, .int x0), (2, .int x1), (3, .int x2)]) hx hb dX12_sitters_67 hl (by decide) rfl (fun ls hl => ?_)
        exact loop_69 30 0 0 fp_44 _ _ _ (hs.trans ((if_pos c_91).trans rfl)) (by have kc0 : (0 : Int32).toInt = 0 := ti_0; have kc1 : (0 : Int32).toInt = 0 := ti_0; omega) hy0_44 hy1_44 (by decide) (by decide) (by have kc0 : (0 : Int32).toInt = 0 := ti_0; have kc1 : (0 : Int32).toInt = 0 := ti_0; omega) hI hF hP hS (lv_sub hl [2, 3, 4, 5, 1, 0] rfl)
      · skip
        have c_92 : 0 ≤ x1.toInt := (by first | exact (cm_nlt1 ti_0 c) | (have z := bn_nlt c; have k1 : (0 : Int32).toInt = 0 := ti_0; omega))
        refine lv_iconst (v := 1) hx hb dX12_sitters_62 ic_1 ?_
        refine lv_goto (tgt := 67) hx hb dX12_sitters_63 (by decide) ?_
        refine lv_istore (lv' := [(5, .int 1), (4, .int 0), (0, .ref (h 0)), (1, .int x0), (2, .int x1), (3, .int x2)]) hx hb dX12_sitters_67 hl (by decide) rfl (fun ls hl => ?_)
        exact loop_69 30 0 1 fp_44 _ _ _ (hs.trans ((if_neg (Int.not_lt.mpr c_92)).trans rfl)) (by have kc0 : (0 : Int32).toInt = 0 := ti_0; have kc1 : (1 : Int32).toInt = 1 := ti_1; omega) hy0_44 hy1_44 (by decide) (by decide) (by have kc0 : (0 : Int32).toInt = 0 := ti_0; have kc1 : (1 : Int32).toInt = 1 := ti_1; omega) hI hF hP hS (lv_sub hl [2, 3, 4, 5, 1, 0] rfl)
  refine lv_iload_n hx hb dX12_sitters_0 rfl (lv_at hl 1 rfl) ?_
  refine sg_calli (va_runS (As := [.int x0]) (rest := []) ⟨hx, hb, hml, hown, hts⟩ (kX12_isShelf l D ca za h hh f L Q hI x0 H.size) (va_cwS 1 hts (gw_S (fun _ h => List.mem_cons_of_mem _ h) mw_641 mw_642 mw_619 mw_640) rfl rfl rfl hd_yX12_isShelf.2 ⟨Nat.le_of_ble_eq_true rfl, Nat.le_of_ble_eq_true rfl⟩) (sg_preS hA hK hP hS hZ) rfl rfl hl.1 rfl (lv_room (Nat.le_of_ble_eq_true rfl)) dX12_sitters_1 ⟨Nat.le_refl _, Nat.le_refl _⟩) hA hS (fun r_96 f_93 L_94 Q_95 H locs hq hP hS => ?_)
  obtain ⟨⟨ef9, eL9, eQ9⟩, hq, u_97⟩ := hq
  replace hs := hs.trans (spl_e u_97 rfl)
  rw [ef9, eL9, eQ9] at hP; clear ef9 eL9 eQ9
  rcases hq with ⟨rfl, hq⟩ | ⟨rfl, hq⟩
  · skip
    have hc_98 := hq
    refine lv_if_eq (tgt := 19) hx hb dX12_sitters_4 (by decide) (fun c => absurd c (by decide)) (fun c => ?_)
    refine lv_iload_n hx hb dX12_sitters_7 rfl (lv_at hl 3 rfl) ?_
    obtain ⟨w_99, ew_99⟩ : ∃ z : Int64, z = Int32.toInt64 x2 := ⟨_, rfl⟩
    have q_100 : w_99.toInt = x2.toInt := by rw [ew_99]; exact Int32.toInt_toInt64 _
    refine lv_i2l (v := w_99) hx hb dX12_sitters_8 ew_99.symm ?_
    refine lv_lconst (v := 1) hx hb dX12_sitters_9 (by decide) ?_
    refine lv_ldc2 (v := 8) hx hb hown (hts _ (List.mem_cons_of_mem _ mw_633)) dX12_sitters_10 ?_
    refine sg_calli (va_runS (As := [.long w_99, .long 1, .long 8]) (rest := []) ⟨hx, hb, hml, hown, hts⟩ (kX12_within l D ca za h hh f L Q hI w_99 1 8 H.size) (va_cwS 3 hts (gw_S (fun _ h => List.mem_cons_of_mem _ h) mw_631 mw_632 mw_619 mw_630) rfl rfl rfl hd_yX12_within.2 ⟨Nat.le_of_ble_eq_true rfl, Nat.le_of_ble_eq_true rfl⟩) (sg_preS hA hK hP hS hZ) rfl rfl hl.1 rfl (lv_room (Nat.le_of_ble_eq_true rfl)) dX12_sitters_13 ⟨Nat.le_refl _, Nat.le_refl _⟩) hA hS (fun r_104 f_101 L_102 Q_103 H locs hq hP hS => ?_)
    obtain ⟨⟨ef9, eL9, eQ9⟩, hq, u_105⟩ := hq
    replace hs := hs.trans ((if_pos rfl).trans (spl_e ew_99 (spl_e u_105 rfl)))
    rw [ef9, eL9, eQ9] at hP; clear ef9 eL9 eQ9
    have k_106 : (1 : Int64).toInt = 1 := by decide
    have k_107 : (8 : Int64).toInt = 8 := by decide
    rcases hq with ⟨rfl, hq⟩ | ⟨rfl, hq⟩
    · skip
      have hc_108 := hq
      refine lv_if_ne (tgt := 21) hx hb dX12_sitters_16 (by decide) (fun c => ?_) (fun c => absurd c (by decide))
      refine lv_aload_n hx hb dX12_sitters_21 rfl (lv_at hl 0 rfl) ?_
      refine sl_gM_0_51_12 hx hb hts hown hK hP dX12_sitters_22 ?_
      refine lv_iload_n hx hb dX12_sitters_25 rfl (lv_at hl 1 rfl) ?_
      refine sg_iald hx hb hK hP 22 (by decide) 0 rfl rfl (i := x0) (vp_in_iff.mpr ⟨by omega, by omega⟩) dX12_sitters_26 ?_
      refine lv_topi (fun v_109 ev_109 => ?_)
      replace hs := hs.trans ((if_pos rfl).trans (spl_e ev_109 rfl))
      have q_110 : (-1) ≤ v_109.toInt ∧ v_109.toInt ≤ 54 := by rw [ev_109]; exact hI 22 _
      refine lv_if_lt (tgt := 44) hx hb dX12_sitters_27 (by decide) (fun c => ?_) (fun c => ?_)
      · skip
        have c_111 : v_109.toInt < 0 := (by first | exact (cm_lt1 ti_0 c) | (have z := bn_lt c; have k1 : (0 : Int32).toInt = 0 := ti_0; omega))
        exact blk_44 f _ _ _ (hs.trans ((if_pos c_111).trans rfl)) ⟨by omega, by omega⟩ ⟨by omega, by omega⟩ hI hF hP hS (lv_sub hl [0, 1, 2, 3] rfl)
      · skip
        have c_112 : 0 ≤ v_109.toInt := (by first | exact (cm_nlt1 ti_0 c) | (have z := bn_nlt c; have k1 : (0 : Int32).toInt = 0 := ti_0; omega))
        replace hs := hs.trans ((if_neg (Int.not_lt.mpr c_112)).trans rfl)
        refine lv_aload_n hx hb dX12_sitters_30 rfl (lv_at hl 0 rfl) ?_
        refine sl_gM_0_51_12 hx hb hts hown hK hP dX12_sitters_31 ?_
        refine lv_iload_n hx hb dX12_sitters_34 rfl (lv_at hl 1 rfl) ?_
        refine sg_iald hx hb hK hP 22 (by decide) 0 rfl rfl (i := x0) (vp_in_iff.mpr ⟨by omega, by omega⟩) dX12_sitters_35 ?_
        rw [← ev_109]
        refine lv_bipush (v := 50) hx hb dX12_sitters_36 bp_50 ?_
        refine lv_icmp_eq (tgt := 44) hx hb dX12_sitters_38 (by decide) (fun c => ?_) (fun c => ?_)
        · skip
          have c_113 : v_109.toInt = 50 := (by first | exact (cm_eq1 ti_50 c) | (have z := Int32.toInt_inj.mpr c; have k1 : (50 : Int32).toInt = 50 := ti_50; omega))
          exact blk_44 f _ _ _ (hs.trans ((if_pos c_113).trans rfl)) ⟨by omega, by omega⟩ ⟨by omega, by omega⟩ hI hF hP hS (lv_sub hl [0, 1, 2, 3] rfl)
        · skip
          have c_114 : v_109.toInt ≠ 50 := (by first | exact (cm_ne1 ti_50 c) | (have z := bn_ne c; have k1 : (50 : Int32).toInt = 50 := ti_50; omega))
          refine lv_bipush (v := (-12)) hx hb dX12_sitters_41 bp_m12 ?_
          have k99 : ((-12) : Int32).toInt = (-12) := ti_m12
          exact hret _ _ _ _ (-12) f L Q dX12_sitters_43 hP hS ⟨⟨hI, hF, rfl, rfl⟩, (by decide), (Eq.trans (Eq.symm (hs.trans ((if_neg c_114).trans rfl))) hsp)⟩
    · skip
      have hc_108 := hq
      refine lv_if_ne (tgt := 21) hx hb dX12_sitters_16 (by decide) (fun c => absurd c (by decide)) (fun c => ?_)
      refine lv_iconst (v := (-1)) hx hb dX12_sitters_19 ic_m1 ?_
      have k99 : ((-1) : Int32).toInt = (-1) := ti_m1
      exact hret _ _ _ _ (-1) f L Q dX12_sitters_20 hP hS ⟨⟨hI, hF, rfl, rfl⟩, (by decide), (Eq.trans (Eq.symm (hs.trans ((if_neg (by decide)).trans rfl))) hsp)⟩
  · skip
    have hc_98 := hq
    refine lv_if_eq (tgt := 19) hx hb dX12_sitters_4 (by decide) (fun c => ?_) (fun c => absurd c (by decide))
    refine lv_iconst (v := (-1)) hx hb dX12_sitters_19 ic_m1 ?_
    have k99 : ((-1) : Int32).toInt = (-1) := ti_m1
    exact hret _ _ _ _ (-1) f L Q dX12_sitters_20 hP hS ⟨⟨hI, hF, rfl, rfl⟩, (by decide), (Eq.trans (Eq.symm (hs.trans ((if_neg (by decide)).trans rfl))) hsp)⟩

set_option maxHeartbeats 4000000 in
set_option maxRecDepth 100000 in
theorem kX12_isSitter (l : Launch) (D : va_G) (ca : Nat → ClassId) (za h : Nat → Nat) (hh : sgH 26 h) (f : sg_F) (L : sg_L) (Q : sg_Q) (hI : sgI loM hiM f) (x0 : Int64) (sz : Nat) : Met l yX12_isSitter gwX12_isSitter { frames := 1, cells := 0, slots := 0, locals := 25 } (sgP D vwCl (tyX ca) 26 h (eM ca h) zcM za f L Q sz [.ref (h 0), .long x0]) (sgQi D vwCl 26 h (eM ca h) sz (fun r f1 L1 Q1 => ((f1 = f ∧ L1 = L ∧ Q1 = Q) ∧ ((r = 1 ∧ (0 ≤ x0.toInt ∧ x0.toInt < (f 0 6).toInt)) ∨ (r = 0 ∧ (¬ (0 ≤ x0.toInt ∧ x0.toInt < (f 0 6).toInt)))) ∧ (r) = sX12_isSitter x0 f L))) 0 0 (sgA 26 h sz) := by
  refine sg_ofWz (cc := cX12_isSitter) (maxL := 3) RX12 (by decide) rfl rfl (Nat.le_of_ble_eq_true rfl) ?_
  intro p e s m below meth cd Qz ls hx hb hml hown hts hK hZ hP hS hl hret
  have hA := sgY.self (n := 26) (h := h) (sz := s.heap.size)
  have hl : lv_has ls 3 [(0, .ref (h 0)), (1, .long x0)] := hl
  obtain ⟨H, hH⟩ : ∃ z : Heap, z = s.heap := ⟨_, rfl⟩
  obtain ⟨locs, hlo⟩ : ∃ z : List Loc, z = [] := ⟨_, rfl⟩
  have hP : va_P D vwCl (sgw 26 h (eM ca h) f L Q) H := by rw [hH]; exact hP
  have hS : va_S (sgA 26 h s.heap.size) s.heap H locs := by rw [hH, hlo]; exact hS
  suffices hgo : W p l e ({ frames := 1, cells := 0, slots := 0, locals := 25 }) s m ([.ref (h 0), .long x0] : List Value).toArray below meth cd H locs 0 0 Qz (F0 m 0 ls []) by rw [hH, hlo] at hgo; exact hgo
  clear hH hlo
  obtain ⟨sp, hsp⟩ : ∃ z : Int32, z = sX12_isSitter x0 f L := ⟨_, rfl⟩
  have hs : sp = sX12_isSitter x0 f L := hsp
  obtain ⟨v_1, ev_1⟩ : ∃ z : Int32, z = f 0 6 := ⟨_, rfl⟩
  have q_2 : 0 ≤ v_1.toInt ∧ v_1.toInt ≤ 8 := by rw [ev_1]; exact hI 0 6
  have o_3 : (f 0 6).toInt = v_1.toInt := (congrArg Int32.toInt (show f 0 6 = v_1 from ev_1.symm))
  refine lv_lload_n hx hb dX12_isSitter_0 rfl (lv_at hl 1 rfl) ?_
  refine lv_lconst (v := 0) hx hb dX12_isSitter_1 (by decide) ?_
  refine lv_aload_n hx hb dX12_isSitter_2 rfl (lv_at hl 0 rfl) ?_
  refine sl_gM_0_6_12 (v := v_1) hx hb hts hown hK hP (show f 0 6 = v_1 from ev_1.symm) dX12_isSitter_3 ?_
  refine lv_iconst (v := 1) hx hb dX12_isSitter_6 ic_1 ?_
  refine lv_isub hx hb dX12_isSitter_7 ?_
  refine lv_topi (fun v_4 ev_4 => ?_)
  have q_5 : v_4.toInt = v_1.toInt - 1 := by rw [ev_4]; first | exact cm_sub ti_1 (by omega) (by omega) | (have k1 : (1 : Int32).toInt = 1 := ti_1; exact (bn_subI (by omega) (by omega)).trans (by omega))
  obtain ⟨w_6, ew_6⟩ : ∃ z : Int64, z = Int32.toInt64 v_4 := ⟨_, rfl⟩
  have q_7 : w_6.toInt = v_4.toInt := by rw [ew_6]; exact Int32.toInt_toInt64 _
  refine lv_i2l (v := w_6) hx hb dX12_isSitter_8 ew_6.symm ?_
  refine sg_calli (va_runS (As := [.long x0, .long 0, .long w_6]) (rest := []) ⟨hx, hb, hml, hown, hts⟩ (kX12_within l D ca za h hh f L Q hI x0 0 w_6 H.size) (va_cwS 3 hts (gw_S (fun _ h => List.mem_cons_of_mem _ h) mw_631 mw_632 mw_619 mw_630) rfl rfl rfl hd_yX12_within.2 ⟨Nat.le_of_ble_eq_true rfl, Nat.le_of_ble_eq_true rfl⟩) (sg_preS hA hK hP hS hZ) rfl rfl hl.1 rfl (lv_room (Nat.le_of_ble_eq_true rfl)) dX12_isSitter_9 ⟨Nat.le_refl _, Nat.le_refl _⟩) hA hS (fun r_11 f_8 L_9 Q_10 H locs hq hP hS => ?_)
  obtain ⟨⟨ef9, eL9, eQ9⟩, hq, u_12⟩ := hq
  replace hs := hs.trans (spl_e ev_1 (spl_e ev_4 (spl_e ew_6 (spl_e u_12 rfl))))
  rw [ef9, eL9, eQ9] at hP; clear ef9 eL9 eQ9
  have k_13 : (0 : Int64).toInt = 0 := by decide
  rcases hq with ⟨rfl, hq⟩ | ⟨rfl, hq⟩
  · skip
    have hc_14 := hq
    have k99 : (1 : Int32).toInt = 1 := ti_1
    exact hret _ _ _ _ (1) f L Q dX12_isSitter_12 (by decide) hP hS ⟨⟨rfl, rfl, rfl⟩, Or.inl ⟨rfl, by omega⟩, (Eq.trans (Eq.symm (hs.trans ((if_pos rfl).trans rfl))) hsp)⟩
  · skip
    have hc_14 := hq
    have k99 : (0 : Int32).toInt = 0 := ti_0
    exact hret _ _ _ _ (0) f L Q dX12_isSitter_12 (by decide) hP hS ⟨⟨rfl, rfl, rfl⟩, Or.inr (⟨rfl, by omega⟩), (Eq.trans (Eq.symm (hs.trans ((if_neg (by decide)).trans rfl))) hsp)⟩

set_option maxHeartbeats 4000000 in
set_option maxRecDepth 100000 in
theorem kX12_isPart (l : Launch) (D : va_G) (ca : Nat → ClassId) (za h : Nat → Nat) (hh : sgH 26 h) (f : sg_F) (L : sg_L) (Q : sg_Q) (hI : sgI loM hiM f) (x0 : Int32) (sz : Nat) : Met l yX12_isPart gwX12_isPart { frames := 1, cells := 0, slots := 0, locals := 25 } (sgP D vwCl (tyX ca) 26 h (eM ca h) zcM za f L Q sz [.int x0]) (sgQi D vwCl 26 h (eM ca h) sz (fun r f1 L1 Q1 => ((f1 = f ∧ L1 = L ∧ Q1 = Q) ∧ ((r = 1 ∧ (0 ≤ x0.toInt ∧ x0.toInt ≤ 2)) ∨ (r = 0 ∧ (¬ (0 ≤ x0.toInt ∧ x0.toInt ≤ 2)))) ∧ (r) = sX12_isPart x0 f L))) 0 0 (sgA 26 h sz) := by
  refine sg_ofWz (cc := cX12_isPart) (maxL := 1) RX12 (by decide) rfl rfl (Nat.le_of_ble_eq_true rfl) ?_
  intro p e s m below meth cd Qz ls hx hb hml hown hts hK hZ hP hS hl hret
  have hA := sgY.self (n := 26) (h := h) (sz := s.heap.size)
  have hl : lv_has ls 1 [(0, .int x0)] := hl
  obtain ⟨H, hH⟩ : ∃ z : Heap, z = s.heap := ⟨_, rfl⟩
  obtain ⟨locs, hlo⟩ : ∃ z : List Loc, z = [] := ⟨_, rfl⟩
  have hP : va_P D vwCl (sgw 26 h (eM ca h) f L Q) H := by rw [hH]; exact hP
  have hS : va_S (sgA 26 h s.heap.size) s.heap H locs := by rw [hH, hlo]; exact hS
  suffices hgo : W p l e ({ frames := 1, cells := 0, slots := 0, locals := 25 }) s m ([.int x0] : List Value).toArray below meth cd H locs 0 0 Qz (F0 m 0 ls []) by rw [hH, hlo] at hgo; exact hgo
  clear hH hlo
  obtain ⟨sp, hsp⟩ : ∃ z : Int32, z = sX12_isPart x0 f L := ⟨_, rfl⟩
  have hs : sp = sX12_isPart x0 f L := hsp
  refine lv_iload_n hx hb dX12_isPart_0 rfl (lv_at hl 0 rfl) ?_
  obtain ⟨w_1, ew_1⟩ : ∃ z : Int64, z = Int32.toInt64 x0 := ⟨_, rfl⟩
  have q_2 : w_1.toInt = x0.toInt := by rw [ew_1]; exact Int32.toInt_toInt64 _
  refine lv_i2l (v := w_1) hx hb dX12_isPart_1 ew_1.symm ?_
  refine lv_lconst (v := 0) hx hb dX12_isPart_2 (by decide) ?_
  refine lv_ldc2 (v := 2) hx hb hown (hts _ (List.mem_cons_of_mem _ mw_629)) dX12_isPart_3 ?_
  refine sg_calli (va_runS (As := [.long w_1, .long 0, .long 2]) (rest := []) ⟨hx, hb, hml, hown, hts⟩ (kX12_within l D ca za h hh f L Q hI w_1 0 2 H.size) (va_cwS 3 hts (gw_S (fun _ h => List.mem_cons_of_mem _ h) mw_631 mw_632 mw_619 mw_630) rfl rfl rfl hd_yX12_within.2 ⟨Nat.le_of_ble_eq_true rfl, Nat.le_of_ble_eq_true rfl⟩) (sg_preS hA hK hP hS hZ) rfl rfl hl.1 rfl (lv_room (Nat.le_of_ble_eq_true rfl)) dX12_isPart_6 ⟨Nat.le_refl _, Nat.le_refl _⟩) hA hS (fun r_6 f_3 L_4 Q_5 H locs hq hP hS => ?_)
  obtain ⟨⟨ef9, eL9, eQ9⟩, hq, u_7⟩ := hq
  replace hs := hs.trans (spl_e ew_1 (spl_e u_7 rfl))
  rw [ef9, eL9, eQ9] at hP; clear ef9 eL9 eQ9
  have k_8 : (0 : Int64).toInt = 0 := by decide
  have k_9 : (2 : Int64).toInt = 2 := by decide
  rcases hq with ⟨rfl, hq⟩ | ⟨rfl, hq⟩
  · skip
    have hc_10 := hq
    have k99 : (1 : Int32).toInt = 1 := ti_1
    exact hret _ _ _ _ (1) f L Q dX12_isPart_9 (by decide) hP hS ⟨⟨rfl, rfl, rfl⟩, Or.inl ⟨rfl, by omega⟩, (Eq.trans (Eq.symm (hs.trans ((if_pos rfl).trans rfl))) hsp)⟩
  · skip
    have hc_10 := hq
    have k99 : (0 : Int32).toInt = 0 := ti_0
    exact hret _ _ _ _ (0) f L Q dX12_isPart_9 (by decide) hP hS ⟨⟨rfl, rfl, rfl⟩, Or.inr (⟨rfl, by omega⟩), (Eq.trans (Eq.symm (hs.trans ((if_neg (by decide)).trans rfl))) hsp)⟩

set_option maxHeartbeats 4000000 in
set_option maxRecDepth 100000 in
theorem kX12_placeOf (l : Launch) (D : va_G) (ca : Nat → ClassId) (za h : Nat → Nat) (hh : sgH 26 h) (f : sg_F) (L : sg_L) (Q : sg_Q) (hI : sgI loM hiM f) (x0 : Int32) (x1 : Int32) (sz : Nat) : Met l yX12_placeOf gwX12_placeOf { frames := 2, cells := 0, slots := 0, locals := 47 } (sgP D vwCl (tyX ca) 26 h (eM ca h) zcM za f L Q sz [.ref (h 0), .int x0, .int x1]) (sgQi D vwCl 26 h (eM ca h) sz (fun r f1 L1 Q1 => ((f1 = f ∧ L1 = L ∧ Q1 = Q) ∧ ((-1) ≤ r.toInt ∧ r.toInt ≤ 70) ∧ (x1.toInt ≠ 10 ∨ 64 ≤ r.toInt ∨ r.toInt = -1) ∧ (r) = sX12_placeOf x0 x1 f L))) 0 0 (sgA 26 h sz) := by
  refine sg_ofWi (cc := cX12_placeOf) (maxL := 3) RX12 (by decide) rfl rfl (Nat.le_of_ble_eq_true rfl) ?_
  intro p e s m below meth cd Qz ls hx hb hml hown hts hK hZ hP hS hl hret
  have hA := sgY.self (n := 26) (h := h) (sz := s.heap.size)
  have hl : lv_has ls 3 [(0, .ref (h 0)), (1, .int x0), (2, .int x1)] := hl
  obtain ⟨H, hH⟩ : ∃ z : Heap, z = s.heap := ⟨_, rfl⟩
  obtain ⟨locs, hlo⟩ : ∃ z : List Loc, z = [] := ⟨_, rfl⟩
  have hP : va_P D vwCl (sgw 26 h (eM ca h) f L Q) H := by rw [hH]; exact hP
  have hS : va_S (sgA 26 h s.heap.size) s.heap H locs := by rw [hH, hlo]; exact hS
  suffices hgo : W p l e ({ frames := 2, cells := 0, slots := 0, locals := 47 }) s m ([.ref (h 0), .int x0, .int x1] : List Value).toArray below meth cd H locs 0 0 Qz (F0 m 0 ls []) by rw [hH, hlo] at hgo; exact hgo
  clear hH hlo
  obtain ⟨sp, hsp⟩ : ∃ z : Int32, z = sX12_placeOf x0 x1 f L := ⟨_, rfl⟩
  have hs : sp = sX12_placeOf x0 x1 f L := hsp
  refine lv_iload_n hx hb dX12_placeOf_0 rfl (lv_at hl 2 rfl) ?_
  obtain ⟨w_1, ew_1⟩ : ∃ z : Int64, z = Int32.toInt64 x1 := ⟨_, rfl⟩
  have q_2 : w_1.toInt = x1.toInt := by rw [ew_1]; exact Int32.toInt_toInt64 _
  refine lv_i2l (v := w_1) hx hb dX12_placeOf_1 ew_1.symm ?_
  refine lv_lconst (v := 0) hx hb dX12_placeOf_2 (by decide) ?_
  refine lv_ldc2 (v := 7) hx hb hown (hts _ (List.mem_cons_of_mem _ mw_620)) dX12_placeOf_3 ?_
  refine sg_calli (va_runS (As := [.long w_1, .long 0, .long 7]) (rest := []) ⟨hx, hb, hml, hown, hts⟩ (kX12_within l D ca za h hh f L Q hI w_1 0 7 H.size) (va_cwS 3 hts (gw_S (fun _ h => List.mem_cons_of_mem _ h) mw_631 mw_632 mw_619 mw_630) rfl rfl rfl hd_yX12_within.2 ⟨Nat.le_of_ble_eq_true rfl, Nat.le_of_ble_eq_true rfl⟩) (sg_preS hA hK hP hS hZ) rfl rfl hl.1 rfl (lv_room (Nat.le_of_ble_eq_true rfl)) dX12_placeOf_6 ⟨Nat.le_refl _, Nat.le_refl _⟩) hA hS (fun r_6 f_3 L_4 Q_5 H locs hq hP hS => ?_)
  obtain ⟨⟨ef9, eL9, eQ9⟩, hq, u_7⟩ := hq
  replace hs := hs.trans (spl_e ew_1 (spl_e u_7 rfl))
  rw [ef9, eL9, eQ9] at hP; clear ef9 eL9 eQ9
  have k_8 : (0 : Int64).toInt = 0 := by decide
  have k_9 : (7 : Int64).toInt = 7 := by decide
  rcases hq with ⟨rfl, hq⟩ | ⟨rfl, hq⟩
  · skip
    have hc_10 := hq
    refine lv_if_eq (tgt := 32) hx hb dX12_placeOf_9 (by decide) (fun c => absurd c (by decide)) (fun c => ?_)
    refine lv_aload_n hx hb dX12_placeOf_12 rfl (lv_at hl 0 rfl) ?_
    refine lv_iload_n hx hb dX12_placeOf_13 rfl (lv_at hl 1 rfl) ?_
    obtain ⟨w_11, ew_11⟩ : ∃ z : Int64, z = Int32.toInt64 x0 := ⟨_, rfl⟩
    have q_12 : w_11.toInt = x0.toInt := by rw [ew_11]; exact Int32.toInt_toInt64 _
    refine lv_i2l (v := w_11) hx hb dX12_placeOf_14 ew_11.symm ?_
    obtain ⟨v_13, ev_13⟩ : ∃ z : Int32, z = f 0 6 := ⟨_, rfl⟩
    have q_14 : 0 ≤ v_13.toInt ∧ v_13.toInt ≤ 8 := by rw [ev_13]; exact hI 0 6
    have q_15 : (f 0 6).toInt = v_13.toInt := (congrArg Int32.toInt (show f 0 6 = v_13 from ev_13.symm))
    refine sg_calli (va_runV (As := [.long w_11]) (rest := []) ⟨hx, hb, hml, hown, hts⟩ (kX12_isSitter l D ca za h hh f L Q hI w_11 H.size) (sl_c12_isSitter_1_0_0_25_12 hts ⟨Nat.le_of_ble_eq_true rfl, Nat.le_of_ble_eq_true rfl⟩) (sl_vM_0 hA hK hP hS hZ) rfl rfl hl.1 rfl (lv_room (Nat.le_of_ble_eq_true rfl)) dX12_placeOf_15 ⟨Nat.le_refl _, Nat.le_refl _⟩) hA hS (fun r_20 f_17 L_18 Q_19 H locs hq hP hS => ?_)
    obtain ⟨⟨ef9, eL9, eQ9⟩, hq, u_21⟩ := hq
    replace hs := hs.trans ((if_pos rfl).trans (spl_e ew_11 (spl_e ev_13 (spl_e u_21 rfl))))
    rw [ef9, eL9, eQ9] at hP; clear ef9 eL9 eQ9
    rcases hq with ⟨rfl, hq⟩ | ⟨rfl, hq⟩
    · skip
      have hc_22 := hq
      refine lv_if_eq (tgt := 30) hx hb dX12_placeOf_18 (by decide) (fun c => absurd c (by decide)) (fun c => ?_)
      refine lv_bipush (v := 8) hx hb dX12_placeOf_21 bp_8 ?_
      refine lv_iload_n hx hb dX12_placeOf_23 rfl (lv_at hl 2 rfl) ?_
      refine lv_imul hx hb dX12_placeOf_24 ?_
      refine lv_topi (fun v_23 ev_23 => ?_)
      have q_24 : v_23.toInt = 8 * x1.toInt := by rw [ev_23]; exact bn_mulJ (by decide) (by omega) (by omega)
      refine lv_iload_n hx hb dX12_placeOf_25 rfl (lv_at hl 1 rfl) ?_
      refine lv_iadd hx hb dX12_placeOf_26 ?_
      refine lv_topi (fun v_25 ev_25 => ?_)
      have q_26 : v_25.toInt = v_23.toInt + x0.toInt := by rw [ev_25]; first | exact bn_addI (by omega) (by omega) | exact (bn_addI (by omega) (by omega)).trans (by omega)
      refine lv_goto (tgt := 31) hx hb dX12_placeOf_27 (by decide) ?_
      exact hret _ _ _ _ (v_25) f L Q dX12_placeOf_31 hP hS ⟨⟨rfl, rfl, rfl⟩, ⟨by omega, by omega⟩, (by omega), (Eq.trans (Eq.symm (hs.trans ((if_pos rfl).trans (spl_e ev_23 (spl_e ev_25 rfl))))) hsp)⟩
    · skip
      have hc_22 := hq
      refine lv_if_eq (tgt := 30) hx hb dX12_placeOf_18 (by decide) (fun c => ?_) (fun c => absurd c (by decide))
      refine lv_iconst (v := (-1)) hx hb dX12_placeOf_30 ic_m1 ?_
      have k99 : ((-1) : Int32).toInt = (-1) := ti_m1
      exact hret _ _ _ _ (-1) f L Q dX12_placeOf_31 hP hS ⟨⟨rfl, rfl, rfl⟩, (by decide), (by omega), (Eq.trans (Eq.symm (hs.trans ((if_neg (by decide)).trans rfl))) hsp)⟩
  · skip
    have hc_10 := hq
    refine lv_if_eq (tgt := 32) hx hb dX12_placeOf_9 (by decide) (fun c => ?_) (fun c => absurd c (by decide))
    refine lv_iload_n hx hb dX12_placeOf_32 rfl (lv_at hl 2 rfl) ?_
    refine lv_i2l (v := w_1) hx hb dX12_placeOf_33 ew_1.symm ?_
    refine lv_ldc2 (v := 8) hx hb hown (hts _ (List.mem_cons_of_mem _ mw_633)) dX12_placeOf_34 ?_
    refine lv_ldc2 (v := 9) hx hb hown (hts _ (List.mem_cons_of_mem _ mw_634)) dX12_placeOf_37 ?_
    refine sg_calli (va_runS (As := [.long w_1, .long 8, .long 9]) (rest := []) ⟨hx, hb, hml, hown, hts⟩ (kX12_within l D ca za h hh f L Q hI w_1 8 9 H.size) (va_cwS 3 hts (gw_S (fun _ h => List.mem_cons_of_mem _ h) mw_631 mw_632 mw_619 mw_630) rfl rfl rfl hd_yX12_within.2 ⟨Nat.le_of_ble_eq_true rfl, Nat.le_of_ble_eq_true rfl⟩) (sg_preS hA hK hP hS hZ) rfl rfl hl.1 rfl (lv_room (Nat.le_of_ble_eq_true rfl)) dX12_placeOf_40 ⟨Nat.le_refl _, Nat.le_refl _⟩) hA hS (fun r_30 f_27 L_28 Q_29 H locs hq hP hS => ?_)
    obtain ⟨⟨ef9, eL9, eQ9⟩, hq, u_31⟩ := hq
    replace hs := hs.trans ((if_neg (by decide)).trans (spl_e u_31 rfl))
    rw [ef9, eL9, eQ9] at hP; clear ef9 eL9 eQ9
    have k_32 : (8 : Int64).toInt = 8 := by decide
    have k_33 : (9 : Int64).toInt = 9 := by decide
    rcases hq with ⟨rfl, hq⟩ | ⟨rfl, hq⟩
    · skip
      have hc_34 := hq
      refine lv_if_eq (tgt := 69) hx hb dX12_placeOf_43 (by decide) (fun c => absurd c (by decide)) (fun c => ?_)
      refine lv_iload_n hx hb dX12_placeOf_46 rfl (lv_at hl 1 rfl) ?_
      refine sg_calli (va_runS (As := [.int x0]) (rest := []) ⟨hx, hb, hml, hown, hts⟩ (kX12_isPart l D ca za h hh f L Q hI x0 H.size) (va_cwS 1 hts (gw_S (fun _ h => List.mem_cons_of_mem _ h) mw_636 mw_637 mw_619 mw_635) rfl rfl rfl hd_yX12_isPart.2 ⟨Nat.le_of_ble_eq_true rfl, Nat.le_of_ble_eq_true rfl⟩) (sg_preS hA hK hP hS hZ) rfl rfl hl.1 rfl (lv_room (Nat.le_of_ble_eq_true rfl)) dX12_placeOf_47 ⟨Nat.le_refl _, Nat.le_refl _⟩) hA hS (fun r_38 f_35 L_36 Q_37 H locs hq hP hS => ?_)
      obtain ⟨⟨ef9, eL9, eQ9⟩, hq, u_39⟩ := hq
      replace hs := hs.trans ((if_pos rfl).trans (spl_e u_39 rfl))
      rw [ef9, eL9, eQ9] at hP; clear ef9 eL9 eQ9
      rcases hq with ⟨rfl, hq⟩ | ⟨rfl, hq⟩
      · skip
        have hc_40 := hq
        refine lv_if_eq (tgt := 67) hx hb dX12_placeOf_50 (by decide) (fun c => absurd c (by decide)) (fun c => ?_)
        refine lv_bipush (v := 64) hx hb dX12_placeOf_53 bp_64 ?_
        refine lv_iconst (v := 3) hx hb dX12_placeOf_55 ic_3 ?_
        refine lv_iload_n hx hb dX12_placeOf_56 rfl (lv_at hl 2 rfl) ?_
        refine lv_bipush (v := 8) hx hb dX12_placeOf_57 bp_8 ?_
        refine lv_isub hx hb dX12_placeOf_59 ?_
        refine lv_topi (fun v_41 ev_41 => ?_)
        have q_42 : v_41.toInt = x1.toInt - 8 := by rw [ev_41]; first | exact cm_sub ti_8 (by omega) (by omega) | (have k1 : (8 : Int32).toInt = 8 := ti_8; exact (bn_subI (by omega) (by omega)).trans (by omega))
        refine lv_imul hx hb dX12_placeOf_60 ?_
        refine lv_topi (fun v_43 ev_43 => ?_)
        have q_44 : v_43.toInt = 3 * v_41.toInt := by rw [ev_43]; exact bn_mulJ (by decide) (by omega) (by omega)
        refine lv_iadd hx hb dX12_placeOf_61 ?_
        refine lv_topi (fun v_45 ev_45 => ?_)
        have q_46 : v_45.toInt = 64 + v_43.toInt := by rw [ev_45]; have k0 : (64 : Int32).toInt = 64 := ti_64; exact (bn_addI (by omega) (by omega)).trans (by omega)
        refine lv_iload_n hx hb dX12_placeOf_62 rfl (lv_at hl 1 rfl) ?_
        refine lv_iadd hx hb dX12_placeOf_63 ?_
        refine lv_topi (fun v_47 ev_47 => ?_)
        have q_48 : v_47.toInt = v_45.toInt + x0.toInt := by rw [ev_47]; first | exact bn_addI (by omega) (by omega) | exact (bn_addI (by omega) (by omega)).trans (by omega)
        refine lv_goto (tgt := 68) hx hb dX12_placeOf_64 (by decide) ?_
        exact hret _ _ _ _ (v_47) f L Q dX12_placeOf_68 hP hS ⟨⟨rfl, rfl, rfl⟩, ⟨by omega, by omega⟩, (by omega), (Eq.trans (Eq.symm (hs.trans ((if_pos rfl).trans (spl_e ev_41 (spl_e ev_43 (spl_e ev_45 (spl_e ev_47 rfl))))))) hsp)⟩
      · skip
        have hc_40 := hq
        refine lv_if_eq (tgt := 67) hx hb dX12_placeOf_50 (by decide) (fun c => ?_) (fun c => absurd c (by decide))
        refine lv_iconst (v := (-1)) hx hb dX12_placeOf_67 ic_m1 ?_
        have k99 : ((-1) : Int32).toInt = (-1) := ti_m1
        exact hret _ _ _ _ (-1) f L Q dX12_placeOf_68 hP hS ⟨⟨rfl, rfl, rfl⟩, (by decide), (by omega), (Eq.trans (Eq.symm (hs.trans ((if_neg (by decide)).trans rfl))) hsp)⟩
    · skip
      have hc_34 := hq
      refine lv_if_eq (tgt := 69) hx hb dX12_placeOf_43 (by decide) (fun c => ?_) (fun c => absurd c (by decide))
      refine lv_iload_n hx hb dX12_placeOf_69 rfl (lv_at hl 2 rfl) ?_
      refine lv_bipush (v := 10) hx hb dX12_placeOf_70 bp_10 ?_
      refine lv_icmp_ne (tgt := 84) hx hb dX12_placeOf_72 (by decide) (fun c => ?_) (fun c => ?_)
      · skip
        have c_49 : x1.toInt ≠ 10 := (by first | exact (cm_ne1 ti_10 c) | (have z := bn_ne c; have k1 : (10 : Int32).toInt = 10 := ti_10; omega))
        refine lv_iconst (v := (-1)) hx hb dX12_placeOf_84 ic_m1 ?_
        have k99 : ((-1) : Int32).toInt = (-1) := ti_m1
        exact hret _ _ _ _ (-1) f L Q dX12_placeOf_85 hP hS ⟨⟨rfl, rfl, rfl⟩, (by decide), (by omega), (Eq.trans (Eq.symm (hs.trans ((if_neg (by decide)).trans ((if_neg c_49).trans rfl)))) hsp)⟩
      · skip
        have c_50 : x1.toInt = 10 := (by first | exact (cm_eq1 ti_10 c) | (have z := Int32.toInt_inj.mpr c; have k1 : (10 : Int32).toInt = 10 := ti_10; omega))
        replace hs := hs.trans ((if_neg (by decide)).trans ((if_pos c_50).trans rfl))
        refine lv_iload_n hx hb dX12_placeOf_75 rfl (lv_at hl 1 rfl) ?_
        refine lv_if_ne (tgt := 84) hx hb dX12_placeOf_76 (by decide) (fun c => ?_) (fun c => ?_)
        · skip
          have c_51 : x0.toInt ≠ 0 := (by first | exact (cm_ne1 ti_0 c) | (have z := bn_ne c; have k1 : (0 : Int32).toInt = 0 := ti_0; omega))
          refine lv_iconst (v := (-1)) hx hb dX12_placeOf_84 ic_m1 ?_
          have k99 : ((-1) : Int32).toInt = (-1) := ti_m1
          exact hret _ _ _ _ (-1) f L Q dX12_placeOf_85 hP hS ⟨⟨rfl, rfl, rfl⟩, (by decide), (by omega), (Eq.trans (Eq.symm (hs.trans ((if_neg c_51).trans rfl))) hsp)⟩
        · skip
          have c_52 : x0.toInt = 0 := (by first | exact (cm_eq1 ti_0 c) | (have z := Int32.toInt_inj.mpr c; have k1 : (0 : Int32).toInt = 0 := ti_0; omega))
          refine lv_bipush (v := 70) hx hb dX12_placeOf_79 bp_70 ?_
          refine lv_goto (tgt := 85) hx hb dX12_placeOf_81 (by decide) ?_
          have k99 : (70 : Int32).toInt = 70 := ti_70
          exact hret _ _ _ _ (70) f L Q dX12_placeOf_85 hP hS ⟨⟨rfl, rfl, rfl⟩, (by decide), (by omega), (Eq.trans (Eq.symm (hs.trans ((if_pos c_52).trans rfl))) hsp)⟩

set_option maxHeartbeats 4000000 in
set_option maxRecDepth 100000 in
theorem kX12_mostOf (l : Launch) (D : va_G) (ca : Nat → ClassId) (za h : Nat → Nat) (hh : sgH 26 h) (f : sg_F) (L : sg_L) (Q : sg_Q) (hI : sgI loM hiM f) (x0 : Int32) (sz : Nat) : Met l yX12_mostOf gwX12_mostOf { frames := 0, cells := 0, slots := 0, locals := 0 } (sgP D vwCl (tyX ca) 26 h (eM ca h) zcM za f L Q sz [.int x0]) (sgQi D vwCl 26 h (eM ca h) sz (fun r f1 L1 Q1 => ((f1 = f ∧ L1 = L ∧ Q1 = Q) ∧ (3 ≤ r.toInt ∧ r.toInt ≤ 99) ∧ (x0.toInt = 10 ∨ r.toInt ≤ 60) ∧ (r) = sX12_mostOf x0 f L))) 0 0 (sgA 26 h sz) := by
  refine sg_ofWi (cc := cX12_mostOf) (maxL := 1) RX12 (by decide) rfl rfl (Nat.le_of_ble_eq_true rfl) ?_
  intro p e s m below meth cd Qz ls hx hb hml hown hts hK hZ hP hS hl hret
  have hA := sgY.self (n := 26) (h := h) (sz := s.heap.size)
  have hl : lv_has ls 1 [(0, .int x0)] := hl
  obtain ⟨H, hH⟩ : ∃ z : Heap, z = s.heap := ⟨_, rfl⟩
  obtain ⟨locs, hlo⟩ : ∃ z : List Loc, z = [] := ⟨_, rfl⟩
  have hP : va_P D vwCl (sgw 26 h (eM ca h) f L Q) H := by rw [hH]; exact hP
  have hS : va_S (sgA 26 h s.heap.size) s.heap H locs := by rw [hH, hlo]; exact hS
  suffices hgo : W p l e ({ frames := 0, cells := 0, slots := 0, locals := 0 }) s m ([.int x0] : List Value).toArray below meth cd H locs 0 0 Qz (F0 m 0 ls []) by rw [hH, hlo] at hgo; exact hgo
  clear hH hlo
  obtain ⟨sp, hsp⟩ : ∃ z : Int32, z = sX12_mostOf x0 f L := ⟨_, rfl⟩
  have hs : sp = sX12_mostOf x0 f L := hsp
  refine lv_iload_n hx hb dX12_mostOf_0 rfl (lv_at hl 0 rfl) ?_
  rcases (show (x0.toInt ≠ 3 ∧ x0.toInt ≠ 4 ∧ x0.toInt ≠ 5 ∧ x0.toInt ≠ 7 ∧ x0.toInt ≠ 8 ∧ x0.toInt ≠ 9 ∧ x0.toInt ≠ 10) ∨ x0.toInt = 3 ∨ x0.toInt = 4 ∨ x0.toInt = 5 ∨ x0.toInt = 7 ∨ x0.toInt = 8 ∨ x0.toInt = 9 ∨ x0.toInt = 10 from by omega) with c | c | c | c | c | c | c | c
  · skip
    have cs_1 := c
    replace hs := hs.trans ((if_neg cs_1.1).trans ((if_neg cs_1.2.1).trans ((if_neg cs_1.2.2.1).trans ((if_neg cs_1.2.2.2.1).trans ((if_neg cs_1.2.2.2.2.1).trans ((if_neg cs_1.2.2.2.2.2.1).trans ((if_neg cs_1.2.2.2.2.2.2).trans rfl)))))))
    rcases (show (x0.toInt < 3 ∨ 10 < x0.toInt) ∨ x0.toInt = 6 from by omega) with c9 | c9
    · skip
      refine lv_tableOut (x := x0) (tgt := 59) hx hb dX12_mostOf_1 c9 (by decide) ?_
      refine lv_bipush (v := 60) hx hb dX12_mostOf_59 bp_60 ?_
      have k99 : (60 : Int32).toInt = 60 := ti_60
      exact hret _ _ _ _ (60) f L Q dX12_mostOf_61 hP hS ⟨⟨rfl, rfl, rfl⟩, (by decide), (by omega), (Eq.trans (Eq.symm (hs.trans ((if_neg (by omega)).trans rfl))) hsp)⟩
    · skip
      refine lv_tableIn (x := x0) (tgt := 59) hx hb dX12_mostOf_1 (by omega) (by omega) (by rw [c9]; rfl) (by decide) ?_
      refine lv_bipush (v := 60) hx hb dX12_mostOf_59 bp_60 ?_
      have k99 : (60 : Int32).toInt = 60 := ti_60
      exact hret _ _ _ _ (60) f L Q dX12_mostOf_61 hP hS ⟨⟨rfl, rfl, rfl⟩, (by decide), (by omega), (Eq.trans (Eq.symm (hs.trans ((if_pos c9).trans rfl))) hsp)⟩
  · skip
    have cs_1 := c
    have c_2 := c
    refine lv_tableIn (x := x0) (tgt := 48) hx hb dX12_mostOf_1 (by omega) (by omega) (by rw [c]; rfl) (by decide) ?_
    refine lv_bipush (v := 9) hx hb dX12_mostOf_48 bp_9 ?_
    have k99 : (9 : Int32).toInt = 9 := ti_9
    exact hret _ _ _ _ (9) f L Q dX12_mostOf_50 hP hS ⟨⟨rfl, rfl, rfl⟩, (by decide), (by omega), (Eq.trans (Eq.symm (hs.trans (((if_pos cs_1).trans rfl)))) hsp)⟩
  · skip
    have cs_1 := c
    have c_3 := c
    refine lv_tableIn (x := x0) (tgt := 48) hx hb dX12_mostOf_1 (by omega) (by omega) (by rw [c]; rfl) (by decide) ?_
    refine lv_bipush (v := 9) hx hb dX12_mostOf_48 bp_9 ?_
    have k99 : (9 : Int32).toInt = 9 := ti_9
    exact hret _ _ _ _ (9) f L Q dX12_mostOf_50 hP hS ⟨⟨rfl, rfl, rfl⟩, (by decide), (by omega), (Eq.trans (Eq.symm (hs.trans (((if_neg (fun z => absurd (z.symm.trans cs_1) (by decide))).trans ((if_pos cs_1).trans rfl))))) hsp)⟩
  · skip
    have cs_1 := c
    have c_4 := c
    refine lv_tableIn (x := x0) (tgt := 51) hx hb dX12_mostOf_1 (by omega) (by omega) (by rw [c]; rfl) (by decide) ?_
    refine lv_bipush (v := 12) hx hb dX12_mostOf_51 bp_12 ?_
    have k99 : (12 : Int32).toInt = 12 := ti_12
    exact hret _ _ _ _ (12) f L Q dX12_mostOf_53 hP hS ⟨⟨rfl, rfl, rfl⟩, (by decide), (by omega), (Eq.trans (Eq.symm (hs.trans (((if_neg (fun z => absurd (z.symm.trans cs_1) (by decide))).trans ((if_neg (fun z => absurd (z.symm.trans cs_1) (by decide))).trans ((if_pos cs_1).trans rfl)))))) hsp)⟩
  · skip
    have cs_1 := c
    have c_5 := c
    refine lv_tableIn (x := x0) (tgt := 51) hx hb dX12_mostOf_1 (by omega) (by omega) (by rw [c]; rfl) (by decide) ?_
    refine lv_bipush (v := 12) hx hb dX12_mostOf_51 bp_12 ?_
    have k99 : (12 : Int32).toInt = 12 := ti_12
    exact hret _ _ _ _ (12) f L Q dX12_mostOf_53 hP hS ⟨⟨rfl, rfl, rfl⟩, (by decide), (by omega), (Eq.trans (Eq.symm (hs.trans (((if_neg (fun z => absurd (z.symm.trans cs_1) (by decide))).trans ((if_neg (fun z => absurd (z.symm.trans cs_1) (by decide))).trans ((if_neg (fun z => absurd (z.symm.trans cs_1) (by decide))).trans ((if_pos cs_1).trans rfl))))))) hsp)⟩
  · skip
    have cs_1 := c
    have c_6 := c
    refine lv_tableIn (x := x0) (tgt := 54) hx hb dX12_mostOf_1 (by omega) (by omega) (by rw [c]; rfl) (by decide) ?_
    refine lv_iconst (v := 3) hx hb dX12_mostOf_54 ic_3 ?_
    have k99 : (3 : Int32).toInt = 3 := ti_3
    exact hret _ _ _ _ (3) f L Q dX12_mostOf_55 hP hS ⟨⟨rfl, rfl, rfl⟩, (by decide), (by omega), (Eq.trans (Eq.symm (hs.trans (((if_neg (fun z => absurd (z.symm.trans cs_1) (by decide))).trans ((if_neg (fun z => absurd (z.symm.trans cs_1) (by decide))).trans ((if_neg (fun z => absurd (z.symm.trans cs_1) (by decide))).trans ((if_neg (fun z => absurd (z.symm.trans cs_1) (by decide))).trans ((if_pos cs_1).trans rfl)))))))) hsp)⟩
  · skip
    have cs_1 := c
    have c_7 := c
    refine lv_tableIn (x := x0) (tgt := 48) hx hb dX12_mostOf_1 (by omega) (by omega) (by rw [c]; rfl) (by decide) ?_
    refine lv_bipush (v := 9) hx hb dX12_mostOf_48 bp_9 ?_
    have k99 : (9 : Int32).toInt = 9 := ti_9
    exact hret _ _ _ _ (9) f L Q dX12_mostOf_50 hP hS ⟨⟨rfl, rfl, rfl⟩, (by decide), (by omega), (Eq.trans (Eq.symm (hs.trans (((if_neg (fun z => absurd (z.symm.trans cs_1) (by decide))).trans ((if_neg (fun z => absurd (z.symm.trans cs_1) (by decide))).trans ((if_neg (fun z => absurd (z.symm.trans cs_1) (by decide))).trans ((if_neg (fun z => absurd (z.symm.trans cs_1) (by decide))).trans ((if_neg (fun z => absurd (z.symm.trans cs_1) (by decide))).trans ((if_pos cs_1).trans rfl))))))))) hsp)⟩
  · skip
    have cs_1 := c
    have c_8 := c
    refine lv_tableIn (x := x0) (tgt := 56) hx hb dX12_mostOf_1 (by omega) (by omega) (by rw [c]; rfl) (by decide) ?_
    refine lv_bipush (v := 99) hx hb dX12_mostOf_56 bp_99 ?_
    have k99 : (99 : Int32).toInt = 99 := ti_99
    exact hret _ _ _ _ (99) f L Q dX12_mostOf_58 hP hS ⟨⟨rfl, rfl, rfl⟩, (by decide), (by omega), (Eq.trans (Eq.symm (hs.trans (((if_neg (fun z => absurd (z.symm.trans cs_1) (by decide))).trans ((if_neg (fun z => absurd (z.symm.trans cs_1) (by decide))).trans ((if_neg (fun z => absurd (z.symm.trans cs_1) (by decide))).trans ((if_neg (fun z => absurd (z.symm.trans cs_1) (by decide))).trans ((if_neg (fun z => absurd (z.symm.trans cs_1) (by decide))).trans ((if_neg (fun z => absurd (z.symm.trans cs_1) (by decide))).trans ((if_pos cs_1).trans rfl)))))))))) hsp)⟩

abbrev WkX12_becomes : List (Nat × Nat × Option Nat) := [(0, 0, some 4), (0, 0, some 5), (1, 1, none), (2, 2, none), (3, 3, none), (4, 4, none)]
set_option maxHeartbeats 4000000 in
set_option maxRecDepth 100000 in
theorem kX12_becomes (l : Launch) (D : va_G) (ca : Nat → ClassId) (za h : Nat → Nat) (hh : sgH 26 h) (f : sg_F) (L : sg_L) (Q : sg_Q) (hI : sgI loM hiM f) (hJ : JM f) (x0 : Int32) (x1 : Int32) (b0 : 0 ≤ x0.toInt ∧ x0.toInt ≤ 70) (b1 : 0 ≤ x1.toInt ∧ x1.toInt ≤ 99) (p0 : 64 ≤ x0.toInt ∨ x1.toInt ≤ 60) (sz : Nat) : Met l yX12_becomes gwX12_becomes { frames := 0, cells := 0, slots := 0, locals := 0 } (sgP D vwCl (tyX ca) 26 h (eM ca h) zcM za f L Q sz [.ref (h 0), .int x0, .int x1]) (sgQi D vwCl 26 h (eM ca h) sz (fun r f1 L1 Q1 => ((sgI loM hiM f1 ∧ sgK WkX12_becomes f f1 ∧ L1 = L ∧ Q1 = Q ∧ JM f1) ∧ (0 ≤ r.toInt ∧ r.toInt ≤ 99) ∧ (r, f1) = sX12_becomes x0 x1 f L))) 0 0 (sgA 26 h sz) := by
  refine sg_ofWi (cc := cX12_becomes) (maxL := 5) RX12 (by decide) rfl rfl (Nat.le_of_ble_eq_true rfl) ?_
  intro p e s m below meth cd Qz ls hx hb hml hown hts hK hZ hP hS hl hret
  have hA := sgY.self (n := 26) (h := h) (sz := s.heap.size)
  have hl : lv_has ls 5 [(0, .ref (h 0)), (1, .int x0), (2, .int x1)] := hl
  obtain ⟨H, hH⟩ : ∃ z : Heap, z = s.heap := ⟨_, rfl⟩
  obtain ⟨locs, hlo⟩ : ∃ z : List Loc, z = [] := ⟨_, rfl⟩
  have hP : va_P D vwCl (sgw 26 h (eM ca h) f L Q) H := by rw [hH]; exact hP
  have hS : va_S (sgA 26 h s.heap.size) s.heap H locs := by rw [hH, hlo]; exact hS
  suffices hgo : W p l e ({ frames := 0, cells := 0, slots := 0, locals := 0 }) s m ([.ref (h 0), .int x0, .int x1] : List Value).toArray below meth cd H locs 0 0 Qz (F0 m 0 ls []) by rw [hH, hlo] at hgo; exact hgo
  clear hH hlo
  obtain ⟨sp, hsp⟩ : ∃ z : Int32 × sg_F, z = sX12_becomes x0 x1 f L := ⟨_, rfl⟩
  have hs : sp = sX12_becomes x0 x1 f L := hsp
  have hF : sgK WkX12_becomes f f := sgK.rf
  have blk_97 : ∀ (y3_97 : Int32) (fp_97 : sg_F) (H : Heap) (locs : List Loc) (ls : Array Slot), sp = sX12_becomes_b97 x0 x1 y3_97 fp_97 L → 0 ≤ (fp_97 0 5).toInt ∧ (fp_97 0 5).toInt ≤ 39 → 0 ≤ y3_97.toInt ∧ y3_97.toInt ≤ 99 → 64 ≤ x0.toInt ∨ y3_97.toInt ≤ 60 → sgI loM hiM fp_97 → sgK WkX12_becomes f fp_97 → JM fp_97 → va_P D vwCl (sgw 26 h (eM ca h) fp_97 L Q) H → va_S (sgA 26 h s.heap.size) s.heap H locs → lv_has ls 5 [(0, .ref (h 0)), (1, .int x0), (2, .int x1), (3, .int y3_97)] → W p l e ({ frames := 0, cells := 0, slots := 0, locals := 0 }) s m ([.ref (h 0), .int x0, .int x1] : List Value).toArray below meth cd H locs 0 0 Qz (F0 m 97 ls []) := by
    intro y3_97 fp_97 H locs ls hs hy0_97 hy1_97 hg0_97 hI hF hJ hP hS hl
    obtain ⟨v_1, ev_1⟩ : ∃ z : Int32, z = fp_97 0 5 := ⟨_, rfl⟩
    have q_2 : 0 ≤ v_1.toInt ∧ v_1.toInt ≤ 40 := by rw [ev_1]; exact hI 0 5
    have q_3 : (fp_97 0 5).toInt = v_1.toInt := by rw [ev_1]
    refine lv_aload_n hx hb dX12_becomes_97 rfl (lv_at hl 0 rfl) ?_
    refine sl_gM_0_1_12 hx hb hts hown hK hP dX12_becomes_98 ?_
    refine lv_aload_n hx hb dX12_becomes_101 rfl (lv_at hl 0 rfl) ?_
    refine sl_gM_0_5_12 (v := v_1) hx hb hts hown hK hP (show fp_97 0 5 = v_1 from ev_1.symm) dX12_becomes_102 ?_
    refine lv_iload_n hx hb dX12_becomes_105 rfl (lv_at hl 1 rfl) ?_
    refine sg_iast hx hb hh hA hK hP hS 2 (by decide) 0 (fun _ => rfl) rfl (i := v_1) (x := x0) (vp_in_iff.mpr ⟨by omega, by omega⟩) dX12_becomes_106 (fun f_4 H locs ef_4 hP hS => ?_)
    have hI : sgI loM hiM f_4 := by rw [ef_4]; exact sgI.put hI 2 v_1.toNatClampNeg (show 0 ≤ (x0 : Int32).toInt ∧ (x0 : Int32).toInt ≤ 70 from b0)
    have hF : sgK WkX12_becomes f f_4 := sgK.put hF ef_4 (by rfl)
    refine lv_aload_n hx hb dX12_becomes_107 rfl (lv_at hl 0 rfl) ?_
    refine sl_gM_0_2_12 hx hb hts hown hK hP dX12_becomes_108 ?_
    refine lv_aload_n hx hb dX12_becomes_111 rfl (lv_at hl 0 rfl) ?_
    refine sl_gM_0_5_12 (v := v_1) hx hb hts hown hK hP (show f_4 0 5 = v_1 from (by rw [ef_4, sg_up_n (by decide)]; exact ev_1.symm)) dX12_becomes_112 ?_
    refine lv_iload_n hx hb dX12_becomes_115 rfl (lv_at hl 3 rfl) ?_
    refine sg_iast hx hb hh hA hK hP hS 3 (by decide) 0 (fun _ => rfl) rfl (i := v_1) (x := y3_97) (vp_in_iff.mpr ⟨by omega, by omega⟩) dX12_becomes_116 (fun f_5 H locs ef_5 hP hS => ?_)
    have hI : sgI loM hiM f_5 := by rw [ef_5]; exact sgI.put hI 3 v_1.toNatClampNeg (show 0 ≤ (y3_97 : Int32).toInt ∧ (y3_97 : Int32).toInt ≤ 99 from hy1_97)
    have hF : sgK WkX12_becomes f f_5 := sgK.put hF ef_5 (by rfl)
    refine lv_aload_n hx hb dX12_becomes_117 rfl (lv_at hl 0 rfl) ?_
    refine sl_gM_0_3_12 hx hb hts hown hK hP dX12_becomes_118 ?_
    refine lv_aload_n hx hb dX12_becomes_121 rfl (lv_at hl 0 rfl) ?_
    refine sl_gM_0_5_12 (v := v_1) hx hb hts hown hK hP (show f_5 0 5 = v_1 from (by rw [ef_5, sg_up_n (by decide)]; exact (by rw [ef_4, sg_up_n (by decide)]; exact ev_1.symm))) dX12_becomes_122 ?_
    refine lv_iload_n hx hb dX12_becomes_125 rfl (lv_at hl 2 rfl) ?_
    refine sg_iast hx hb hh hA hK hP hS 4 (by decide) 0 (fun _ => rfl) rfl (i := v_1) (x := x1) (vp_in_iff.mpr ⟨by omega, by omega⟩) dX12_becomes_126 (fun f_6 H locs ef_6 hP hS => ?_)
    have hI : sgI loM hiM f_6 := by rw [ef_6]; exact sgI.put hI 4 v_1.toNatClampNeg (show 0 ≤ (x1 : Int32).toInt ∧ (x1 : Int32).toInt ≤ 99 from b1)
    have hJ : JM f_6 := JM.three hJ ef_4 ef_5 ef_6 (by omega)
    have hF : sgK WkX12_becomes f f_6 := sgK.put hF ef_6 (by rfl)
    refine lv_aload_n hx hb dX12_becomes_127 rfl (lv_at hl 0 rfl) ?_
    refine lv_dup hx hb dX12_becomes_128 rfl ?_
    refine sl_gM_0_5_12 (v := v_1) hx hb hts hown hK hP (show f_6 0 5 = v_1 from (by rw [ef_6, sg_up_n (by decide)]; exact (by rw [ef_5, sg_up_n (by decide)]; exact (by rw [ef_4, sg_up_n (by decide)]; exact ev_1.symm)))) dX12_becomes_129 ?_
    refine lv_iconst (v := 1) hx hb dX12_becomes_132 ic_1 ?_
    refine lv_iadd hx hb dX12_becomes_133 ?_
    refine lv_topi (fun v_7 ev_7 => ?_)
    have q_8 : v_7.toInt = v_1.toInt + 1 := by rw [ev_7]; first | exact cm_add ti_1 (by omega) (by omega) | (have k1 : (1 : Int32).toInt = 1 := ti_1; exact (bn_addI (by omega) (by omega)).trans (by omega))
    refine sl_pM_0_5_12 (x := v_7) hx hb hts hown hh hA hK hP hS dX12_becomes_134 (fun f_9 H locs ef_9 hP hS => ?_)
    have hI : sgI loM hiM f_9 := by rw [ef_9]; exact sgI.put hI 0 5 (show 0 ≤ (v_7 : Int32).toInt ∧ (v_7 : Int32).toInt ≤ 40 from ⟨by omega, by omega⟩)
    have hF : sgK WkX12_becomes f f_9 := sgK.put hF ef_9 (by rfl)
    refine lv_aload_n hx hb dX12_becomes_137 rfl (lv_at hl 0 rfl) ?_
    refine lv_aload_n hx hb dX12_becomes_138 rfl (lv_at hl 0 rfl) ?_
    refine sl_gM_0_5_12 (v := v_7) hx hb hts hown hK hP (show f_9 0 5 = v_7 from (by rw [ef_9, sg_up_s, sgu_s])) dX12_becomes_139 ?_
    refine sl_pM_0_4_12 (x := v_7) hx hb hts hown hh hA hK hP hS dX12_becomes_142 (fun f_10 H locs ef_10 hP hS => ?_)
    have hI : sgI loM hiM f_10 := by rw [ef_10]; exact sgI.put hI 0 4 (show 0 ≤ (v_7 : Int32).toInt ∧ (v_7 : Int32).toInt ≤ 40 from ⟨by omega, by omega⟩)
    have hJ : JM f_10 := JM.dk hJ ef_9 ef_10 (by omega)
    have hF : sgK WkX12_becomes f f_10 := sgK.put hF ef_10 (by rfl)
    refine lv_aload_n hx hb dX12_becomes_145 rfl (lv_at hl 0 rfl) ?_
    refine sl_gM_0_0_12 hx hb hts hown hK hP dX12_becomes_146 ?_
    refine lv_iload_n hx hb dX12_becomes_149 rfl (lv_at hl 1 rfl) ?_
    refine lv_iload_n hx hb dX12_becomes_150 rfl (lv_at hl 2 rfl) ?_
    refine sg_iast hx hb hh hA hK hP hS 1 (by decide) 0 (fun _ => rfl) rfl (i := x0) (x := x1) (vp_in_iff.mpr ⟨by omega, by omega⟩) dX12_becomes_151 (fun f_11 H locs ef_11 hP hS => ?_)
    have hI : sgI loM hiM f_11 := by rw [ef_11]; exact sgI.put hI 1 x0.toNatClampNeg (segM1_w x1 (by have z := bn_clI (x := x0) (by omega); omega))
    have hJ : JM f_11 := JM.put hJ ef_11 (by decide)
    have hF : sgK WkX12_becomes f f_11 := sgK.put hF ef_11 (by rfl)
    refine lv_iload_n hx hb dX12_becomes_152 rfl (lv_at hl 3 rfl) ?_
    exact hret _ _ _ _ (y3_97) f_11 L Q dX12_becomes_153 hP hS ⟨⟨hI, hF, rfl, rfl, hJ⟩, ⟨by omega, by omega⟩, (Eq.trans (Eq.symm (hs.trans ((spl_e ev_1 (spl_e ef_4 (spl_e ef_5 (spl_e ef_6 (spl_e ev_7 (spl_e ef_9 (spl_e ef_10 (spl_e ef_11 rfl))))))))))) hsp)⟩
  have loop_26 : ∀ (n_26 : Nat) (y3_26 : Int32) (y4_26 : Int32) (fp_26 : sg_F) (H : Heap) (locs : List Loc) (ls : Array Slot), sp = sX12_becomes_l26 x0 x1 n_26 y3_26 y4_26 fp_26 L → 40 - y4_26.toInt < (n_26 : Int) → 40 ≤ (fp_26 0 5).toInt ∧ (fp_26 0 5).toInt ≤ 40 → 0 ≤ y3_26.toInt ∧ y3_26.toInt ≤ 99 → 1 ≤ y4_26.toInt ∧ y4_26.toInt ≤ 40 → 64 ≤ x0.toInt ∨ y3_26.toInt ≤ 60 → sgI loM hiM fp_26 → sgK WkX12_becomes f fp_26 → JM fp_26 → va_P D vwCl (sgw 26 h (eM ca h) fp_26 L Q) H → va_S (sgA 26 h s.heap.size) s.heap H locs → lv_has ls 5 [(0, .ref (h 0)), (1, .int x0), (2, .int x1), (3, .int y3_26), (4, .int y4_26)] → W p l e ({ frames := 0, cells := 0, slots := 0, locals := 0 }) s m ([.ref (h 0), .int x0, .int x1] : List Value).toArray below meth cd H locs 0 0 Qz (F0 m 26 ls []) := by
    intro n_26
    induction n_26 with
    | zero => intro y3_26 y4_26 fp_26 H locs ls hs hm_26 hy0_26 hy1_26 hy2_26 hg0_26 hI hF hJ hP hS hl; exact absurd hm_26 (by omega)
    | succ n_26 ih_26 =>
      intro y3_26 y4_26 fp_26 H locs ls hs hm_26 hy0_26 hy1_26 hy2_26 hg0_26 hI hF hJ hP hS hl
      have hs : sp = sX12_becomes_h26 x0 x1 (sX12_becomes_l26 x0 x1 n_26) y3_26 y4_26 fp_26 L := hs
      obtain ⟨v_12, ev_12⟩ : ∃ z : Int32, z = fp_26 0 5 := ⟨_, rfl⟩
      replace hs := hs.trans (spl_e ev_12 rfl)
      have q_13 : 0 ≤ v_12.toInt ∧ v_12.toInt ≤ 40 := by rw [ev_12]; exact hI 0 5
      have q_14 : (fp_26 0 5).toInt = v_12.toInt := by rw [ev_12]
      refine lv_iload hx hb dX12_becomes_26 (lv_at hl 4 rfl) ?_
      refine lv_bipush (v := 40) hx hb dX12_becomes_28 bp_40 ?_
      refine lv_icmp_ge (tgt := 87) hx hb dX12_becomes_30 (by decide) (fun c => ?_) (fun c => ?_)
      · skip
        have c_15 : 40 ≤ y4_26.toInt := (by first | exact (cm_le0 ti_40 c) | (have z := bn_le c; have k1 : (40 : Int32).toInt = 40 := ti_40; omega))
        refine lv_aload_n hx hb dX12_becomes_87 rfl (lv_at hl 0 rfl) ?_
        refine lv_dup hx hb dX12_becomes_88 rfl ?_
        refine sl_gM_0_5_12 (v := v_12) hx hb hts hown hK hP (show fp_26 0 5 = v_12 from ev_12.symm) dX12_becomes_89 ?_
        refine lv_iconst (v := 1) hx hb dX12_becomes_92 ic_1 ?_
        refine lv_isub hx hb dX12_becomes_93 ?_
        refine lv_topi (fun v_17 ev_17 => ?_)
        have q_18 : v_17.toInt = v_12.toInt - 1 := by rw [ev_17]; first | exact cm_sub ti_1 (by omega) (by omega) | (have k1 : (1 : Int32).toInt = 1 := ti_1; exact (bn_subI (by omega) (by omega)).trans (by omega))
        obtain ⟨v_20, ev_20⟩ : ∃ z : Int32, z = fp_26 0 4 := ⟨_, rfl⟩
        have q_21 : 0 ≤ v_20.toInt ∧ v_20.toInt ≤ 40 := by rw [ev_20]; exact hI 0 4
        have z_19 : (fp_26 0 5).toInt = v_12.toInt := (congrArg Int32.toInt (show fp_26 0 5 = v_12 from ev_12.symm))
        have z_22 : (fp_26 0 4).toInt = v_20.toInt := (congrArg Int32.toInt (show fp_26 0 4 = v_20 from ev_20.symm))
        have zJ2 := hJ.2
        refine sl_pM_0_5_12 (x := v_17) hx hb hts hown hh hA hK hP hS dX12_becomes_94 (fun f_23 H locs ef_23 hP hS => ?_)
        have hI : sgI loM hiM f_23 := by rw [ef_23]; exact sgI.put hI 0 5 (show 0 ≤ (v_17 : Int32).toInt ∧ (v_17 : Int32).toInt ≤ 40 from ⟨by omega, by omega⟩)
        have hJ : JM f_23 := JM.dn hJ ef_23 (by omega)
        have hF : sgK WkX12_becomes f f_23 := sgK.put hF ef_23 (by rfl)
        exact blk_97 y3_26 f_23 _ _ _ (hs.trans ((if_neg (Int.not_lt.mpr c_15)).trans (spl_e ev_17 (spl_e ev_20 (spl_e ef_23 rfl))))) (by have zz0_5 : (f_23 0 5).toInt = v_17.toInt := (congrArg Int32.toInt (show f_23 0 5 = v_17 from (by rw [ef_23, sg_up_s, sgu_s]))); exact ⟨by omega, by omega⟩) hy1_26 (by omega) hI hF hJ hP hS (lv_sub hl [0, 1, 2, 3] rfl)
      · skip
        have c_16 : y4_26.toInt < 40 := (by first | exact (cm_nle0 ti_40 c) | (have z := bn_nle c; have k1 : (40 : Int32).toInt = 40 := ti_40; omega))
        refine lv_aload_n hx hb dX12_becomes_33 rfl (lv_at hl 0 rfl) ?_
        refine sl_gM_0_1_12 hx hb hts hown hK hP dX12_becomes_34 ?_
        refine lv_iload hx hb dX12_becomes_37 (lv_at hl 4 rfl) ?_
        refine lv_iconst (v := 1) hx hb dX12_becomes_39 ic_1 ?_
        refine lv_isub hx hb dX12_becomes_40 ?_
        refine lv_topi (fun v_24 ev_24 => ?_)
        have q_25 : v_24.toInt = y4_26.toInt - 1 := by rw [ev_24]; first | exact cm_sub ti_1 (by omega) (by omega) | (have k1 : (1 : Int32).toInt = 1 := ti_1; exact (bn_subI (by omega) (by omega)).trans (by omega))
        refine lv_aload_n hx hb dX12_becomes_41 rfl (lv_at hl 0 rfl) ?_
        refine sl_gM_0_1_12 hx hb hts hown hK hP dX12_becomes_42 ?_
        refine lv_iload hx hb dX12_becomes_45 (lv_at hl 4 rfl) ?_
        refine sg_iald hx hb hK hP 2 (by decide) 0 rfl rfl (i := y4_26) (vp_in_iff.mpr ⟨by omega, by omega⟩) dX12_becomes_47 ?_
        refine lv_topi (fun v_26 ev_26 => ?_)
        have q_27 : 0 ≤ v_26.toInt ∧ v_26.toInt ≤ 70 := by rw [ev_26]; exact hI 2 _
        refine sg_iast hx hb hh hA hK hP hS 2 (by decide) 0 (fun _ => rfl) rfl (i := v_24) (x := v_26) (vp_in_iff.mpr ⟨by omega, by omega⟩) dX12_becomes_48 (fun f_28 H locs ef_28 hP hS => ?_)
        have hI : sgI loM hiM f_28 := by rw [ef_28]; exact sgI.put hI 2 v_24.toNatClampNeg (show 0 ≤ (v_26 : Int32).toInt ∧ (v_26 : Int32).toInt ≤ 70 from q_27)
        have hF : sgK WkX12_becomes f f_28 := sgK.put hF ef_28 (by rfl)
        refine lv_aload_n hx hb dX12_becomes_49 rfl (lv_at hl 0 rfl) ?_
        refine sl_gM_0_2_12 hx hb hts hown hK hP dX12_becomes_50 ?_
        refine lv_iload hx hb dX12_becomes_53 (lv_at hl 4 rfl) ?_
        refine lv_iconst (v := 1) hx hb dX12_becomes_55 ic_1 ?_
        refine lv_isub hx hb dX12_becomes_56 ?_
        rw [← ev_24]
        refine lv_aload_n hx hb dX12_becomes_57 rfl (lv_at hl 0 rfl) ?_
        refine sl_gM_0_2_12 hx hb hts hown hK hP dX12_becomes_58 ?_
        refine lv_iload hx hb dX12_becomes_61 (lv_at hl 4 rfl) ?_
        refine sg_iald hx hb hK hP 3 (by decide) 0 rfl rfl (i := y4_26) (vp_in_iff.mpr ⟨by omega, by omega⟩) dX12_becomes_63 ?_
        refine lv_topi (fun v_29 ev_29 => ?_)
        have q_30 : 0 ≤ v_29.toInt ∧ v_29.toInt ≤ 99 := by rw [ev_29]; exact hI 3 _
        refine sg_iast hx hb hh hA hK hP hS 3 (by decide) 0 (fun _ => rfl) rfl (i := v_24) (x := v_29) (vp_in_iff.mpr ⟨by omega, by omega⟩) dX12_becomes_64 (fun f_31 H locs ef_31 hP hS => ?_)
        have hI : sgI loM hiM f_31 := by rw [ef_31]; exact sgI.put hI 3 v_24.toNatClampNeg (show 0 ≤ (v_29 : Int32).toInt ∧ (v_29 : Int32).toInt ≤ 99 from q_30)
        have hF : sgK WkX12_becomes f f_31 := sgK.put hF ef_31 (by rfl)
        refine lv_aload_n hx hb dX12_becomes_65 rfl (lv_at hl 0 rfl) ?_
        refine sl_gM_0_3_12 hx hb hts hown hK hP dX12_becomes_66 ?_
        refine lv_iload hx hb dX12_becomes_69 (lv_at hl 4 rfl) ?_
        refine lv_iconst (v := 1) hx hb dX12_becomes_71 ic_1 ?_
        refine lv_isub hx hb dX12_becomes_72 ?_
        rw [← ev_24]
        refine lv_aload_n hx hb dX12_becomes_73 rfl (lv_at hl 0 rfl) ?_
        refine sl_gM_0_3_12 hx hb hts hown hK hP dX12_becomes_74 ?_
        refine lv_iload hx hb dX12_becomes_77 (lv_at hl 4 rfl) ?_
        refine sg_iald hx hb hK hP 4 (by decide) 0 rfl rfl (i := y4_26) (vp_in_iff.mpr ⟨by omega, by omega⟩) dX12_becomes_79 ?_
        refine lv_topi (fun v_32 ev_32 => ?_)
        have q_33 : 0 ≤ v_32.toInt ∧ v_32.toInt ≤ 99 := by rw [ev_32]; exact hI 4 _
        refine sg_iast hx hb hh hA hK hP hS 4 (by decide) 0 (fun _ => rfl) rfl (i := v_24) (x := v_32) (vp_in_iff.mpr ⟨by omega, by omega⟩) dX12_becomes_80 (fun f_34 H locs ef_34 hP hS => ?_)
        have hI : sgI loM hiM f_34 := by rw [ef_34]; exact sgI.put hI 4 v_24.toNatClampNeg (show 0 ≤ (v_32 : Int32).toInt ∧ (v_32 : Int32).toInt ≤ 99 from q_33)
        have hJ : JM f_34 := JM.shift hJ ef_28 ef_31 ef_34 ev_26 ev_29 ev_32
        have hF : sgK WkX12_becomes f f_34 := sgK.put hF ef_34 (by rfl)
        obtain ⟨v_35, ev_35⟩ : ∃ z : Int32, z = y4_26 + 1 := ⟨_, rfl⟩
        have q_36 : v_35.toInt = y4_26.toInt + 1 := by rw [ev_35]; exact (bn_addc y4_26 1 (by decide) (by omega) (by omega))
        refine lv_iinc (v := v_35) (lv' := [(4, .int v_35), (0, .ref (h 0)), (1, .int x0), (2, .int x1), (3, .int y3_26)]) hx hb dX12_becomes_81 hl (k := 4) rfl (by rw [ev_35]; rfl) (by decide) rfl (fun ls hl => ?_)
        refine lv_goto (tgt := 26) hx hb dX12_becomes_84 (by decide) ?_
        exact ih_26 y3_26 v_35 f_34 _ _ _ (hs.trans ((if_pos c_16).trans (spl_e ev_24 (spl_e ev_26 (spl_e ef_28 (spl_e ev_29 (spl_e ef_31 (spl_e ev_32 (spl_e ef_34 (spl_e ev_35 rfl)))))))))) (by omega) (by have zz0_5 : (f_34 0 5).toInt = v_12.toInt := (congrArg Int32.toInt (show f_34 0 5 = v_12 from (by rw [ef_34, sg_up_n (by decide)]; exact (by rw [ef_31, sg_up_n (by decide)]; exact (by rw [ef_28, sg_up_n (by decide)]; exact ev_12.symm))))); exact ⟨by omega, by omega⟩) hy1_26 ⟨by omega, by omega⟩ (by omega) hI hF hJ hP hS (lv_sub hl [1, 2, 3, 4, 0] rfl)
  refine lv_aload_n hx hb dX12_becomes_0 rfl (lv_at hl 0 rfl) ?_
  refine sl_gM_0_0_12 hx hb hts hown hK hP dX12_becomes_1 ?_
  refine lv_iload_n hx hb dX12_becomes_4 rfl (lv_at hl 1 rfl) ?_
  refine sg_iald hx hb hK hP 1 (by decide) 0 rfl rfl (i := x0) (vp_in_iff.mpr ⟨by omega, by omega⟩) dX12_becomes_5 ?_
  refine lv_topi (fun v_37 ev_37 => ?_)
  replace hs := hs.trans (spl_e ev_37 rfl)
  have q_38 : x0.toInt < 64 → v_37.toInt ≤ 60 := by rw [ev_37]; have z1 := segM1_r hI (j := Int32.toNatClampNeg x0); have z2 := bn_clI (x := x0) (by omega); intro z3; exact (z1.2.2 (by omega)).2
  have q_39 : 0 ≤ v_37.toInt ∧ v_37.toInt ≤ 99 := by rw [ev_37]; have z1 := segM1_r hI (j := Int32.toNatClampNeg x0); have z2 := bn_clI (x := x0) (by omega); omega
  refine lv_istore_n (lv' := [(3, .int v_37), (0, .ref (h 0)), (1, .int x0), (2, .int x1)]) hx hb dX12_becomes_6 rfl hl (by decide) rfl (fun ls hl => ?_)
  refine lv_iload_n hx hb dX12_becomes_7 rfl (lv_at hl 0 rfl) ?_
  refine lv_iload_n hx hb dX12_becomes_8 rfl (lv_at hl 3 rfl) ?_
  refine lv_icmp_ne (tgt := 14) hx hb dX12_becomes_9 (by decide) (fun c => ?_) (fun c => ?_)
  · skip
    have c_40 : v_37.toInt ≠ x1.toInt := (by first | exact (bn_ne c) | (have z := bn_ne c; omega))
    refine lv_aload_n hx hb dX12_becomes_14 rfl (lv_at hl 1 rfl) ?_
    refine sl_gM_0_5_12 (v := (f 0 5)) hx hb hts hown hK hP rfl dX12_becomes_15 ?_
    refine lv_topi (fun v_42 ev_42 => ?_)
    replace hs := hs.trans ((if_neg c_40).trans (spl_e ev_42 rfl))
    have q_43 : 0 ≤ v_42.toInt ∧ v_42.toInt ≤ 40 := by rw [ev_42]; exact hI 0 5
    refine lv_bipush (v := 40) hx hb dX12_becomes_18 bp_40 ?_
    refine lv_icmp_ne (tgt := 97) hx hb dX12_becomes_20 (by decide) (fun c => ?_) (fun c => ?_)
    · skip
      have c_44 : v_42.toInt ≠ 40 := (by first | exact (cm_ne1 ti_40 c) | (have z := bn_ne c; have k1 : (40 : Int32).toInt = 40 := ti_40; omega))
      exact blk_97 v_37 f _ _ _ (hs.trans ((if_neg c_44).trans rfl)) (by have zz0_5 : (f 0 5).toInt = v_42.toInt := (congrArg Int32.toInt (show f 0 5 = v_42 from ev_42.symm)); exact ⟨by omega, by omega⟩) q_39 (by omega) hI hF hJ hP hS (lv_sub hl [1, 2, 3, 0] rfl)
    · skip
      have c_45 : v_42.toInt = 40 := (by first | exact (cm_eq1 ti_40 c) | (have z := Int32.toInt_inj.mpr c; have k1 : (40 : Int32).toInt = 40 := ti_40; omega))
      refine lv_iconst (v := 1) hx hb dX12_becomes_23 ic_1 ?_
      refine lv_istore (lv' := [(4, .int 1), (3, .int v_37), (0, .ref (h 0)), (1, .int x0), (2, .int x1)]) hx hb dX12_becomes_24 hl (by decide) rfl (fun ls hl => ?_)
      exact loop_26 40 v_37 1 f _ _ _ (hs.trans ((if_pos c_45).trans rfl)) (by have kc1 : (1 : Int32).toInt = 1 := ti_1; omega) (by have zz0_5 : (f 0 5).toInt = v_42.toInt := (congrArg Int32.toInt (show f 0 5 = v_42 from ev_42.symm)); exact ⟨by omega, by omega⟩) q_39 (by decide) (by have kc1 : (1 : Int32).toInt = 1 := ti_1; omega) hI hF hJ hP hS (lv_sub hl [2, 3, 4, 1, 0] rfl)
  · skip
    have c_41 : v_37.toInt = x1.toInt := (by first | exact (Int32.toInt_inj.mpr c) | (have z := Int32.toInt_inj.mpr c; omega))
    refine lv_iload_n hx hb dX12_becomes_12 rfl (lv_at hl 0 rfl) ?_
    exact hret _ _ _ _ (v_37) f L Q dX12_becomes_13 hP hS ⟨⟨hI, hF, rfl, rfl, hJ⟩, ⟨by omega, by omega⟩, (Eq.trans (Eq.symm (hs.trans ((if_pos c_41).trans rfl))) hsp)⟩

abbrev WkX12_mend : List (Nat × Nat × Option Nat) := [(0, 0, some 4), (0, 0, some 5), (1, 1, none), (2, 2, none), (3, 3, none), (4, 4, none)]
set_option maxHeartbeats 4000000 in
set_option maxRecDepth 100000 in
theorem kX12_mend (l : Launch) (D : va_G) (ca : Nat → ClassId) (za h : Nat → Nat) (hh : sgH 26 h) (f : sg_F) (L : sg_L) (Q : sg_Q) (hI : sgI loM hiM f) (hJ : JM f) (x0 : Int32) (x1 : Int32) (x2 : Int32) (sz : Nat) : Met l yX12_mend gwX12_mend { frames := 3, cells := 0, slots := 0, locals := 69 } (sgP D vwCl (tyX ca) 26 h (eM ca h) zcM za f L Q sz [.ref (h 0), .int x0, .int x1, .int x2]) (sgQi D vwCl 26 h (eM ca h) sz (fun r f1 L1 Q1 => ((sgI loM hiM f1 ∧ sgK WkX12_mend f f1 ∧ L1 = L ∧ Q1 = Q ∧ JM f1) ∧ ((-1) ≤ r.toInt ∧ r.toInt ≤ 99) ∧ (r, f1) = sX12_mend x0 x1 x2 f L))) 0 0 (sgA 26 h sz) := by
  refine sg_ofWi (cc := cX12_mend) (maxL := 5) RX12 (by decide) rfl rfl (Nat.le_of_ble_eq_true rfl) ?_
  intro p e s m below meth cd Qz ls hx hb hml hown hts hK hZ hP hS hl hret
  have hA := sgY.self (n := 26) (h := h) (sz := s.heap.size)
  have hl : lv_has ls 5 [(0, .ref (h 0)), (1, .int x0), (2, .int x1), (3, .int x2)] := hl
  obtain ⟨H, hH⟩ : ∃ z : Heap, z = s.heap := ⟨_, rfl⟩
  obtain ⟨locs, hlo⟩ : ∃ z : List Loc, z = [] := ⟨_, rfl⟩
  have hP : va_P D vwCl (sgw 26 h (eM ca h) f L Q) H := by rw [hH]; exact hP
  have hS : va_S (sgA 26 h s.heap.size) s.heap H locs := by rw [hH, hlo]; exact hS
  suffices hgo : W p l e ({ frames := 3, cells := 0, slots := 0, locals := 69 }) s m ([.ref (h 0), .int x0, .int x1, .int x2] : List Value).toArray below meth cd H locs 0 0 Qz (F0 m 0 ls []) by rw [hH, hlo] at hgo; exact hgo
  clear hH hlo
  obtain ⟨sp, hsp⟩ : ∃ z : Int32 × sg_F, z = sX12_mend x0 x1 x2 f L := ⟨_, rfl⟩
  have hs : sp = sX12_mend x0 x1 x2 f L := hsp
  have hF : sgK WkX12_mend f f := sgK.rf
  refine lv_aload_n hx hb dX12_mend_0 rfl (lv_at hl 0 rfl) ?_
  refine lv_iload_n hx hb dX12_mend_1 rfl (lv_at hl 1 rfl) ?_
  refine lv_iload_n hx hb dX12_mend_2 rfl (lv_at hl 2 rfl) ?_
  refine sg_calli (va_runV (As := [.int x0, .int x1]) (rest := []) ⟨hx, hb, hml, hown, hts⟩ (kX12_placeOf l D ca za h hh f L Q hI x0 x1 H.size) (sl_c12_placeOf_2_0_0_47_12 hts ⟨Nat.le_of_ble_eq_true rfl, Nat.le_of_ble_eq_true rfl⟩) (sl_vM_0 hA hK hP hS hZ) rfl rfl hl.1 rfl (lv_room (Nat.le_of_ble_eq_true rfl)) dX12_mend_3 ⟨Nat.le_refl _, Nat.le_refl _⟩) hA hS (fun r_4 f_1 L_2 Q_3 H locs hq hP hS => ?_)
  obtain ⟨⟨ef9, eL9, eQ9⟩, hq, p_5, u_6⟩ := hq
  replace hs := hs.trans (spl_e u_6 rfl)
  rw [ef9, eL9, eQ9] at hP; clear ef9 eL9 eQ9
  refine lv_istore (lv' := [(4, .int r_4), (0, .ref (h 0)), (1, .int x0), (2, .int x1), (3, .int x2)]) hx hb dX12_mend_6 hl (by decide) rfl (fun ls hl => ?_)
  refine lv_iload hx hb dX12_mend_8 (lv_at hl 0 rfl) ?_
  refine lv_if_lt (tgt := 46) hx hb dX12_mend_10 (by decide) (fun c => ?_) (fun c => ?_)
  · skip
    have c_7 : r_4.toInt < 0 := (by first | exact (cm_lt1 ti_0 c) | (have z := bn_lt c; have k1 : (0 : Int32).toInt = 0 := ti_0; omega))
    refine lv_iconst (v := (-1)) hx hb dX12_mend_46 ic_m1 ?_
    have k99 : ((-1) : Int32).toInt = (-1) := ti_m1
    exact hret _ _ _ _ (-1) f L Q dX12_mend_47 hP hS ⟨⟨hI, hF, rfl, rfl, hJ⟩, (by decide), (Eq.trans (Eq.symm (hs.trans ((if_pos c_7).trans rfl))) hsp)⟩
  · skip
    have c_8 : 0 ≤ r_4.toInt := (by first | exact (cm_nlt1 ti_0 c) | (have z := bn_nlt c; have k1 : (0 : Int32).toInt = 0 := ti_0; omega))
    refine lv_iload_n hx hb dX12_mend_13 rfl (lv_at hl 4 rfl) ?_
    obtain ⟨w_9, ew_9⟩ : ∃ z : Int64, z = Int32.toInt64 x2 := ⟨_, rfl⟩
    replace hs := hs.trans ((if_neg (Int.not_lt.mpr c_8)).trans (spl_e ew_9 rfl))
    have q_10 : w_9.toInt = x2.toInt := by rw [ew_9]; exact Int32.toInt_toInt64 _
    refine lv_i2l (v := w_9) hx hb dX12_mend_14 ew_9.symm ?_
    refine lv_iload_n hx hb dX12_mend_15 rfl (lv_at hl 3 rfl) ?_
    refine lv_iconst (v := 5) hx hb dX12_mend_16 ic_5 ?_
    refine lv_icmp_ne (tgt := 24) hx hb dX12_mend_17 (by decide) (fun c => ?_) (fun c => ?_)
    · skip
      have c_11 : x1.toInt ≠ 5 := (by first | exact (cm_ne1 ti_5 c) | (have z := bn_ne c; have k1 : (5 : Int32).toInt = 5 := ti_5; omega))
      refine lv_lconst (v := 0) hx hb dX12_mend_24 (by decide) ?_
      refine lv_iload_n hx hb dX12_mend_25 rfl (lv_at hl 3 rfl) ?_
      refine sg_calli (va_runS (As := [.int x1]) (rest := [.long 0, .long w_9]) ⟨hx, hb, hml, hown, hts⟩ (kX12_mostOf l D ca za h hh f L Q hI x1 H.size) (va_cwS 1 hts (gw_S (fun _ h => List.mem_cons_of_mem _ h) mw_699 mw_700 mw_619 mw_698) rfl rfl rfl hd_yX12_mostOf.2 ⟨Nat.le_of_ble_eq_true rfl, Nat.le_of_ble_eq_true rfl⟩) (sg_preS hA hK hP hS hZ) rfl rfl hl.1 rfl (lv_room (Nat.le_of_ble_eq_true rfl)) dX12_mend_26 ⟨Nat.le_refl _, Nat.le_refl _⟩) hA hS (fun r_16 f_13 L_14 Q_15 H locs hq hP hS => ?_)
      obtain ⟨⟨ef9, eL9, eQ9⟩, hq, p_17, u_18⟩ := hq
      rw [ef9, eL9, eQ9] at hP; clear ef9 eL9 eQ9
      obtain ⟨w_19, ew_19⟩ : ∃ z : Int64, z = Int32.toInt64 r_16 := ⟨_, rfl⟩
      have q_20 : w_19.toInt = r_16.toInt := by rw [ew_19]; exact Int32.toInt_toInt64 _
      refine lv_i2l (v := w_19) hx hb dX12_mend_29 ew_19.symm ?_
      refine sg_calli (va_runS (As := [.long w_9, .long 0, .long w_19]) (rest := []) ⟨hx, hb, hml, hown, hts⟩ (kX12_within l D ca za h hh f L Q hI w_9 0 w_19 H.size) (va_cwS 3 hts (gw_S (fun _ h => List.mem_cons_of_mem _ h) mw_631 mw_632 mw_619 mw_630) rfl rfl rfl hd_yX12_within.2 ⟨Nat.le_of_ble_eq_true rfl, Nat.le_of_ble_eq_true rfl⟩) (sg_preS hA hK hP hS hZ) rfl rfl hl.1 rfl (lv_room (Nat.le_of_ble_eq_true rfl)) dX12_mend_30 ⟨Nat.le_refl _, Nat.le_refl _⟩) hA hS (fun r_24 f_21 L_22 Q_23 H locs hq hP hS => ?_)
      obtain ⟨⟨ef9, eL9, eQ9⟩, hq, u_25⟩ := hq
      replace hs := hs.trans ((if_neg c_11).trans (spl_e u_18 (spl_e ew_19 (spl_e u_25 rfl))))
      rw [ef9, eL9, eQ9] at hP; clear ef9 eL9 eQ9
      have k_26 : (0 : Int64).toInt = 0 := by decide
      rcases hq with ⟨rfl, hq⟩ | ⟨rfl, hq⟩
      · skip
        have hc_27 := hq
        refine lv_if_eq (tgt := 46) hx hb dX12_mend_33 (by decide) (fun c => absurd c (by decide)) (fun c => ?_)
        refine lv_aload_n hx hb dX12_mend_36 rfl (lv_at hl 1 rfl) ?_
        refine lv_iload hx hb dX12_mend_37 (lv_at hl 0 rfl) ?_
        refine lv_iload_n hx hb dX12_mend_39 rfl (lv_at hl 4 rfl) ?_
        refine sg_calli (va_runV (As := [.int r_4, .int x2]) (rest := []) ⟨hx, hb, hml, hown, hts⟩ (kX12_becomes l D ca za h hh f L Q hI hJ r_4 x2 ⟨by omega, by omega⟩ ⟨by omega, by omega⟩ (by omega) H.size) (sl_c12_becomes_0_0_0_0_12 hts ⟨Nat.le_of_ble_eq_true rfl, Nat.le_of_ble_eq_true rfl⟩) (sl_vM_0 hA hK hP hS hZ) rfl rfl hl.1 rfl (lv_room (Nat.le_of_ble_eq_true rfl)) dX12_mend_40 ⟨Nat.le_refl _, Nat.le_refl _⟩) hA hS (fun r_31 f_28 L_29 Q_30 H locs hq hP hS => ?_)
        obtain ⟨⟨hI, hk_f_28, eL9, eQ9, hJ⟩, hq, u_32⟩ := hq
        rw [eL9, eQ9] at hP; clear eL9 eQ9
        have hF : sgK WkX12_mend f f_28 := sgK.tr hF hk_f_28 (by decide +kernel)
        refine lv_goto (tgt := 47) hx hb dX12_mend_43 (by decide) ?_
        exact hret _ _ _ _ (r_31) f_28 L Q dX12_mend_47 hP hS ⟨⟨hI, hF, rfl, rfl, hJ⟩, ⟨by omega, by omega⟩, (Eq.trans (Eq.symm (hs.trans ((if_pos rfl).trans (spl2_e u_32 rfl)))) hsp)⟩
      · skip
        have hc_27 := hq
        refine lv_if_eq (tgt := 46) hx hb dX12_mend_33 (by decide) (fun c => ?_) (fun c => absurd c (by decide))
        refine lv_iconst (v := (-1)) hx hb dX12_mend_46 ic_m1 ?_
        have k99 : ((-1) : Int32).toInt = (-1) := ti_m1
        exact hret _ _ _ _ (-1) f L Q dX12_mend_47 hP hS ⟨⟨hI, hF, rfl, rfl, hJ⟩, (by decide), (Eq.trans (Eq.symm (hs.trans ((if_neg (by decide)).trans rfl))) hsp)⟩
    · skip
      have c_12 : x1.toInt = 5 := (by first | exact (cm_eq1 ti_5 c) | (have z := Int32.toInt_inj.mpr c; have k1 : (5 : Int32).toInt = 5 := ti_5; omega))
      refine lv_lconst (v := 1) hx hb dX12_mend_20 (by decide) ?_
      refine lv_goto (tgt := 25) hx hb dX12_mend_21 (by decide) ?_
      refine lv_iload_n hx hb dX12_mend_25 rfl (lv_at hl 3 rfl) ?_
      refine sg_calli (va_runS (As := [.int x1]) (rest := [.long 1, .long w_9]) ⟨hx, hb, hml, hown, hts⟩ (kX12_mostOf l D ca za h hh f L Q hI x1 H.size) (va_cwS 1 hts (gw_S (fun _ h => List.mem_cons_of_mem _ h) mw_699 mw_700 mw_619 mw_698) rfl rfl rfl hd_yX12_mostOf.2 ⟨Nat.le_of_ble_eq_true rfl, Nat.le_of_ble_eq_true rfl⟩) (sg_preS hA hK hP hS hZ) rfl rfl hl.1 rfl (lv_room (Nat.le_of_ble_eq_true rfl)) dX12_mend_26 ⟨Nat.le_refl _, Nat.le_refl _⟩) hA hS (fun r_36 f_33 L_34 Q_35 H locs hq hP hS => ?_)
      obtain ⟨⟨ef9, eL9, eQ9⟩, hq, p_37, u_38⟩ := hq
      rw [ef9, eL9, eQ9] at hP; clear ef9 eL9 eQ9
      obtain ⟨w_39, ew_39⟩ : ∃ z : Int64, z = Int32.toInt64 r_36 := ⟨_, rfl⟩
      have q_40 : w_39.toInt = r_36.toInt := by rw [ew_39]; exact Int32.toInt_toInt64 _
      refine lv_i2l (v := w_39) hx hb dX12_mend_29 ew_39.symm ?_
      refine sg_calli (va_runS (As := [.long w_9, .long 1, .long w_39]) (rest := []) ⟨hx, hb, hml, hown, hts⟩ (kX12_within l D ca za h hh f L Q hI w_9 1 w_39 H.size) (va_cwS 3 hts (gw_S (fun _ h => List.mem_cons_of_mem _ h) mw_631 mw_632 mw_619 mw_630) rfl rfl rfl hd_yX12_within.2 ⟨Nat.le_of_ble_eq_true rfl, Nat.le_of_ble_eq_true rfl⟩) (sg_preS hA hK hP hS hZ) rfl rfl hl.1 rfl (lv_room (Nat.le_of_ble_eq_true rfl)) dX12_mend_30 ⟨Nat.le_refl _, Nat.le_refl _⟩) hA hS (fun r_44 f_41 L_42 Q_43 H locs hq hP hS => ?_)
      obtain ⟨⟨ef9, eL9, eQ9⟩, hq, u_45⟩ := hq
      replace hs := hs.trans ((if_pos c_12).trans (spl_e u_38 (spl_e ew_39 (spl_e u_45 rfl))))
      rw [ef9, eL9, eQ9] at hP; clear ef9 eL9 eQ9
      have k_46 : (1 : Int64).toInt = 1 := by decide
      rcases hq with ⟨rfl, hq⟩ | ⟨rfl, hq⟩
      · skip
        have hc_47 := hq
        refine lv_if_eq (tgt := 46) hx hb dX12_mend_33 (by decide) (fun c => absurd c (by decide)) (fun c => ?_)
        refine lv_aload_n hx hb dX12_mend_36 rfl (lv_at hl 1 rfl) ?_
        refine lv_iload hx hb dX12_mend_37 (lv_at hl 0 rfl) ?_
        refine lv_iload_n hx hb dX12_mend_39 rfl (lv_at hl 4 rfl) ?_
        refine sg_calli (va_runV (As := [.int r_4, .int x2]) (rest := []) ⟨hx, hb, hml, hown, hts⟩ (kX12_becomes l D ca za h hh f L Q hI hJ r_4 x2 ⟨by omega, by omega⟩ ⟨by omega, by omega⟩ (by omega) H.size) (sl_c12_becomes_0_0_0_0_12 hts ⟨Nat.le_of_ble_eq_true rfl, Nat.le_of_ble_eq_true rfl⟩) (sl_vM_0 hA hK hP hS hZ) rfl rfl hl.1 rfl (lv_room (Nat.le_of_ble_eq_true rfl)) dX12_mend_40 ⟨Nat.le_refl _, Nat.le_refl _⟩) hA hS (fun r_51 f_48 L_49 Q_50 H locs hq hP hS => ?_)
        obtain ⟨⟨hI, hk_f_48, eL9, eQ9, hJ⟩, hq, u_52⟩ := hq
        rw [eL9, eQ9] at hP; clear eL9 eQ9
        have hF : sgK WkX12_mend f f_48 := sgK.tr hF hk_f_48 (by decide +kernel)
        refine lv_goto (tgt := 47) hx hb dX12_mend_43 (by decide) ?_
        exact hret _ _ _ _ (r_51) f_48 L Q dX12_mend_47 hP hS ⟨⟨hI, hF, rfl, rfl, hJ⟩, ⟨by omega, by omega⟩, (Eq.trans (Eq.symm (hs.trans ((if_pos rfl).trans (spl2_e u_52 rfl)))) hsp)⟩
      · skip
        have hc_47 := hq
        refine lv_if_eq (tgt := 46) hx hb dX12_mend_33 (by decide) (fun c => ?_) (fun c => absurd c (by decide))
        refine lv_iconst (v := (-1)) hx hb dX12_mend_46 ic_m1 ?_
        have k99 : ((-1) : Int32).toInt = (-1) := ti_m1
        exact hret _ _ _ _ (-1) f L Q dX12_mend_47 hP hS ⟨⟨hI, hF, rfl, rfl, hJ⟩, (by decide), (Eq.trans (Eq.symm (hs.trans ((if_neg (by decide)).trans rfl))) hsp)⟩

set_option maxHeartbeats 4000000 in
set_option maxRecDepth 100000 in
theorem kX12_of (l : Launch) (D : va_G) (ca : Nat → ClassId) (za h : Nat → Nat) (hh : sgH 26 h) (f : sg_F) (L : sg_L) (Q : sg_Q) (hI : sgI loM hiM f) (x0 : Int32) (x1 : Int32) (sz : Nat) : Met l yX12_of gwX12_of { frames := 3, cells := 0, slots := 0, locals := 69 } (sgP D vwCl (tyX ca) 26 h (eM ca h) zcM za f L Q sz [.ref (h 0), .int x0, .int x1]) (sgQi D vwCl 26 h (eM ca h) sz (fun r f1 L1 Q1 => ((f1 = f ∧ L1 = L ∧ Q1 = Q) ∧ ((-1) ≤ r.toInt ∧ r.toInt ≤ 99) ∧ (r) = sX12_of x0 x1 f L))) 0 0 (sgA 26 h sz) := by
  refine sg_ofWi (cc := cX12_of) (maxL := 4) RX12 (by decide) rfl rfl (Nat.le_of_ble_eq_true rfl) ?_
  intro p e s m below meth cd Qz ls hx hb hml hown hts hK hZ hP hS hl hret
  have hA := sgY.self (n := 26) (h := h) (sz := s.heap.size)
  have hl : lv_has ls 4 [(0, .ref (h 0)), (1, .int x0), (2, .int x1)] := hl
  obtain ⟨H, hH⟩ : ∃ z : Heap, z = s.heap := ⟨_, rfl⟩
  obtain ⟨locs, hlo⟩ : ∃ z : List Loc, z = [] := ⟨_, rfl⟩
  have hP : va_P D vwCl (sgw 26 h (eM ca h) f L Q) H := by rw [hH]; exact hP
  have hS : va_S (sgA 26 h s.heap.size) s.heap H locs := by rw [hH, hlo]; exact hS
  suffices hgo : W p l e ({ frames := 3, cells := 0, slots := 0, locals := 69 }) s m ([.ref (h 0), .int x0, .int x1] : List Value).toArray below meth cd H locs 0 0 Qz (F0 m 0 ls []) by rw [hH, hlo] at hgo; exact hgo
  clear hH hlo
  obtain ⟨sp, hsp⟩ : ∃ z : Int32, z = sX12_of x0 x1 f L := ⟨_, rfl⟩
  have hs : sp = sX12_of x0 x1 f L := hsp
  refine lv_iload_n hx hb dX12_of_0 rfl (lv_at hl 2 rfl) ?_
  refine lv_bipush (v := 11) hx hb dX12_of_1 bp_11 ?_
  refine lv_icmp_ne (tgt := 24) hx hb dX12_of_3 (by decide) (fun c => ?_) (fun c => ?_)
  · skip
    have c_1 : x1.toInt ≠ 11 := (by first | exact (cm_ne1 ti_11 c) | (have z := bn_ne c; have k1 : (11 : Int32).toInt = 11 := ti_11; omega))
    refine lv_aload_n hx hb dX12_of_24 rfl (lv_at hl 0 rfl) ?_
    refine lv_iload_n hx hb dX12_of_25 rfl (lv_at hl 1 rfl) ?_
    refine lv_iload_n hx hb dX12_of_26 rfl (lv_at hl 2 rfl) ?_
    refine sg_calli (va_runV (As := [.int x0, .int x1]) (rest := []) ⟨hx, hb, hml, hown, hts⟩ (kX12_placeOf l D ca za h hh f L Q hI x0 x1 H.size) (sl_c12_placeOf_2_0_0_47_12 hts ⟨Nat.le_of_ble_eq_true rfl, Nat.le_of_ble_eq_true rfl⟩) (sl_vM_0 hA hK hP hS hZ) rfl rfl hl.1 rfl (lv_room (Nat.le_of_ble_eq_true rfl)) dX12_of_27 ⟨Nat.le_refl _, Nat.le_refl _⟩) hA hS (fun r_6 f_3 L_4 Q_5 H locs hq hP hS => ?_)
    obtain ⟨⟨ef9, eL9, eQ9⟩, hq, p_7, u_8⟩ := hq
    replace hs := hs.trans ((if_neg c_1).trans (spl_e u_8 rfl))
    rw [ef9, eL9, eQ9] at hP; clear ef9 eL9 eQ9
    refine lv_istore_n (lv' := [(3, .int r_6), (0, .ref (h 0)), (1, .int x0), (2, .int x1)]) hx hb dX12_of_30 rfl hl (by decide) rfl (fun ls hl => ?_)
    refine lv_iload_n hx hb dX12_of_31 rfl (lv_at hl 0 rfl) ?_
    refine lv_if_ge (tgt := 39) hx hb dX12_of_32 (by decide) (fun c => ?_) (fun c => ?_)
    · skip
      have c_9 : 0 ≤ r_6.toInt := (by first | exact (cm_le0 ti_0 c) | (have z := bn_le c; have k1 : (0 : Int32).toInt = 0 := ti_0; omega))
      refine lv_aload_n hx hb dX12_of_39 rfl (lv_at hl 1 rfl) ?_
      refine sl_gM_0_0_12 hx hb hts hown hK hP dX12_of_40 ?_
      refine lv_iload_n hx hb dX12_of_43 rfl (lv_at hl 0 rfl) ?_
      refine sg_iald hx hb hK hP 1 (by decide) 0 rfl rfl (i := r_6) (vp_in_iff.mpr ⟨by omega, by omega⟩) dX12_of_44 ?_
      refine lv_topi (fun v_11 ev_11 => ?_)
      have q_12 : r_6.toInt < 64 → v_11.toInt ≤ 60 := by rw [ev_11]; have z1 := segM1_r hI (j := Int32.toNatClampNeg r_6); have z2 := bn_clI (x := r_6) (by omega); intro z3; exact (z1.2.2 (by omega)).2
      have q_13 : 0 ≤ v_11.toInt ∧ v_11.toInt ≤ 99 := by rw [ev_11]; have z1 := segM1_r hI (j := Int32.toNatClampNeg r_6); have z2 := bn_clI (x := r_6) (by omega); omega
      exact hret _ _ _ _ (v_11) f L Q dX12_of_45 hP hS ⟨⟨rfl, rfl, rfl⟩, ⟨by omega, by omega⟩, (Eq.trans (Eq.symm (hs.trans ((if_neg (Int.not_lt.mpr c_9)).trans (spl_e ev_11 rfl)))) hsp)⟩
    · skip
      have c_10 : r_6.toInt < 0 := (by first | exact (cm_nle0 ti_0 c) | (have z := bn_nle c; have k1 : (0 : Int32).toInt = 0 := ti_0; omega))
      refine lv_iconst (v := (-1)) hx hb dX12_of_35 ic_m1 ?_
      refine lv_goto (tgt := 45) hx hb dX12_of_36 (by decide) ?_
      have k99 : ((-1) : Int32).toInt = (-1) := ti_m1
      exact hret _ _ _ _ (-1) f L Q dX12_of_45 hP hS ⟨⟨rfl, rfl, rfl⟩, (by decide), (Eq.trans (Eq.symm (hs.trans ((if_pos c_10).trans rfl))) hsp)⟩
  · skip
    have c_2 : x1.toInt = 11 := (by first | exact (cm_eq1 ti_11 c) | (have z := Int32.toInt_inj.mpr c; have k1 : (11 : Int32).toInt = 11 := ti_11; omega))
    refine lv_iload_n hx hb dX12_of_6 rfl (lv_at hl 1 rfl) ?_
    refine sg_calli (va_runS (As := [.int x0]) (rest := []) ⟨hx, hb, hml, hown, hts⟩ (kX12_isPart l D ca za h hh f L Q hI x0 H.size) (va_cwS 1 hts (gw_S (fun _ h => List.mem_cons_of_mem _ h) mw_636 mw_637 mw_619 mw_635) rfl rfl rfl hd_yX12_isPart.2 ⟨Nat.le_of_ble_eq_true rfl, Nat.le_of_ble_eq_true rfl⟩) (sg_preS hA hK hP hS hZ) rfl rfl hl.1 rfl (lv_room (Nat.le_of_ble_eq_true rfl)) dX12_of_7 ⟨Nat.le_refl _, Nat.le_refl _⟩) hA hS (fun r_17 f_14 L_15 Q_16 H locs hq hP hS => ?_)
    obtain ⟨⟨ef9, eL9, eQ9⟩, hq, u_18⟩ := hq
    replace hs := hs.trans ((if_pos c_2).trans (spl_e u_18 rfl))
    rw [ef9, eL9, eQ9] at hP; clear ef9 eL9 eQ9
    rcases hq with ⟨rfl, hq⟩ | ⟨rfl, hq⟩
    · skip
      have hc_19 := hq
      refine lv_if_eq (tgt := 22) hx hb dX12_of_10 (by decide) (fun c => absurd c (by decide)) (fun c => ?_)
      refine lv_aload_n hx hb dX12_of_13 rfl (lv_at hl 0 rfl) ?_
      refine sl_gM_0_7_12 hx hb hts hown hK hP dX12_of_14 ?_
      refine lv_iload_n hx hb dX12_of_17 rfl (lv_at hl 1 rfl) ?_
      refine sg_iald hx hb hK hP 5 (by decide) 0 rfl rfl (i := x0) (vp_in_iff.mpr ⟨by omega, by omega⟩) dX12_of_18 ?_
      refine lv_topi (fun v_20 ev_20 => ?_)
      have q_21 : 0 ≤ v_20.toInt ∧ v_20.toInt ≤ 60 := by rw [ev_20]; exact hI 5 _
      refine lv_goto (tgt := 23) hx hb dX12_of_19 (by decide) ?_
      exact hret _ _ _ _ (v_20) f L Q dX12_of_23 hP hS ⟨⟨rfl, rfl, rfl⟩, ⟨by omega, by omega⟩, (Eq.trans (Eq.symm (hs.trans ((if_pos rfl).trans (spl_e ev_20 rfl)))) hsp)⟩
    · skip
      have hc_19 := hq
      refine lv_if_eq (tgt := 22) hx hb dX12_of_10 (by decide) (fun c => ?_) (fun c => absurd c (by decide))
      refine lv_iconst (v := (-1)) hx hb dX12_of_22 ic_m1 ?_
      have k99 : ((-1) : Int32).toInt = (-1) := ti_m1
      exact hret _ _ _ _ (-1) f L Q dX12_of_23 hP hS ⟨⟨rfl, rfl, rfl⟩, (by decide), (Eq.trans (Eq.symm (hs.trans ((if_neg (by decide)).trans rfl))) hsp)⟩

abbrev WkX12_feed : List (Nat × Nat × Option Nat) := [(0, 0, some 9), (6, 6, none)]
set_option maxHeartbeats 4000000 in
set_option maxRecDepth 100000 in
theorem kX12_feed (l : Launch) (D : va_G) (ca : Nat → ClassId) (za h : Nat → Nat) (hh : sgH 26 h) (f : sg_F) (L : sg_L) (Q : sg_Q) (hI : sgI loM hiM f) (x0 : Int32) (sz : Nat) : Met l yX12_feed gwX12_feed { frames := 1, cells := 0, slots := 0, locals := 25 } (sgP D vwCl (tyX ca) 26 h (eM ca h) zcM za f L Q sz [.ref (h 0), .int x0]) (sgQi D vwCl 26 h (eM ca h) sz (fun r f1 L1 Q1 => ((sgI loM hiM f1 ∧ sgK WkX12_feed f f1 ∧ L1 = L ∧ Q1 = Q) ∧ ((-3) ≤ r.toInt ∧ r.toInt ≤ 120) ∧ (r, f1) = sX12_feed x0 f L))) 0 0 (sgA 26 h sz) := by
  refine sg_ofWi (cc := cX12_feed) (maxL := 2) RX12 (by decide) rfl rfl (Nat.le_of_ble_eq_true rfl) ?_
  intro p e s m below meth cd Qz ls hx hb hml hown hts hK hZ hP hS hl hret
  have hA := sgY.self (n := 26) (h := h) (sz := s.heap.size)
  have hl : lv_has ls 2 [(0, .ref (h 0)), (1, .int x0)] := hl
  obtain ⟨H, hH⟩ : ∃ z : Heap, z = s.heap := ⟨_, rfl⟩
  obtain ⟨locs, hlo⟩ : ∃ z : List Loc, z = [] := ⟨_, rfl⟩
  have hP : va_P D vwCl (sgw 26 h (eM ca h) f L Q) H := by rw [hH]; exact hP
  have hS : va_S (sgA 26 h s.heap.size) s.heap H locs := by rw [hH, hlo]; exact hS
  suffices hgo : W p l e ({ frames := 1, cells := 0, slots := 0, locals := 25 }) s m ([.ref (h 0), .int x0] : List Value).toArray below meth cd H locs 0 0 Qz (F0 m 0 ls []) by rw [hH, hlo] at hgo; exact hgo
  clear hH hlo
  obtain ⟨sp, hsp⟩ : ∃ z : Int32 × sg_F, z = sX12_feed x0 f L := ⟨_, rfl⟩
  have hs : sp = sX12_feed x0 f L := hsp
  have hF : sgK WkX12_feed f f := sgK.rf
  refine lv_iload_n hx hb dX12_feed_0 rfl (lv_at hl 1 rfl) ?_
  obtain ⟨w_1, ew_1⟩ : ∃ z : Int64, z = Int32.toInt64 x0 := ⟨_, rfl⟩
  have q_2 : w_1.toInt = x0.toInt := by rw [ew_1]; exact Int32.toInt_toInt64 _
  refine lv_i2l (v := w_1) hx hb dX12_feed_1 ew_1.symm ?_
  refine lv_lconst (v := 0) hx hb dX12_feed_2 (by decide) ?_
  refine lv_ldc2 (v := 255) hx hb hown (hts _ (List.mem_cons_of_mem _ mw_605)) dX12_feed_3 ?_
  refine sg_calli (va_runS (As := [.long w_1, .long 0, .long 255]) (rest := []) ⟨hx, hb, hml, hown, hts⟩ (kX12_within l D ca za h hh f L Q hI w_1 0 255 H.size) (va_cwS 3 hts (gw_S (fun _ h => List.mem_cons_of_mem _ h) mw_631 mw_632 mw_619 mw_630) rfl rfl rfl hd_yX12_within.2 ⟨Nat.le_of_ble_eq_true rfl, Nat.le_of_ble_eq_true rfl⟩) (sg_preS hA hK hP hS hZ) rfl rfl hl.1 rfl (lv_room (Nat.le_of_ble_eq_true rfl)) dX12_feed_6 ⟨Nat.le_refl _, Nat.le_refl _⟩) hA hS (fun r_6 f_3 L_4 Q_5 H locs hq hP hS => ?_)
  obtain ⟨⟨ef9, eL9, eQ9⟩, hq, u_7⟩ := hq
  replace hs := hs.trans (spl_e ew_1 (spl_e u_7 rfl))
  rw [ef9, eL9, eQ9] at hP; clear ef9 eL9 eQ9
  have k_8 : (0 : Int64).toInt = 0 := by decide
  have k_9 : (255 : Int64).toInt = 255 := by decide
  rcases hq with ⟨rfl, hq⟩ | ⟨rfl, hq⟩
  · skip
    have hc_10 := hq
    refine lv_if_ne (tgt := 14) hx hb dX12_feed_9 (by decide) (fun c => ?_) (fun c => absurd c (by decide))
    refine lv_aload_n hx hb dX12_feed_14 rfl (lv_at hl 0 rfl) ?_
    refine sl_gM_0_9_12 (v := (f 0 9)) hx hb hts hown hK hP rfl dX12_feed_15 ?_
    refine lv_topi (fun v_11 ev_11 => ?_)
    replace hs := hs.trans ((if_pos rfl).trans (spl_e ev_11 rfl))
    have q_12 : 0 ≤ v_11.toInt ∧ v_11.toInt ≤ 120 := by rw [ev_11]; exact hI 0 9
    refine lv_bipush (v := 120) hx hb dX12_feed_18 bp_120 ?_
    refine lv_icmp_ne (tgt := 26) hx hb dX12_feed_20 (by decide) (fun c => ?_) (fun c => ?_)
    · skip
      have c_13 : v_11.toInt ≠ 120 := (by first | exact (cm_ne1 ti_120 c) | (have z := bn_ne c; have k1 : (120 : Int32).toInt = 120 := ti_120; omega))
      refine lv_aload_n hx hb dX12_feed_26 rfl (lv_at hl 0 rfl) ?_
      refine sl_gM_0_8_12 hx hb hts hown hK hP dX12_feed_27 ?_
      refine lv_aload_n hx hb dX12_feed_30 rfl (lv_at hl 0 rfl) ?_
      refine sl_gM_0_9_12 (v := v_11) hx hb hts hown hK hP (show f 0 9 = v_11 from ev_11.symm) dX12_feed_31 ?_
      refine lv_iload_n hx hb dX12_feed_34 rfl (lv_at hl 1 rfl) ?_
      refine sg_iast hx hb hh hA hK hP hS 6 (by decide) 0 (fun _ => rfl) rfl (i := v_11) (x := x0) (vp_in_iff.mpr ⟨by omega, by omega⟩) dX12_feed_35 (fun f_15 H locs ef_15 hP hS => ?_)
      have hI : sgI loM hiM f_15 := by rw [ef_15]; exact sgI.put hI 6 v_11.toNatClampNeg (show 0 ≤ (x0 : Int32).toInt ∧ (x0 : Int32).toInt ≤ 255 from ⟨by omega, by omega⟩)
      have hF : sgK WkX12_feed f f_15 := sgK.put hF ef_15 (by rfl)
      refine lv_aload_n hx hb dX12_feed_36 rfl (lv_at hl 0 rfl) ?_
      refine lv_dup hx hb dX12_feed_37 rfl ?_
      refine sl_gM_0_9_12 (v := v_11) hx hb hts hown hK hP (show f_15 0 9 = v_11 from (by rw [ef_15, sg_up_n (by decide)]; exact ev_11.symm)) dX12_feed_38 ?_
      refine lv_iconst (v := 1) hx hb dX12_feed_41 ic_1 ?_
      refine lv_iadd hx hb dX12_feed_42 ?_
      refine lv_topi (fun v_16 ev_16 => ?_)
      have q_17 : v_16.toInt = v_11.toInt + 1 := by rw [ev_16]; first | exact cm_add ti_1 (by omega) (by omega) | (have k1 : (1 : Int32).toInt = 1 := ti_1; exact (bn_addI (by omega) (by omega)).trans (by omega))
      refine sl_pM_0_9_12 (x := v_16) hx hb hts hown hh hA hK hP hS dX12_feed_43 (fun f_18 H locs ef_18 hP hS => ?_)
      have hI : sgI loM hiM f_18 := by rw [ef_18]; exact sgI.put hI 0 9 (show 0 ≤ (v_16 : Int32).toInt ∧ (v_16 : Int32).toInt ≤ 120 from ⟨by omega, by omega⟩)
      have hF : sgK WkX12_feed f f_18 := sgK.put hF ef_18 (by rfl)
      refine lv_aload_n hx hb dX12_feed_46 rfl (lv_at hl 0 rfl) ?_
      refine sl_gM_0_9_12 (v := v_16) hx hb hts hown hK hP (show f_18 0 9 = v_16 from (by rw [ef_18, sg_up_s, sgu_s])) dX12_feed_47 ?_
      exact hret _ _ _ _ (v_16) f_18 L Q dX12_feed_50 hP hS ⟨⟨hI, hF, rfl, rfl⟩, ⟨by omega, by omega⟩, (Eq.trans (Eq.symm (hs.trans ((if_neg c_13).trans (spl_e ef_15 (spl_e ev_16 (spl_e ef_18 rfl)))))) hsp)⟩
    · skip
      have c_14 : v_11.toInt = 120 := (by first | exact (cm_eq1 ti_120 c) | (have z := Int32.toInt_inj.mpr c; have k1 : (120 : Int32).toInt = 120 := ti_120; omega))
      refine lv_bipush (v := (-3)) hx hb dX12_feed_23 bp_m3 ?_
      have k99 : ((-3) : Int32).toInt = (-3) := ti_m3
      exact hret _ _ _ _ (-3) f L Q dX12_feed_25 hP hS ⟨⟨hI, hF, rfl, rfl⟩, (by decide), (Eq.trans (Eq.symm (hs.trans ((if_pos c_14).trans rfl))) hsp)⟩
  · skip
    have hc_10 := hq
    refine lv_if_ne (tgt := 14) hx hb dX12_feed_9 (by decide) (fun c => absurd c (by decide)) (fun c => ?_)
    refine lv_iconst (v := (-1)) hx hb dX12_feed_12 ic_m1 ?_
    have k99 : ((-1) : Int32).toInt = (-1) := ti_m1
    exact hret _ _ _ _ (-1) f L Q dX12_feed_13 hP hS ⟨⟨hI, hF, rfl, rfl⟩, (by decide), (Eq.trans (Eq.symm (hs.trans ((if_neg (by decide)).trans rfl))) hsp)⟩

set_option maxHeartbeats 4000000 in
set_option maxRecDepth 100000 in
theorem kX12_byteAt (l : Launch) (D : va_G) (ca : Nat → ClassId) (za h : Nat → Nat) (hh : sgH 26 h) (f : sg_F) (L : sg_L) (Q : sg_Q) (hI : sgI loM hiM f) (sz : Nat) : Met l yX12_byteAt gwX12_byteAt { frames := 0, cells := 0, slots := 0, locals := 0 } (sgP D vwCl (tyX ca) 26 h (eM ca h) zcM za f L Q sz [.ref (h 0)]) (sgQi D vwCl 26 h (eM ca h) sz (fun r f1 L1 Q1 => ((f1 = f ∧ L1 = L ∧ Q1 = Q) ∧ (0 ≤ r.toInt ∧ r.toInt ≤ 255) ∧ (r.toInt = 0 ∨ (f 0 13).toInt < (f 0 14).toInt) ∧ (r) = sX12_byteAt f L))) 0 0 (sgA 26 h sz) := by
  refine sg_ofWi (cc := cX12_byteAt) (maxL := 1) RX12 (by decide) rfl rfl (Nat.le_of_ble_eq_true rfl) ?_
  intro p e s m below meth cd Qz ls hx hb hml hown hts hK hZ hP hS hl hret
  have hA := sgY.self (n := 26) (h := h) (sz := s.heap.size)
  have hl : lv_has ls 1 [(0, .ref (h 0))] := hl
  obtain ⟨H, hH⟩ : ∃ z : Heap, z = s.heap := ⟨_, rfl⟩
  obtain ⟨locs, hlo⟩ : ∃ z : List Loc, z = [] := ⟨_, rfl⟩
  have hP : va_P D vwCl (sgw 26 h (eM ca h) f L Q) H := by rw [hH]; exact hP
  have hS : va_S (sgA 26 h s.heap.size) s.heap H locs := by rw [hH, hlo]; exact hS
  suffices hgo : W p l e ({ frames := 0, cells := 0, slots := 0, locals := 0 }) s m ([.ref (h 0)] : List Value).toArray below meth cd H locs 0 0 Qz (F0 m 0 ls []) by rw [hH, hlo] at hgo; exact hgo
  clear hH hlo
  obtain ⟨sp, hsp⟩ : ∃ z : Int32, z = sX12_byteAt f L := ⟨_, rfl⟩
  have hs : sp = sX12_byteAt f L := hsp
  obtain ⟨v_1, ev_1⟩ : ∃ z : Int32, z = f 0 13 := ⟨_, rfl⟩
  have q_2 : 0 ≤ v_1.toInt ∧ v_1.toInt ≤ 120 := by rw [ev_1]; exact hI 0 13
  obtain ⟨v_3, ev_3⟩ : ∃ z : Int32, z = f 0 14 := ⟨_, rfl⟩
  replace hs := hs.trans (spl_e ev_1 (spl_e ev_3 rfl))
  have q_4 : 0 ≤ v_3.toInt ∧ v_3.toInt ≤ 120 := by rw [ev_3]; exact hI 0 14
  have o_5 : (f 0 13).toInt = v_1.toInt := (congrArg Int32.toInt (show f 0 13 = v_1 from ev_1.symm))
  have o_6 : (f 0 14).toInt = v_3.toInt := (congrArg Int32.toInt (show f 0 14 = v_3 from ev_3.symm))
  refine lv_aload_n hx hb dX12_byteAt_0 rfl (lv_at hl 0 rfl) ?_
  refine sl_gM_0_13_12 (v := v_1) hx hb hts hown hK hP (show f 0 13 = v_1 from ev_1.symm) dX12_byteAt_1 ?_
  refine lv_aload_n hx hb dX12_byteAt_4 rfl (lv_at hl 0 rfl) ?_
  refine sl_gM_0_14_12 (v := v_3) hx hb hts hown hK hP (show f 0 14 = v_3 from ev_3.symm) dX12_byteAt_5 ?_
  refine lv_icmp_ge (tgt := 47) hx hb dX12_byteAt_8 (by decide) (fun c => ?_) (fun c => ?_)
  · skip
    have c_7 : v_3.toInt ≤ v_1.toInt := (by first | exact (bn_le c) | (have z := bn_le c; omega))
    refine lv_iconst (v := 0) hx hb dX12_byteAt_47 ic_0 ?_
    have k99 : (0 : Int32).toInt = 0 := ti_0
    exact hret _ _ _ _ (0) f L Q dX12_byteAt_48 hP hS ⟨⟨rfl, rfl, rfl⟩, (by decide), (by omega), (Eq.trans (Eq.symm (hs.trans ((if_neg (Int.not_lt.mpr c_7)).trans rfl))) hsp)⟩
  · skip
    have c_8 : v_1.toInt < v_3.toInt := (by first | exact (bn_nle c) | (have z := bn_nle c; omega))
    refine lv_aload_n hx hb dX12_byteAt_11 rfl (lv_at hl 0 rfl) ?_
    refine sl_gM_0_12_12 (v := (f 0 12)) hx hb hts hown hK hP rfl dX12_byteAt_12 ?_
    refine lv_topi (fun v_9 ev_9 => ?_)
    replace hs := hs.trans ((if_pos c_8).trans (spl_e ev_9 rfl))
    have q_10 : (-1) ≤ v_9.toInt ∧ v_9.toInt ≤ 0 := by rw [ev_9]; exact hI 0 12
    refine lv_if_ge (tgt := 30) hx hb dX12_byteAt_15 (by decide) (fun c => ?_) (fun c => ?_)
    · skip
      have c_11 : 0 ≤ v_9.toInt := (by first | exact (cm_le0 ti_0 c) | (have z := bn_le c; have k1 : (0 : Int32).toInt = 0 := ti_0; omega))
      refine lv_aload_n hx hb dX12_byteAt_30 rfl (lv_at hl 0 rfl) ?_
      refine sl_gM_0_10_12 hx hb hts hown hK hP dX12_byteAt_31 ?_
      refine lv_aload_n hx hb dX12_byteAt_34 rfl (lv_at hl 0 rfl) ?_
      refine sl_gM_0_12_12 (v := v_9) hx hb hts hown hK hP (show f 0 12 = v_9 from ev_9.symm) dX12_byteAt_35 ?_
      refine lv_aload_n hx hb dX12_byteAt_38 rfl (lv_at hl 0 rfl) ?_
      refine sl_gM_0_13_12 (v := v_1) hx hb hts hown hK hP (show f 0 13 = v_1 from ev_1.symm) dX12_byteAt_39 ?_
      refine lv_iadd hx hb dX12_byteAt_42 ?_
      refine lv_topi (fun v_13 ev_13 => ?_)
      have q_14 : v_13.toInt = v_9.toInt + v_1.toInt := by rw [ev_13]; first | exact bn_addI (by omega) (by omega) | exact (bn_addI (by omega) (by omega)).trans (by omega)
      refine sg_iald hx hb hK hP 7 (by decide) 0 rfl rfl (i := v_13) (vp_in_iff.mpr ⟨by omega, by omega⟩) dX12_byteAt_43 ?_
      refine lv_topi (fun v_15 ev_15 => ?_)
      have q_16 : 0 ≤ v_15.toInt ∧ v_15.toInt ≤ 255 := by rw [ev_15]; exact hI 7 _
      refine lv_goto (tgt := 48) hx hb dX12_byteAt_44 (by decide) ?_
      exact hret _ _ _ _ (v_15) f L Q dX12_byteAt_48 hP hS ⟨⟨rfl, rfl, rfl⟩, ⟨by omega, by omega⟩, (by omega), (Eq.trans (Eq.symm (hs.trans ((if_neg (Int.not_lt.mpr c_11)).trans (spl_e ev_13 (spl_e ev_15 rfl))))) hsp)⟩
    · skip
      have c_12 : v_9.toInt < 0 := (by first | exact (cm_nle0 ti_0 c) | (have z := bn_nle c; have k1 : (0 : Int32).toInt = 0 := ti_0; omega))
      refine lv_aload_n hx hb dX12_byteAt_18 rfl (lv_at hl 0 rfl) ?_
      refine sl_gM_0_8_12 hx hb hts hown hK hP dX12_byteAt_19 ?_
      refine lv_aload_n hx hb dX12_byteAt_22 rfl (lv_at hl 0 rfl) ?_
      refine sl_gM_0_13_12 (v := v_1) hx hb hts hown hK hP (show f 0 13 = v_1 from ev_1.symm) dX12_byteAt_23 ?_
      refine sg_iald hx hb hK hP 6 (by decide) 0 rfl rfl (i := v_1) (vp_in_iff.mpr ⟨by omega, by omega⟩) dX12_byteAt_26 ?_
      refine lv_topi (fun v_17 ev_17 => ?_)
      have q_18 : 0 ≤ v_17.toInt ∧ v_17.toInt ≤ 255 := by rw [ev_17]; exact hI 6 _
      refine lv_goto (tgt := 48) hx hb dX12_byteAt_27 (by decide) ?_
      exact hret _ _ _ _ (v_17) f L Q dX12_byteAt_48 hP hS ⟨⟨rfl, rfl, rfl⟩, ⟨by omega, by omega⟩, (by omega), (Eq.trans (Eq.symm (hs.trans ((if_pos c_12).trans (spl_e ev_17 rfl)))) hsp)⟩

abbrev WkX12_wrong : List (Nat × Nat × Option Nat) := [(0, 0, some 15)]
set_option maxHeartbeats 4000000 in
set_option maxRecDepth 100000 in
theorem kX12_wrong (l : Launch) (D : va_G) (ca : Nat → ClassId) (za h : Nat → Nat) (hh : sgH 26 h) (f : sg_F) (L : sg_L) (Q : sg_Q) (hI : sgI loM hiM f) (sz : Nat) : Met l yX12_wrong gwX12_wrong { frames := 0, cells := 0, slots := 0, locals := 0 } (sgP D vwCl (tyX ca) 26 h (eM ca h) zcM za f L Q sz [.ref (h 0)]) (sgQi D vwCl 26 h (eM ca h) sz (fun r f1 L1 Q1 => ((sgI loM hiM f1 ∧ sgK WkX12_wrong f f1 ∧ L1 = L ∧ Q1 = Q) ∧ (0 ≤ r.toInt ∧ r.toInt ≤ 0) ∧ (0 ≤ (f1 0 15).toInt) ∧ (r, f1) = sX12_wrong f L))) 0 0 (sgA 26 h sz) := by
  refine sg_ofWi (cc := cX12_wrong) (maxL := 1) RX12 (by decide) rfl rfl (Nat.le_of_ble_eq_true rfl) ?_
  intro p e s m below meth cd Qz ls hx hb hml hown hts hK hZ hP hS hl hret
  have hA := sgY.self (n := 26) (h := h) (sz := s.heap.size)
  have hl : lv_has ls 1 [(0, .ref (h 0))] := hl
  obtain ⟨H, hH⟩ : ∃ z : Heap, z = s.heap := ⟨_, rfl⟩
  obtain ⟨locs, hlo⟩ : ∃ z : List Loc, z = [] := ⟨_, rfl⟩
  have hP : va_P D vwCl (sgw 26 h (eM ca h) f L Q) H := by rw [hH]; exact hP
  have hS : va_S (sgA 26 h s.heap.size) s.heap H locs := by rw [hH, hlo]; exact hS
  suffices hgo : W p l e ({ frames := 0, cells := 0, slots := 0, locals := 0 }) s m ([.ref (h 0)] : List Value).toArray below meth cd H locs 0 0 Qz (F0 m 0 ls []) by rw [hH, hlo] at hgo; exact hgo
  clear hH hlo
  obtain ⟨sp, hsp⟩ : ∃ z : Int32 × sg_F, z = sX12_wrong f L := ⟨_, rfl⟩
  have hs : sp = sX12_wrong f L := hsp
  obtain ⟨v_1, ev_1⟩ : ∃ z : Int32, z = f 0 15 := ⟨_, rfl⟩
  replace hs := hs.trans (spl_e ev_1 rfl)
  have q_2 : (-1) ≤ v_1.toInt ∧ v_1.toInt ≤ 120 := by rw [ev_1]; exact hI 0 15
  have o_3 : (f 0 15).toInt = v_1.toInt := (congrArg Int32.toInt (show f 0 15 = v_1 from ev_1.symm))
  have hF : sgK WkX12_wrong f f := sgK.rf
  refine lv_aload_n hx hb dX12_wrong_0 rfl (lv_at hl 0 rfl) ?_
  refine lv_aload_n hx hb dX12_wrong_1 rfl (lv_at hl 0 rfl) ?_
  refine sl_gM_0_15_12 (v := v_1) hx hb hts hown hK hP (show f 0 15 = v_1 from ev_1.symm) dX12_wrong_2 ?_
  refine lv_if_ge (tgt := 15) hx hb dX12_wrong_5 (by decide) (fun c => ?_) (fun c => ?_)
  · skip
    have c_4 : 0 ≤ v_1.toInt := (by first | exact (cm_le0 ti_0 c) | (have z := bn_le c; have k1 : (0 : Int32).toInt = 0 := ti_0; omega))
    refine lv_aload_n hx hb dX12_wrong_15 rfl (lv_at hl 0 rfl) ?_
    refine sl_gM_0_15_12 (v := v_1) hx hb hts hown hK hP (show f 0 15 = v_1 from ev_1.symm) dX12_wrong_16 ?_
    refine sl_pM_0_15_12 (x := v_1) hx hb hts hown hh hA hK hP hS dX12_wrong_19 (fun f_6 H locs ef_6 hP hS => ?_)
    have hI : sgI loM hiM f_6 := by rw [ef_6]; exact sgI.put hI 0 15 (show (-1) ≤ (v_1 : Int32).toInt ∧ (v_1 : Int32).toInt ≤ 120 from q_2)
    have hF : sgK WkX12_wrong f f_6 := sgK.put hF ef_6 (by rfl)
    refine lv_iconst (v := 0) hx hb dX12_wrong_22 ic_0 ?_
    have q_7 : (f_6 0 15).toInt = v_1.toInt := (congrArg Int32.toInt (show f_6 0 15 = v_1 from (by rw [ef_6, sg_up_s, sgu_s])))
    have k99 : (0 : Int32).toInt = 0 := ti_0
    exact hret _ _ _ _ (0) f_6 L Q dX12_wrong_23 hP hS ⟨⟨hI, hF, rfl, rfl⟩, (by decide), (by omega), (Eq.trans (Eq.symm (hs.trans ((if_neg (Int.not_lt.mpr c_4)).trans (spl_e ef_6 rfl)))) hsp)⟩
  · skip
    have c_5 : v_1.toInt < 0 := (by first | exact (cm_nle0 ti_0 c) | (have z := bn_nle c; have k1 : (0 : Int32).toInt = 0 := ti_0; omega))
    refine lv_aload_n hx hb dX12_wrong_8 rfl (lv_at hl 0 rfl) ?_
    refine sl_gM_0_13_12 (v := (f 0 13)) hx hb hts hown hK hP rfl dX12_wrong_9 ?_
    refine lv_topi (fun v_8 ev_8 => ?_)
    have q_9 : 0 ≤ v_8.toInt ∧ v_8.toInt ≤ 120 := by rw [ev_8]; exact hI 0 13
    refine lv_goto (tgt := 19) hx hb dX12_wrong_12 (by decide) ?_
    refine sl_pM_0_15_12 (x := v_8) hx hb hts hown hh hA hK hP hS dX12_wrong_19 (fun f_10 H locs ef_10 hP hS => ?_)
    have hI : sgI loM hiM f_10 := by rw [ef_10]; exact sgI.put hI 0 15 (show (-1) ≤ (v_8 : Int32).toInt ∧ (v_8 : Int32).toInt ≤ 120 from ⟨by omega, by omega⟩)
    have hF : sgK WkX12_wrong f f_10 := sgK.put hF ef_10 (by rfl)
    refine lv_iconst (v := 0) hx hb dX12_wrong_22 ic_0 ?_
    have q_11 : (f_10 0 15).toInt = v_8.toInt := (congrArg Int32.toInt (show f_10 0 15 = v_8 from (by rw [ef_10, sg_up_s, sgu_s])))
    have k99 : (0 : Int32).toInt = 0 := ti_0
    exact hret _ _ _ _ (0) f_10 L Q dX12_wrong_23 hP hS ⟨⟨hI, hF, rfl, rfl⟩, (by decide), (by omega), (Eq.trans (Eq.symm (hs.trans ((if_pos c_5).trans (spl_e ev_8 (spl_e ef_10 rfl))))) hsp)⟩

set_option maxHeartbeats 4000000 in
set_option maxRecDepth 100000 in
theorem kX12_nameOf (l : Launch) (D : va_G) (ca : Nat → ClassId) (za h : Nat → Nat) (hh : sgH 26 h) (f : sg_F) (L : sg_L) (Q : sg_Q) (hI : sgI loM hiM f) (x0 : Int32) (b0 : 0 ≤ x0.toInt ∧ x0.toInt ≤ 255) (sz : Nat) : Met l yX12_nameOf gwX12_nameOf { frames := 0, cells := 0, slots := 0, locals := 0 } (sgP D vwCl (tyX ca) 26 h (eM ca h) zcM za f L Q sz [.int x0]) (sgQi D vwCl 26 h (eM ca h) sz (fun r f1 L1 Q1 => ((f1 = f ∧ L1 = L ∧ Q1 = Q) ∧ ((-1) ≤ r.toInt ∧ r.toInt ≤ 5) ∧ (r.toInt < 0 ∨ 0 < x0.toInt) ∧ (r) = sX12_nameOf x0 f L))) 0 0 (sgA 26 h sz) := by
  refine sg_ofWi (cc := cX12_nameOf) (maxL := 1) RX12 (by decide) rfl rfl (Nat.le_of_ble_eq_true rfl) ?_
  intro p e s m below meth cd Qz ls hx hb hml hown hts hK hZ hP hS hl hret
  have hA := sgY.self (n := 26) (h := h) (sz := s.heap.size)
  have hl : lv_has ls 1 [(0, .int x0)] := hl
  obtain ⟨H, hH⟩ : ∃ z : Heap, z = s.heap := ⟨_, rfl⟩
  obtain ⟨locs, hlo⟩ : ∃ z : List Loc, z = [] := ⟨_, rfl⟩
  have hP : va_P D vwCl (sgw 26 h (eM ca h) f L Q) H := by rw [hH]; exact hP
  have hS : va_S (sgA 26 h s.heap.size) s.heap H locs := by rw [hH, hlo]; exact hS
  suffices hgo : W p l e ({ frames := 0, cells := 0, slots := 0, locals := 0 }) s m ([.int x0] : List Value).toArray below meth cd H locs 0 0 Qz (F0 m 0 ls []) by rw [hH, hlo] at hgo; exact hgo
  clear hH hlo
  obtain ⟨sp, hsp⟩ : ∃ z : Int32, z = sX12_nameOf x0 f L := ⟨_, rfl⟩
  have hs : sp = sX12_nameOf x0 f L := hsp
  refine lv_iload_n hx hb dX12_nameOf_0 rfl (lv_at hl 0 rfl) ?_
  rcases (show (x0.toInt ≠ 100 ∧ x0.toInt ≠ 104 ∧ x0.toInt ≠ 107 ∧ x0.toInt ≠ 115 ∧ x0.toInt ≠ 117 ∧ x0.toInt ≠ 119) ∨ x0.toInt = 100 ∨ x0.toInt = 104 ∨ x0.toInt = 107 ∨ x0.toInt = 115 ∨ x0.toInt = 117 ∨ x0.toInt = 119 from by omega) with c | c | c | c | c | c | c
  · skip
    have cs_1 := c
    replace hs := hs.trans ((if_neg cs_1.1).trans ((if_neg cs_1.2.1).trans ((if_neg cs_1.2.2.1).trans ((if_neg cs_1.2.2.2.1).trans ((if_neg cs_1.2.2.2.2.1).trans ((if_neg cs_1.2.2.2.2.2).trans rfl))))))
    rcases (show (x0.toInt < 100 ∨ 119 < x0.toInt) ∨ x0.toInt = 101 ∨ x0.toInt = 102 ∨ x0.toInt = 103 ∨ x0.toInt = 105 ∨ x0.toInt = 106 ∨ x0.toInt = 108 ∨ x0.toInt = 109 ∨ x0.toInt = 110 ∨ x0.toInt = 111 ∨ x0.toInt = 112 ∨ x0.toInt = 113 ∨ x0.toInt = 114 ∨ x0.toInt = 116 ∨ x0.toInt = 118 from by omega) with c9 | c9 | c9 | c9 | c9 | c9 | c9 | c9 | c9 | c9 | c9 | c9 | c9 | c9 | c9
    · skip
      refine lv_tableOut (x := x0) (tgt := 108) hx hb dX12_nameOf_1 c9 (by decide) ?_
      refine lv_iconst (v := (-1)) hx hb dX12_nameOf_108 ic_m1 ?_
      have k99 : ((-1) : Int32).toInt = (-1) := ti_m1
      exact hret _ _ _ _ (-1) f L Q dX12_nameOf_109 hP hS ⟨⟨rfl, rfl, rfl⟩, (by decide), (by omega), (Eq.trans (Eq.symm (hs.trans ((if_neg (by omega)).trans ((if_neg (by omega)).trans ((if_neg (by omega)).trans ((if_neg (by omega)).trans ((if_neg (by omega)).trans ((if_neg (by omega)).trans ((if_neg (by omega)).trans ((if_neg (by omega)).trans ((if_neg (by omega)).trans ((if_neg (by omega)).trans ((if_neg (by omega)).trans ((if_neg (by omega)).trans ((if_neg (by omega)).trans ((if_neg (by omega)).trans rfl)))))))))))))))) hsp)⟩
    · skip
      refine lv_tableIn (x := x0) (tgt := 108) hx hb dX12_nameOf_1 (by omega) (by omega) (by rw [c9]; rfl) (by decide) ?_
      refine lv_iconst (v := (-1)) hx hb dX12_nameOf_108 ic_m1 ?_
      have k99 : ((-1) : Int32).toInt = (-1) := ti_m1
      exact hret _ _ _ _ (-1) f L Q dX12_nameOf_109 hP hS ⟨⟨rfl, rfl, rfl⟩, (by decide), (by omega), (Eq.trans (Eq.symm (hs.trans ((if_pos c9).trans rfl))) hsp)⟩
    · skip
      refine lv_tableIn (x := x0) (tgt := 108) hx hb dX12_nameOf_1 (by omega) (by omega) (by rw [c9]; rfl) (by decide) ?_
      refine lv_iconst (v := (-1)) hx hb dX12_nameOf_108 ic_m1 ?_
      have k99 : ((-1) : Int32).toInt = (-1) := ti_m1
      exact hret _ _ _ _ (-1) f L Q dX12_nameOf_109 hP hS ⟨⟨rfl, rfl, rfl⟩, (by decide), (by omega), (Eq.trans (Eq.symm (hs.trans ((if_neg (fun z => absurd (z.symm.trans c9) (by decide))).trans ((if_pos c9).trans rfl)))) hsp)⟩
    · skip
      refine lv_tableIn (x := x0) (tgt := 108) hx hb dX12_nameOf_1 (by omega) (by omega) (by rw [c9]; rfl) (by decide) ?_
      refine lv_iconst (v := (-1)) hx hb dX12_nameOf_108 ic_m1 ?_
      have k99 : ((-1) : Int32).toInt = (-1) := ti_m1
      exact hret _ _ _ _ (-1) f L Q dX12_nameOf_109 hP hS ⟨⟨rfl, rfl, rfl⟩, (by decide), (by omega), (Eq.trans (Eq.symm (hs.trans ((if_neg (fun z => absurd (z.symm.trans c9) (by decide))).trans ((if_neg (fun z => absurd (z.symm.trans c9) (by decide))).trans ((if_pos c9).trans rfl))))) hsp)⟩
    · skip
      refine lv_tableIn (x := x0) (tgt := 108) hx hb dX12_nameOf_1 (by omega) (by omega) (by rw [c9]; rfl) (by decide) ?_
      refine lv_iconst (v := (-1)) hx hb dX12_nameOf_108 ic_m1 ?_
      have k99 : ((-1) : Int32).toInt = (-1) := ti_m1
      exact hret _ _ _ _ (-1) f L Q dX12_nameOf_109 hP hS ⟨⟨rfl, rfl, rfl⟩, (by decide), (by omega), (Eq.trans (Eq.symm (hs.trans ((if_neg (fun z => absurd (z.symm.trans c9) (by decide))).trans ((if_neg (fun z => absurd (z.symm.trans c9) (by decide))).trans ((if_neg (fun z => absurd (z.symm.trans c9) (by decide))).trans ((if_pos c9).trans rfl)))))) hsp)⟩
    · skip
      refine lv_tableIn (x := x0) (tgt := 108) hx hb dX12_nameOf_1 (by omega) (by omega) (by rw [c9]; rfl) (by decide) ?_
      refine lv_iconst (v := (-1)) hx hb dX12_nameOf_108 ic_m1 ?_
      have k99 : ((-1) : Int32).toInt = (-1) := ti_m1
      exact hret _ _ _ _ (-1) f L Q dX12_nameOf_109 hP hS ⟨⟨rfl, rfl, rfl⟩, (by decide), (by omega), (Eq.trans (Eq.symm (hs.trans ((if_neg (fun z => absurd (z.symm.trans c9) (by decide))).trans ((if_neg (fun z => absurd (z.symm.trans c9) (by decide))).trans ((if_neg (fun z => absurd (z.symm.trans c9) (by decide))).trans ((if_neg (fun z => absurd (z.symm.trans c9) (by decide))).trans ((if_pos c9).trans rfl))))))) hsp)⟩
    · skip
      refine lv_tableIn (x := x0) (tgt := 108) hx hb dX12_nameOf_1 (by omega) (by omega) (by rw [c9]; rfl) (by decide) ?_
      refine lv_iconst (v := (-1)) hx hb dX12_nameOf_108 ic_m1 ?_
      have k99 : ((-1) : Int32).toInt = (-1) := ti_m1
      exact hret _ _ _ _ (-1) f L Q dX12_nameOf_109 hP hS ⟨⟨rfl, rfl, rfl⟩, (by decide), (by omega), (Eq.trans (Eq.symm (hs.trans ((if_neg (fun z => absurd (z.symm.trans c9) (by decide))).trans ((if_neg (fun z => absurd (z.symm.trans c9) (by decide))).trans ((if_neg (fun z => absurd (z.symm.trans c9) (by decide))).trans ((if_neg (fun z => absurd (z.symm.trans c9) (by decide))).trans ((if_neg (fun z => absurd (z.symm.trans c9) (by decide))).trans ((if_pos c9).trans rfl)))))))) hsp)⟩
    · skip
      refine lv_tableIn (x := x0) (tgt := 108) hx hb dX12_nameOf_1 (by omega) (by omega) (by rw [c9]; rfl) (by decide) ?_
      refine lv_iconst (v := (-1)) hx hb dX12_nameOf_108 ic_m1 ?_
      have k99 : ((-1) : Int32).toInt = (-1) := ti_m1
      exact hret _ _ _ _ (-1) f L Q dX12_nameOf_109 hP hS ⟨⟨rfl, rfl, rfl⟩, (by decide), (by omega), (Eq.trans (Eq.symm (hs.trans ((if_neg (fun z => absurd (z.symm.trans c9) (by decide))).trans ((if_neg (fun z => absurd (z.symm.trans c9) (by decide))).trans ((if_neg (fun z => absurd (z.symm.trans c9) (by decide))).trans ((if_neg (fun z => absurd (z.symm.trans c9) (by decide))).trans ((if_neg (fun z => absurd (z.symm.trans c9) (by decide))).trans ((if_neg (fun z => absurd (z.symm.trans c9) (by decide))).trans ((if_pos c9).trans rfl))))))))) hsp)⟩
    · skip
      refine lv_tableIn (x := x0) (tgt := 108) hx hb dX12_nameOf_1 (by omega) (by omega) (by rw [c9]; rfl) (by decide) ?_
      refine lv_iconst (v := (-1)) hx hb dX12_nameOf_108 ic_m1 ?_
      have k99 : ((-1) : Int32).toInt = (-1) := ti_m1
      exact hret _ _ _ _ (-1) f L Q dX12_nameOf_109 hP hS ⟨⟨rfl, rfl, rfl⟩, (by decide), (by omega), (Eq.trans (Eq.symm (hs.trans ((if_neg (fun z => absurd (z.symm.trans c9) (by decide))).trans ((if_neg (fun z => absurd (z.symm.trans c9) (by decide))).trans ((if_neg (fun z => absurd (z.symm.trans c9) (by decide))).trans ((if_neg (fun z => absurd (z.symm.trans c9) (by decide))).trans ((if_neg (fun z => absurd (z.symm.trans c9) (by decide))).trans ((if_neg (fun z => absurd (z.symm.trans c9) (by decide))).trans ((if_neg (fun z => absurd (z.symm.trans c9) (by decide))).trans ((if_pos c9).trans rfl)))))))))) hsp)⟩
    · skip
      refine lv_tableIn (x := x0) (tgt := 108) hx hb dX12_nameOf_1 (by omega) (by omega) (by rw [c9]; rfl) (by decide) ?_
      refine lv_iconst (v := (-1)) hx hb dX12_nameOf_108 ic_m1 ?_
      have k99 : ((-1) : Int32).toInt = (-1) := ti_m1
      exact hret _ _ _ _ (-1) f L Q dX12_nameOf_109 hP hS ⟨⟨rfl, rfl, rfl⟩, (by decide), (by omega), (Eq.trans (Eq.symm (hs.trans ((if_neg (fun z => absurd (z.symm.trans c9) (by decide))).trans ((if_neg (fun z => absurd (z.symm.trans c9) (by decide))).trans ((if_neg (fun z => absurd (z.symm.trans c9) (by decide))).trans ((if_neg (fun z => absurd (z.symm.trans c9) (by decide))).trans ((if_neg (fun z => absurd (z.symm.trans c9) (by decide))).trans ((if_neg (fun z => absurd (z.symm.trans c9) (by decide))).trans ((if_neg (fun z => absurd (z.symm.trans c9) (by decide))).trans ((if_neg (fun z => absurd (z.symm.trans c9) (by decide))).trans ((if_pos c9).trans rfl))))))))))) hsp)⟩
    · skip
      refine lv_tableIn (x := x0) (tgt := 108) hx hb dX12_nameOf_1 (by omega) (by omega) (by rw [c9]; rfl) (by decide) ?_
      refine lv_iconst (v := (-1)) hx hb dX12_nameOf_108 ic_m1 ?_
      have k99 : ((-1) : Int32).toInt = (-1) := ti_m1
      exact hret _ _ _ _ (-1) f L Q dX12_nameOf_109 hP hS ⟨⟨rfl, rfl, rfl⟩, (by decide), (by omega), (Eq.trans (Eq.symm (hs.trans ((if_neg (fun z => absurd (z.symm.trans c9) (by decide))).trans ((if_neg (fun z => absurd (z.symm.trans c9) (by decide))).trans ((if_neg (fun z => absurd (z.symm.trans c9) (by decide))).trans ((if_neg (fun z => absurd (z.symm.trans c9) (by decide))).trans ((if_neg (fun z => absurd (z.symm.trans c9) (by decide))).trans ((if_neg (fun z => absurd (z.symm.trans c9) (by decide))).trans ((if_neg (fun z => absurd (z.symm.trans c9) (by decide))).trans ((if_neg (fun z => absurd (z.symm.trans c9) (by decide))).trans ((if_neg (fun z => absurd (z.symm.trans c9) (by decide))).trans ((if_pos c9).trans rfl)))))))))))) hsp)⟩
    · skip
      refine lv_tableIn (x := x0) (tgt := 108) hx hb dX12_nameOf_1 (by omega) (by omega) (by rw [c9]; rfl) (by decide) ?_
      refine lv_iconst (v := (-1)) hx hb dX12_nameOf_108 ic_m1 ?_
      have k99 : ((-1) : Int32).toInt = (-1) := ti_m1
      exact hret _ _ _ _ (-1) f L Q dX12_nameOf_109 hP hS ⟨⟨rfl, rfl, rfl⟩, (by decide), (by omega), (Eq.trans (Eq.symm (hs.trans ((if_neg (fun z => absurd (z.symm.trans c9) (by decide))).trans ((if_neg (fun z => absurd (z.symm.trans c9) (by decide))).trans ((if_neg (fun z => absurd (z.symm.trans c9) (by decide))).trans ((if_neg (fun z => absurd (z.symm.trans c9) (by decide))).trans ((if_neg (fun z => absurd (z.symm.trans c9) (by decide))).trans ((if_neg (fun z => absurd (z.symm.trans c9) (by decide))).trans ((if_neg (fun z => absurd (z.symm.trans c9) (by decide))).trans ((if_neg (fun z => absurd (z.symm.trans c9) (by decide))).trans ((if_neg (fun z => absurd (z.symm.trans c9) (by decide))).trans ((if_neg (fun z => absurd (z.symm.trans c9) (by decide))).trans ((if_pos c9).trans rfl))))))))))))) hsp)⟩
    · skip
      refine lv_tableIn (x := x0) (tgt := 108) hx hb dX12_nameOf_1 (by omega) (by omega) (by rw [c9]; rfl) (by decide) ?_
      refine lv_iconst (v := (-1)) hx hb dX12_nameOf_108 ic_m1 ?_
      have k99 : ((-1) : Int32).toInt = (-1) := ti_m1
      exact hret _ _ _ _ (-1) f L Q dX12_nameOf_109 hP hS ⟨⟨rfl, rfl, rfl⟩, (by decide), (by omega), (Eq.trans (Eq.symm (hs.trans ((if_neg (fun z => absurd (z.symm.trans c9) (by decide))).trans ((if_neg (fun z => absurd (z.symm.trans c9) (by decide))).trans ((if_neg (fun z => absurd (z.symm.trans c9) (by decide))).trans ((if_neg (fun z => absurd (z.symm.trans c9) (by decide))).trans ((if_neg (fun z => absurd (z.symm.trans c9) (by decide))).trans ((if_neg (fun z => absurd (z.symm.trans c9) (by decide))).trans ((if_neg (fun z => absurd (z.symm.trans c9) (by decide))).trans ((if_neg (fun z => absurd (z.symm.trans c9) (by decide))).trans ((if_neg (fun z => absurd (z.symm.trans c9) (by decide))).trans ((if_neg (fun z => absurd (z.symm.trans c9) (by decide))).trans ((if_neg (fun z => absurd (z.symm.trans c9) (by decide))).trans ((if_pos c9).trans rfl)))))))))))))) hsp)⟩
    · skip
      refine lv_tableIn (x := x0) (tgt := 108) hx hb dX12_nameOf_1 (by omega) (by omega) (by rw [c9]; rfl) (by decide) ?_
      refine lv_iconst (v := (-1)) hx hb dX12_nameOf_108 ic_m1 ?_
      have k99 : ((-1) : Int32).toInt = (-1) := ti_m1
      exact hret _ _ _ _ (-1) f L Q dX12_nameOf_109 hP hS ⟨⟨rfl, rfl, rfl⟩, (by decide), (by omega), (Eq.trans (Eq.symm (hs.trans ((if_neg (fun z => absurd (z.symm.trans c9) (by decide))).trans ((if_neg (fun z => absurd (z.symm.trans c9) (by decide))).trans ((if_neg (fun z => absurd (z.symm.trans c9) (by decide))).trans ((if_neg (fun z => absurd (z.symm.trans c9) (by decide))).trans ((if_neg (fun z => absurd (z.symm.trans c9) (by decide))).trans ((if_neg (fun z => absurd (z.symm.trans c9) (by decide))).trans ((if_neg (fun z => absurd (z.symm.trans c9) (by decide))).trans ((if_neg (fun z => absurd (z.symm.trans c9) (by decide))).trans ((if_neg (fun z => absurd (z.symm.trans c9) (by decide))).trans ((if_neg (fun z => absurd (z.symm.trans c9) (by decide))).trans ((if_neg (fun z => absurd (z.symm.trans c9) (by decide))).trans ((if_neg (fun z => absurd (z.symm.trans c9) (by decide))).trans ((if_pos c9).trans rfl))))))))))))))) hsp)⟩
    · skip
      refine lv_tableIn (x := x0) (tgt := 108) hx hb dX12_nameOf_1 (by omega) (by omega) (by rw [c9]; rfl) (by decide) ?_
      refine lv_iconst (v := (-1)) hx hb dX12_nameOf_108 ic_m1 ?_
      have k99 : ((-1) : Int32).toInt = (-1) := ti_m1
      exact hret _ _ _ _ (-1) f L Q dX12_nameOf_109 hP hS ⟨⟨rfl, rfl, rfl⟩, (by decide), (by omega), (Eq.trans (Eq.symm (hs.trans ((if_neg (fun z => absurd (z.symm.trans c9) (by decide))).trans ((if_neg (fun z => absurd (z.symm.trans c9) (by decide))).trans ((if_neg (fun z => absurd (z.symm.trans c9) (by decide))).trans ((if_neg (fun z => absurd (z.symm.trans c9) (by decide))).trans ((if_neg (fun z => absurd (z.symm.trans c9) (by decide))).trans ((if_neg (fun z => absurd (z.symm.trans c9) (by decide))).trans ((if_neg (fun z => absurd (z.symm.trans c9) (by decide))).trans ((if_neg (fun z => absurd (z.symm.trans c9) (by decide))).trans ((if_neg (fun z => absurd (z.symm.trans c9) (by decide))).trans ((if_neg (fun z => absurd (z.symm.trans c9) (by decide))).trans ((if_neg (fun z => absurd (z.symm.trans c9) (by decide))).trans ((if_neg (fun z => absurd (z.symm.trans c9) (by decide))).trans ((if_neg (fun z => absurd (z.symm.trans c9) (by decide))).trans ((if_pos c9).trans rfl)))))))))))))))) hsp)⟩
  · skip
    have cs_1 := c
    have c_2 := c
    refine lv_tableIn (x := x0) (tgt := 96) hx hb dX12_nameOf_1 (by omega) (by omega) (by rw [c]; rfl) (by decide) ?_
    refine lv_iconst (v := 0) hx hb dX12_nameOf_96 ic_0 ?_
    have k99 : (0 : Int32).toInt = 0 := ti_0
    exact hret _ _ _ _ (0) f L Q dX12_nameOf_97 hP hS ⟨⟨rfl, rfl, rfl⟩, (by decide), (by omega), (Eq.trans (Eq.symm (hs.trans (((if_pos cs_1).trans rfl)))) hsp)⟩
  · skip
    have cs_1 := c
    have c_3 := c
    refine lv_tableIn (x := x0) (tgt := 104) hx hb dX12_nameOf_1 (by omega) (by omega) (by rw [c]; rfl) (by decide) ?_
    refine lv_iconst (v := 4) hx hb dX12_nameOf_104 ic_4 ?_
    have k99 : (4 : Int32).toInt = 4 := ti_4
    exact hret _ _ _ _ (4) f L Q dX12_nameOf_105 hP hS ⟨⟨rfl, rfl, rfl⟩, (by decide), (by omega), (Eq.trans (Eq.symm (hs.trans (((if_neg (fun z => absurd (z.symm.trans cs_1) (by decide))).trans ((if_pos cs_1).trans rfl))))) hsp)⟩
  · skip
    have cs_1 := c
    have c_4 := c
    refine lv_tableIn (x := x0) (tgt := 106) hx hb dX12_nameOf_1 (by omega) (by omega) (by rw [c]; rfl) (by decide) ?_
    refine lv_iconst (v := 5) hx hb dX12_nameOf_106 ic_5 ?_
    have k99 : (5 : Int32).toInt = 5 := ti_5
    exact hret _ _ _ _ (5) f L Q dX12_nameOf_107 hP hS ⟨⟨rfl, rfl, rfl⟩, (by decide), (by omega), (Eq.trans (Eq.symm (hs.trans (((if_neg (fun z => absurd (z.symm.trans cs_1) (by decide))).trans ((if_neg (fun z => absurd (z.symm.trans cs_1) (by decide))).trans ((if_pos cs_1).trans rfl)))))) hsp)⟩
  · skip
    have cs_1 := c
    have c_5 := c
    refine lv_tableIn (x := x0) (tgt := 100) hx hb dX12_nameOf_1 (by omega) (by omega) (by rw [c]; rfl) (by decide) ?_
    refine lv_iconst (v := 2) hx hb dX12_nameOf_100 ic_2 ?_
    have k99 : (2 : Int32).toInt = 2 := ti_2
    exact hret _ _ _ _ (2) f L Q dX12_nameOf_101 hP hS ⟨⟨rfl, rfl, rfl⟩, (by decide), (by omega), (Eq.trans (Eq.symm (hs.trans (((if_neg (fun z => absurd (z.symm.trans cs_1) (by decide))).trans ((if_neg (fun z => absurd (z.symm.trans cs_1) (by decide))).trans ((if_neg (fun z => absurd (z.symm.trans cs_1) (by decide))).trans ((if_pos cs_1).trans rfl))))))) hsp)⟩
  · skip
    have cs_1 := c
    have c_6 := c
    refine lv_tableIn (x := x0) (tgt := 98) hx hb dX12_nameOf_1 (by omega) (by omega) (by rw [c]; rfl) (by decide) ?_
    refine lv_iconst (v := 1) hx hb dX12_nameOf_98 ic_1 ?_
    have k99 : (1 : Int32).toInt = 1 := ti_1
    exact hret _ _ _ _ (1) f L Q dX12_nameOf_99 hP hS ⟨⟨rfl, rfl, rfl⟩, (by decide), (by omega), (Eq.trans (Eq.symm (hs.trans (((if_neg (fun z => absurd (z.symm.trans cs_1) (by decide))).trans ((if_neg (fun z => absurd (z.symm.trans cs_1) (by decide))).trans ((if_neg (fun z => absurd (z.symm.trans cs_1) (by decide))).trans ((if_neg (fun z => absurd (z.symm.trans cs_1) (by decide))).trans ((if_pos cs_1).trans rfl)))))))) hsp)⟩
  · skip
    have cs_1 := c
    have c_7 := c
    refine lv_tableIn (x := x0) (tgt := 102) hx hb dX12_nameOf_1 (by omega) (by omega) (by rw [c]; rfl) (by decide) ?_
    refine lv_iconst (v := 3) hx hb dX12_nameOf_102 ic_3 ?_
    have k99 : (3 : Int32).toInt = 3 := ti_3
    exact hret _ _ _ _ (3) f L Q dX12_nameOf_103 hP hS ⟨⟨rfl, rfl, rfl⟩, (by decide), (by omega), (Eq.trans (Eq.symm (hs.trans (((if_neg (fun z => absurd (z.symm.trans cs_1) (by decide))).trans ((if_neg (fun z => absurd (z.symm.trans cs_1) (by decide))).trans ((if_neg (fun z => absurd (z.symm.trans cs_1) (by decide))).trans ((if_neg (fun z => absurd (z.symm.trans cs_1) (by decide))).trans ((if_neg (fun z => absurd (z.symm.trans cs_1) (by decide))).trans ((if_pos cs_1).trans rfl))))))))) hsp)⟩

abbrev WkX12_one_6 : List (Nat × Nat × Option Nat) := [(0, 0, some 13), (0, 0, some 15)]
set_option maxHeartbeats 4000000 in
set_option maxRecDepth 100000 in
theorem kX12_one_6 (l : Launch) (D : va_G) (ca : Nat → ClassId) (za h : Nat → Nat) (hh : sgH 26 h) (f : sg_F) (L : sg_L) (Q : sg_Q) (hI : sgI loM hiM f) (p0 : 6 ≤ (f 0 16).toInt) (p1 : 0 ≤ (f 0 15).toInt ∨ (f 0 16).toInt = 6) (sz : Nat) : Met l yX12_one gwX12_one { frames := 1, cells := 0, slots := 0, locals := 20 } (sgP D vwCl (tyX ca) 26 h (eM ca h) zcM za f L Q sz [.ref (h 0)]) (sgQi D vwCl 26 h (eM ca h) sz (fun r f1 L1 Q1 => ((sgI loM hiM f1 ∧ sgK WkX12_one_6 f f1 ∧ L1 = L ∧ Q1 = Q) ∧ True ∧ ((f 0 13).toInt ≤ (f1 0 13).toInt) ∧ (6 ≤ (f1 0 16).toInt) ∧ (0 ≤ (f1 0 15).toInt ∨ (f1 0 16).toInt = 6) ∧ (r, f1) = sX12_one_6 f L))) 0 0 (sgA 26 h sz) := by
  refine sg_ofWi (cc := cX12_one) (maxL := 5) RX12 (by decide) rfl rfl (Nat.le_of_ble_eq_true rfl) ?_
  intro p e s m below meth cd Qz ls hx hb hml hown hts hK hZ hP hS hl hret
  have hA := sgY.self (n := 26) (h := h) (sz := s.heap.size)
  have hl : lv_has ls 5 [(0, .ref (h 0))] := hl
  obtain ⟨H, hH⟩ : ∃ z : Heap, z = s.heap := ⟨_, rfl⟩
  obtain ⟨locs, hlo⟩ : ∃ z : List Loc, z = [] := ⟨_, rfl⟩
  have hP : va_P D vwCl (sgw 26 h (eM ca h) f L Q) H := by rw [hH]; exact hP
  have hS : va_S (sgA 26 h s.heap.size) s.heap H locs := by rw [hH, hlo]; exact hS
  suffices hgo : W p l e ({ frames := 1, cells := 0, slots := 0, locals := 20 }) s m ([.ref (h 0)] : List Value).toArray below meth cd H locs 0 0 Qz (F0 m 0 ls []) by rw [hH, hlo] at hgo; exact hgo
  clear hH hlo
  obtain ⟨sp, hsp⟩ : ∃ z : Int32 × sg_F, z = sX12_one_6 f L := ⟨_, rfl⟩
  have hs : sp = sX12_one_6 f L := hsp
  obtain ⟨v_1, ev_1⟩ : ∃ z : Int32, z = f 0 16 := ⟨_, rfl⟩
  have q_2 : 0 ≤ v_1.toInt ∧ v_1.toInt ≤ 6 := by rw [ev_1]; exact hI 0 16
  obtain ⟨v_3, ev_3⟩ : ∃ z : Int32, z = f 0 15 := ⟨_, rfl⟩
  have q_4 : (-1) ≤ v_3.toInt ∧ v_3.toInt ≤ 120 := by rw [ev_3]; exact hI 0 15
  obtain ⟨v_5, ev_5⟩ : ∃ z : Int32, z = f 0 13 := ⟨_, rfl⟩
  replace hs := hs.trans (spl_e ev_1 (spl_e ev_3 (spl_e ev_5 rfl)))
  have q_6 : 0 ≤ v_5.toInt ∧ v_5.toInt ≤ 120 := by rw [ev_5]; exact hI 0 13
  have o_7 : (f 0 16).toInt = v_1.toInt := (congrArg Int32.toInt (show f 0 16 = v_1 from ev_1.symm))
  have o_8 : (f 0 15).toInt = v_3.toInt := (congrArg Int32.toInt (show f 0 15 = v_3 from ev_3.symm))
  have o_9 : (f 0 13).toInt = v_5.toInt := (congrArg Int32.toInt (show f 0 13 = v_5 from ev_5.symm))
  have hF : sgK WkX12_one_6 f f := sgK.rf
  have blk_229 : ∀ (y3_229 : Int32) (y4_229 : Int32) (fp_229 : sg_F) (H : Heap) (locs : List Loc) (ls : Array Slot), sp = sX12_one_6_b229 y3_229 y4_229 fp_229 L → (-1) ≤ (fp_229 0 15).toInt ∧ (fp_229 0 15).toInt ≤ (-1) → 0 ≤ y4_229.toInt ∧ y4_229.toInt ≤ 4 → (f 0 13).toInt ≤ (fp_229 0 13).toInt → 6 ≤ (fp_229 0 16).toInt → 0 ≤ (fp_229 0 15).toInt ∨ (fp_229 0 16).toInt = 6 → sgI loM hiM fp_229 → sgK WkX12_one_6 f fp_229 → va_P D vwCl (sgw 26 h (eM ca h) fp_229 L Q) H → va_S (sgA 26 h s.heap.size) s.heap H locs → lv_has ls 5 [(0, .ref (h 0)), (3, .int y3_229), (4, .int y4_229)] → W p l e ({ frames := 1, cells := 0, slots := 0, locals := 20 }) s m ([.ref (h 0)] : List Value).toArray below meth cd H locs 0 0 Qz (F0 m 229 ls []) := by
    intro y3_229 y4_229 fp_229 H locs ls hs hy0_229 hy1_229 hg0_229 hg1_229 hg2_229 hI hF hP hS hl
    obtain ⟨v_10, ev_10⟩ : ∃ z : Int32, z = fp_229 0 15 := ⟨_, rfl⟩
    have q_11 : (-1) ≤ v_10.toInt ∧ v_10.toInt ≤ 120 := by rw [ev_10]; exact hI 0 15
    have q_12 : (fp_229 0 15).toInt = v_10.toInt := by rw [ev_10]
    obtain ⟨v_13, ev_13⟩ : ∃ z : Int32, z = fp_229 0 13 := ⟨_, rfl⟩
    have q_14 : 0 ≤ v_13.toInt ∧ v_13.toInt ≤ 120 := by rw [ev_13]; exact hI 0 13
    have q_15 : (fp_229 0 13).toInt = v_13.toInt := by rw [ev_13]
    obtain ⟨v_16, ev_16⟩ : ∃ z : Int32, z = fp_229 0 16 := ⟨_, rfl⟩
    replace hs := hs.trans (spl_e ev_10 (spl_e ev_13 (spl_e ev_16 rfl)))
    have q_17 : 0 ≤ v_16.toInt ∧ v_16.toInt ≤ 6 := by rw [ev_16]; exact hI 0 16
    have q_18 : (fp_229 0 16).toInt = v_16.toInt := by rw [ev_16]
    refine lv_iload hx hb dX12_one_229 (lv_at hl 2 rfl) ?_
    refine lv_if_ne (tgt := 241) hx hb dX12_one_231 (by decide) (fun c => ?_) (fun c => ?_)
    · skip
      have c_19 : y4_229.toInt ≠ 0 := (by first | exact (cm_ne1 ti_0 c) | (have z := bn_ne c; have k1 : (0 : Int32).toInt = 0 := ti_0; omega))
      refine lv_iload_n hx hb dX12_one_241 rfl (lv_at hl 1 rfl) ?_
      exact hret _ _ _ _ (y3_229) fp_229 L Q dX12_one_242 hP hS ⟨⟨hI, hF, rfl, rfl⟩, trivial, (by omega), (by omega), (by omega), (Eq.trans (Eq.symm (hs.trans ((if_neg c_19).trans rfl))) hsp)⟩
    · skip
      have c_20 : y4_229.toInt = 0 := (by first | exact (cm_eq1 ti_0 c) | (have z := Int32.toInt_inj.mpr c; have k1 : (0 : Int32).toInt = 0 := ti_0; omega))
      refine lv_aload_n hx hb dX12_one_234 rfl (lv_at hl 0 rfl) ?_
      refine sg_calli (va_runV (As := []) (rest := []) ⟨hx, hb, hml, hown, hts⟩ (kX12_wrong l D ca za h hh fp_229 L Q hI H.size) (sl_c12_wrong_0_0_0_0_12 hts ⟨Nat.le_of_ble_eq_true rfl, Nat.le_of_ble_eq_true rfl⟩) (sl_vM_0 hA hK hP hS hZ) rfl rfl hl.1 rfl (lv_room (Nat.le_of_ble_eq_true rfl)) dX12_one_235 ⟨Nat.le_refl _, Nat.le_refl _⟩) hA hS (fun r_28 f_25 L_26 Q_27 H locs hq hP hS => ?_)
      obtain ⟨⟨hI, hk_f_25, eL9, eQ9⟩, hq, p_29, u_30⟩ := hq
      rw [eL9, eQ9] at hP; clear eL9 eQ9
      have hF : sgK WkX12_one_6 f f_25 := sgK.tr hF hk_f_25 (by decide +kernel)
      obtain ⟨v_31, ev_31⟩ : ∃ z : Int32, z = f_25 0 15 := ⟨_, rfl⟩
      have q_32 : (-1) ≤ v_31.toInt ∧ v_31.toInt ≤ 120 := by rw [ev_31]; exact hI 0 15
      have q_33 : (f_25 0 15).toInt = v_31.toInt := (congrArg Int32.toInt (show f_25 0 15 = v_31 from ev_31.symm))
      obtain rfl : r_28 = 0 := Int32.toInt_inj.mp (by have k9 : (0 : Int32).toInt = 0 := ti_0; omega)
      refine lv_goto (tgt := 242) hx hb dX12_one_238 (by decide) ?_
      have q_34 : (f_25 0 13).toInt = v_13.toInt := (congrArg Int32.toInt (show f_25 0 13 = v_13 from ((hk_f_25 0 13 (by decide)).trans ev_13.symm)))
      have q_35 : (f_25 0 16).toInt = v_16.toInt := (congrArg Int32.toInt (show f_25 0 16 = v_16 from ((hk_f_25 0 16 (by decide)).trans ev_16.symm)))
      have k99 : (0 : Int32).toInt = 0 := ti_0
      exact hret _ _ _ _ (0) f_25 L Q dX12_one_242 hP hS ⟨⟨hI, hF, rfl, rfl⟩, trivial, (by omega), (by omega), (by omega), (Eq.trans (Eq.symm (hs.trans ((if_pos c_20).trans (spl2_e u_30 (spl_e ev_31 rfl))))) hsp)⟩
  have loop_176 : ∀ (n_176 : Nat) (y3_176 : Int32) (y4_176 : Int32) (fp_176 : sg_F) (H : Heap) (locs : List Loc) (ls : Array Slot), sp = sX12_one_6_l176 n_176 y3_176 y4_176 fp_176 L → 4 - y4_176.toInt < (n_176 : Int) → (-1) ≤ (fp_176 0 15).toInt ∧ (fp_176 0 15).toInt ≤ (-1) → 0 ≤ y4_176.toInt ∧ y4_176.toInt ≤ 4 → (f 0 13).toInt ≤ (fp_176 0 13).toInt → 6 ≤ (fp_176 0 16).toInt → 0 ≤ (fp_176 0 15).toInt ∨ (fp_176 0 16).toInt = 6 → sgI loM hiM fp_176 → sgK WkX12_one_6 f fp_176 → va_P D vwCl (sgw 26 h (eM ca h) fp_176 L Q) H → va_S (sgA 26 h s.heap.size) s.heap H locs → lv_has ls 5 [(0, .ref (h 0)), (3, .int y3_176), (4, .int y4_176)] → W p l e ({ frames := 1, cells := 0, slots := 0, locals := 20 }) s m ([.ref (h 0)] : List Value).toArray below meth cd H locs 0 0 Qz (F0 m 176 ls []) := by
    intro n_176
    induction n_176 with
    | zero => intro y3_176 y4_176 fp_176 H locs ls hs hm_176 hy0_176 hy1_176 hg0_176 hg1_176 hg2_176 hI hF hP hS hl; exact absurd hm_176 (by omega)
    | succ n_176 ih_176 =>
      intro y3_176 y4_176 fp_176 H locs ls hs hm_176 hy0_176 hy1_176 hg0_176 hg1_176 hg2_176 hI hF hP hS hl
      have hs : sp = sX12_one_6_h176 (sX12_one_6_l176 n_176) y3_176 y4_176 fp_176 L := hs
      obtain ⟨v_38, ev_38⟩ : ∃ z : Int32, z = fp_176 0 15 := ⟨_, rfl⟩
      have q_39 : (-1) ≤ v_38.toInt ∧ v_38.toInt ≤ 120 := by rw [ev_38]; exact hI 0 15
      have q_40 : (fp_176 0 15).toInt = v_38.toInt := by rw [ev_38]
      obtain ⟨v_41, ev_41⟩ : ∃ z : Int32, z = fp_176 0 13 := ⟨_, rfl⟩
      have q_42 : 0 ≤ v_41.toInt ∧ v_41.toInt ≤ 120 := by rw [ev_41]; exact hI 0 13
      have q_43 : (fp_176 0 13).toInt = v_41.toInt := by rw [ev_41]
      obtain ⟨v_44, ev_44⟩ : ∃ z : Int32, z = fp_176 0 16 := ⟨_, rfl⟩
      replace hs := hs.trans (spl_e ev_38 (spl_e ev_41 (spl_e ev_44 rfl)))
      have q_45 : 0 ≤ v_44.toInt ∧ v_44.toInt ≤ 6 := by rw [ev_44]; exact hI 0 16
      have q_46 : (fp_176 0 16).toInt = v_44.toInt := by rw [ev_44]
      refine lv_iload hx hb dX12_one_176 (lv_at hl 2 rfl) ?_
      refine lv_iconst (v := 4) hx hb dX12_one_178 ic_4 ?_
      refine lv_icmp_ge (tgt := 229) hx hb dX12_one_179 (by decide) (fun c => ?_) (fun c => ?_)
      · skip
        have c_47 : 4 ≤ y4_176.toInt := (by first | exact (cm_le0 ti_4 c) | (have z := bn_le c; have k1 : (4 : Int32).toInt = 4 := ti_4; omega))
        exact blk_229 y3_176 y4_176 fp_176 _ _ _ (hs.trans ((if_neg (Int.not_lt.mpr c_47)).trans rfl)) (by have zz0_15 : (fp_176 0 15).toInt = v_38.toInt := (congrArg Int32.toInt (show fp_176 0 15 = v_38 from ev_38.symm)); exact ⟨by omega, by omega⟩) hy1_176 (by have zz0_13 : (fp_176 0 13).toInt = v_41.toInt := (congrArg Int32.toInt (show fp_176 0 13 = v_41 from ev_41.symm)); omega) (by have zz0_16 : (fp_176 0 16).toInt = v_44.toInt := (congrArg Int32.toInt (show fp_176 0 16 = v_44 from ev_44.symm)); omega) (by have zz0_15 : (fp_176 0 15).toInt = v_38.toInt := (congrArg Int32.toInt (show fp_176 0 15 = v_38 from ev_38.symm)); have zz0_16 : (fp_176 0 16).toInt = v_44.toInt := (congrArg Int32.toInt (show fp_176 0 16 = v_44 from ev_44.symm)); omega) hI hF hP hS (lv_sub hl [0, 1, 2] rfl)
      · skip
        have c_48 : y4_176.toInt < 4 := (by first | exact (cm_nle0 ti_4 c) | (have z := bn_nle c; have k1 : (4 : Int32).toInt = 4 := ti_4; omega))
        refine lv_aload_n hx hb dX12_one_182 rfl (lv_at hl 0 rfl) ?_
        obtain ⟨v_50, ev_50⟩ : ∃ z : Int32, z = fp_176 0 14 := ⟨_, rfl⟩
        have q_51 : 0 ≤ v_50.toInt ∧ v_50.toInt ≤ 120 := by rw [ev_50]; exact hI 0 14
        have q_52 : (fp_176 0 14).toInt = v_50.toInt := (congrArg Int32.toInt (show fp_176 0 14 = v_50 from ev_50.symm))
        refine sg_calli (va_runV (As := []) (rest := []) ⟨hx, hb, hml, hown, hts⟩ (kX12_byteAt l D ca za h hh fp_176 L Q hI H.size) (sl_c12_byteAt_0_0_0_0_12 hts ⟨Nat.le_of_ble_eq_true rfl, Nat.le_of_ble_eq_true rfl⟩) (sl_vM_0 hA hK hP hS hZ) rfl rfl hl.1 rfl (lv_room (Nat.le_of_ble_eq_true rfl)) dX12_one_183 ⟨Nat.le_refl _, Nat.le_refl _⟩) hA hS (fun r_56 f_53 L_54 Q_55 H locs hq hP hS => ?_)
        obtain ⟨⟨ef9, eL9, eQ9⟩, hq, p_57, u_58⟩ := hq
        replace hs := hs.trans ((if_pos c_48).trans (spl_e ev_50 (spl_e u_58 rfl)))
        rw [ef9, eL9, eQ9] at hP; clear ef9 eL9 eQ9
        refine lv_bipush (v := 48) hx hb dX12_one_186 bp_48 ?_
        refine lv_icmp_lt (tgt := 229) hx hb dX12_one_188 (by decide) (fun c => ?_) (fun c => ?_)
        · skip
          have c_59 : r_56.toInt < 48 := (by first | exact (cm_lt1 ti_48 c) | (have z := bn_lt c; have k1 : (48 : Int32).toInt = 48 := ti_48; omega))
          exact blk_229 y3_176 y4_176 fp_176 _ _ _ (hs.trans ((if_pos c_59).trans rfl)) (by have zz0_15 : (fp_176 0 15).toInt = v_38.toInt := (congrArg Int32.toInt (show fp_176 0 15 = v_38 from ev_38.symm)); exact ⟨by omega, by omega⟩) hy1_176 (by have zz0_13 : (fp_176 0 13).toInt = v_41.toInt := (congrArg Int32.toInt (show fp_176 0 13 = v_41 from ev_41.symm)); omega) (by have zz0_16 : (fp_176 0 16).toInt = v_44.toInt := (congrArg Int32.toInt (show fp_176 0 16 = v_44 from ev_44.symm)); omega) (by have zz0_15 : (fp_176 0 15).toInt = v_38.toInt := (congrArg Int32.toInt (show fp_176 0 15 = v_38 from ev_38.symm)); have zz0_16 : (fp_176 0 16).toInt = v_44.toInt := (congrArg Int32.toInt (show fp_176 0 16 = v_44 from ev_44.symm)); omega) hI hF hP hS (lv_sub hl [0, 1, 2] rfl)
        · skip
          have c_60 : 48 ≤ r_56.toInt := (by first | exact (cm_nlt1 ti_48 c) | (have z := bn_nlt c; have k1 : (48 : Int32).toInt = 48 := ti_48; omega))
          replace hs := hs.trans ((if_neg (Int.not_lt.mpr c_60)).trans rfl)
          refine lv_aload_n hx hb dX12_one_191 rfl (lv_at hl 0 rfl) ?_
          refine sg_calli (va_runV (As := []) (rest := []) ⟨hx, hb, hml, hown, hts⟩ (kX12_byteAt l D ca za h hh fp_176 L Q hI H.size) (sl_c12_byteAt_0_0_0_0_12 hts ⟨Nat.le_of_ble_eq_true rfl, Nat.le_of_ble_eq_true rfl⟩) (sl_vM_0 hA hK hP hS hZ) rfl rfl hl.1 rfl (lv_room (Nat.le_of_ble_eq_true rfl)) dX12_one_192 ⟨Nat.le_refl _, Nat.le_refl _⟩) hA hS (fun r_66 f_63 L_64 Q_65 H locs hq hP hS => ?_)
          obtain ⟨⟨ef9, eL9, eQ9⟩, hq, p_67, u_68⟩ := hq
          rw [ef9, eL9, eQ9] at hP; clear ef9 eL9 eQ9
          rw [show r_66 = r_56 from u_68.trans u_58.symm]
          refine lv_bipush (v := 57) hx hb dX12_one_195 bp_57 ?_
          refine lv_icmp_gt (tgt := 229) hx hb dX12_one_197 (by decide) (fun c => ?_) (fun c => ?_)
          · skip
            have c_69 : 57 < r_56.toInt := (by first | exact (cm_lt0 ti_57 c) | (have z := bn_lt c; have k1 : (57 : Int32).toInt = 57 := ti_57; omega))
            exact blk_229 y3_176 y4_176 fp_176 _ _ _ (hs.trans ((if_pos c_69).trans rfl)) (by have zz0_15 : (fp_176 0 15).toInt = v_38.toInt := (congrArg Int32.toInt (show fp_176 0 15 = v_38 from ev_38.symm)); exact ⟨by omega, by omega⟩) hy1_176 (by have zz0_13 : (fp_176 0 13).toInt = v_41.toInt := (congrArg Int32.toInt (show fp_176 0 13 = v_41 from ev_41.symm)); omega) (by have zz0_16 : (fp_176 0 16).toInt = v_44.toInt := (congrArg Int32.toInt (show fp_176 0 16 = v_44 from ev_44.symm)); omega) (by have zz0_15 : (fp_176 0 15).toInt = v_38.toInt := (congrArg Int32.toInt (show fp_176 0 15 = v_38 from ev_38.symm)); have zz0_16 : (fp_176 0 16).toInt = v_44.toInt := (congrArg Int32.toInt (show fp_176 0 16 = v_44 from ev_44.symm)); omega) hI hF hP hS (lv_sub hl [0, 1, 2] rfl)
          · skip
            have c_70 : r_56.toInt ≤ 57 := (by first | exact (cm_nlt0 ti_57 c) | (have z := bn_nlt c; have k1 : (57 : Int32).toInt = 57 := ti_57; omega))
            refine lv_bipush (v := 10) hx hb dX12_one_200 bp_10 ?_
            refine lv_iload_n hx hb dX12_one_202 rfl (lv_at hl 1 rfl) ?_
            refine lv_imul hx hb dX12_one_203 ?_
            refine lv_topi (fun v_71 ev_71 => ?_)
            refine lv_aload_n hx hb dX12_one_204 rfl (lv_at hl 0 rfl) ?_
            refine sg_calli (va_runV (As := []) (rest := [.int v_71]) ⟨hx, hb, hml, hown, hts⟩ (kX12_byteAt l D ca za h hh fp_176 L Q hI H.size) (sl_c12_byteAt_0_0_0_0_12 hts ⟨Nat.le_of_ble_eq_true rfl, Nat.le_of_ble_eq_true rfl⟩) (sl_vM_0 hA hK hP hS hZ) rfl rfl hl.1 rfl (lv_room (Nat.le_of_ble_eq_true rfl)) dX12_one_205 ⟨Nat.le_refl _, Nat.le_refl _⟩) hA hS (fun r_77 f_74 L_75 Q_76 H locs hq hP hS => ?_)
            obtain ⟨⟨ef9, eL9, eQ9⟩, hq, p_78, u_79⟩ := hq
            rw [ef9, eL9, eQ9] at hP; clear ef9 eL9 eQ9
            rw [show r_77 = r_56 from u_79.trans u_58.symm]
            refine lv_iadd hx hb dX12_one_208 ?_
            refine lv_topi (fun v_80 ev_80 => ?_)
            refine lv_bipush (v := 48) hx hb dX12_one_209 bp_48 ?_
            refine lv_isub hx hb dX12_one_211 ?_
            refine lv_topi (fun v_81 ev_81 => ?_)
            refine lv_istore_n (lv' := [(3, .int v_81), (0, .ref (h 0)), (4, .int y4_176)]) hx hb dX12_one_212 rfl hl (by decide) rfl (fun ls hl => ?_)
            obtain ⟨v_82, ev_82⟩ : ∃ z : Int32, z = y4_176 + 1 := ⟨_, rfl⟩
            have q_83 : v_82.toInt = y4_176.toInt + 1 := by rw [ev_82]; exact (bn_addc y4_176 1 (by decide) (by omega) (by omega))
            refine lv_iinc (v := v_82) (lv' := [(4, .int v_82), (3, .int v_81), (0, .ref (h 0))]) hx hb dX12_one_213 hl (k := 2) rfl (by rw [ev_82]; rfl) (by decide) rfl (fun ls hl => ?_)
            refine lv_aload_n hx hb dX12_one_216 rfl (lv_at hl 2 rfl) ?_
            refine lv_dup hx hb dX12_one_217 rfl ?_
            refine sl_gM_0_13_12 (v := v_41) hx hb hts hown hK hP (show fp_176 0 13 = v_41 from ev_41.symm) dX12_one_218 ?_
            refine lv_iconst (v := 1) hx hb dX12_one_221 ic_1 ?_
            refine lv_iadd hx hb dX12_one_222 ?_
            refine lv_topi (fun v_84 ev_84 => ?_)
            have q_85 : v_84.toInt = v_41.toInt + 1 := by rw [ev_84]; first | exact cm_add ti_1 (by omega) (by omega) | (have k1 : (1 : Int32).toInt = 1 := ti_1; exact (bn_addI (by omega) (by omega)).trans (by omega))
            refine sl_pM_0_13_12 (x := v_84) hx hb hts hown hh hA hK hP hS dX12_one_223 (fun f_86 H locs ef_86 hP hS => ?_)
            have hI : sgI loM hiM f_86 := by rw [ef_86]; exact sgI.put hI 0 13 (show 0 ≤ (v_84 : Int32).toInt ∧ (v_84 : Int32).toInt ≤ 120 from ⟨by omega, by omega⟩)
            have hF : sgK WkX12_one_6 f f_86 := sgK.put hF ef_86 (by rfl)
            refine lv_goto (tgt := 176) hx hb dX12_one_226 (by decide) ?_
            exact ih_176 v_81 v_82 f_86 _ _ _ (hs.trans ((if_neg (Int.not_lt.mpr c_70)).trans (spl_e ev_71 (spl_e ev_80 (spl_e ev_81 (spl_e ev_82 (spl_e ev_84 (spl_e ef_86 rfl)))))))) (by omega) (by have zz0_15 : (f_86 0 15).toInt = v_38.toInt := (congrArg Int32.toInt (show f_86 0 15 = v_38 from (by rw [ef_86, sg_up_s, sgu_n (by decide)]; exact ev_38.symm))); exact ⟨by omega, by omega⟩) ⟨by omega, by omega⟩ (by have zz0_13 : (f_86 0 13).toInt = v_84.toInt := (congrArg Int32.toInt (show f_86 0 13 = v_84 from (by rw [ef_86, sg_up_s, sgu_s]))); omega) (by have zz0_16 : (f_86 0 16).toInt = v_44.toInt := (congrArg Int32.toInt (show f_86 0 16 = v_44 from (by rw [ef_86, sg_up_s, sgu_n (by decide)]; exact ev_44.symm))); omega) (by have zz0_15 : (f_86 0 15).toInt = v_38.toInt := (congrArg Int32.toInt (show f_86 0 15 = v_38 from (by rw [ef_86, sg_up_s, sgu_n (by decide)]; exact ev_38.symm))); have zz0_16 : (f_86 0 16).toInt = v_44.toInt := (congrArg Int32.toInt (show f_86 0 16 = v_44 from (by rw [ef_86, sg_up_s, sgu_n (by decide)]; exact ev_44.symm))); omega) hI hF hP hS (lv_sub hl [2, 1, 0] rfl)
  refine lv_aload_n hx hb dX12_one_0 rfl (lv_at hl 0 rfl) ?_
  refine sl_gM_0_15_12 (v := v_3) hx hb hts hown hK hP (show f 0 15 = v_3 from ev_3.symm) dX12_one_1 ?_
  refine lv_if_lt (tgt := 9) hx hb dX12_one_4 (by decide) (fun c => ?_) (fun c => ?_)
  · skip
    have c_87 : v_3.toInt < 0 := (by first | exact (cm_lt1 ti_0 c) | (have z := bn_lt c; have k1 : (0 : Int32).toInt = 0 := ti_0; omega))
    refine lv_aload_n hx hb dX12_one_9 rfl (lv_at hl 0 rfl) ?_
    have q_89 : (f 0 13).toInt = v_5.toInt := (congrArg Int32.toInt (show f 0 13 = v_5 from ev_5.symm))
    obtain ⟨v_90, ev_90⟩ : ∃ z : Int32, z = f 0 14 := ⟨_, rfl⟩
    have q_91 : 0 ≤ v_90.toInt ∧ v_90.toInt ≤ 120 := by rw [ev_90]; exact hI 0 14
    have q_92 : (f 0 14).toInt = v_90.toInt := (congrArg Int32.toInt (show f 0 14 = v_90 from ev_90.symm))
    refine sg_calli (va_runV (As := []) (rest := []) ⟨hx, hb, hml, hown, hts⟩ (kX12_byteAt l D ca za h hh f L Q hI H.size) (sl_c12_byteAt_0_0_0_0_12 hts ⟨Nat.le_of_ble_eq_true rfl, Nat.le_of_ble_eq_true rfl⟩) (sl_vM_0 hA hK hP hS hZ) rfl rfl hl.1 rfl (lv_room (Nat.le_of_ble_eq_true rfl)) dX12_one_10 ⟨Nat.le_refl _, Nat.le_refl _⟩) hA hS (fun r_96 f_93 L_94 Q_95 H locs hq hP hS => ?_)
    obtain ⟨⟨ef9, eL9, eQ9⟩, hq, p_97, u_98⟩ := hq
    replace hs := hs.trans ((if_pos c_87).trans (spl_e ev_90 (spl_e u_98 rfl)))
    rw [ef9, eL9, eQ9] at hP; clear ef9 eL9 eQ9
    refine lv_istore_n (lv' := [(1, .int r_96), (0, .ref (h 0))]) hx hb dX12_one_13 rfl hl (by decide) rfl (fun ls hl => ?_)
    refine lv_iload_n hx hb dX12_one_14 rfl (lv_at hl 0 rfl) ?_
    refine lv_bipush (v := 33) hx hb dX12_one_15 bp_33 ?_
    refine lv_icmp_eq (tgt := 32) hx hb dX12_one_17 (by decide) (fun c => ?_) (fun c => ?_)
    · skip
      have c_99 : r_96.toInt = 33 := (by first | exact (cm_eq1 ti_33 c) | (have z := Int32.toInt_inj.mpr c; have k1 : (33 : Int32).toInt = 33 := ti_33; omega))
      refine lv_aload_n hx hb dX12_one_32 rfl (lv_at hl 1 rfl) ?_
      have c_101 : v_1 = 6 := Int32.toInt_inj.mp (by have k9 : (6 : Int32).toInt = 6 := ti_6; omega)
      refine sl_gM_0_16_12 (v := 6) hx hb hts hown hK hP (show f 0 16 = 6 from (Eq.trans ev_1.symm c_101)) dX12_one_33 ?_
      refine lv_bipush (v := 6) hx hb dX12_one_36 bp_6 ?_
      refine lv_icmp_ne (tgt := 46) hx hb dX12_one_38 (by decide) (fun c => absurd c (by decide)) (fun c => ?_)
      refine lv_aload_n hx hb dX12_one_41 rfl (lv_at hl 1 rfl) ?_
      refine sg_calli (va_runV (As := []) (rest := []) ⟨hx, hb, hml, hown, hts⟩ (kX12_wrong l D ca za h hh f L Q hI H.size) (sl_c12_wrong_0_0_0_0_12 hts ⟨Nat.le_of_ble_eq_true rfl, Nat.le_of_ble_eq_true rfl⟩) (sl_vM_0 hA hK hP hS hZ) rfl rfl hl.1 rfl (lv_room (Nat.le_of_ble_eq_true rfl)) dX12_one_42 ⟨Nat.le_refl _, Nat.le_refl _⟩) hA hS (fun r_105 f_102 L_103 Q_104 H locs hq hP hS => ?_)
      obtain ⟨⟨hI, hk_f_102, eL9, eQ9⟩, hq, p_106, u_107⟩ := hq
      rw [eL9, eQ9] at hP; clear eL9 eQ9
      have hF : sgK WkX12_one_6 f f_102 := sgK.tr hF hk_f_102 (by decide +kernel)
      obtain ⟨v_108, ev_108⟩ : ∃ z : Int32, z = f_102 0 15 := ⟨_, rfl⟩
      have q_109 : (-1) ≤ v_108.toInt ∧ v_108.toInt ≤ 120 := by rw [ev_108]; exact hI 0 15
      have q_110 : (f_102 0 15).toInt = v_108.toInt := (congrArg Int32.toInt (show f_102 0 15 = v_108 from ev_108.symm))
      obtain rfl : r_105 = 0 := Int32.toInt_inj.mp (by have k9 : (0 : Int32).toInt = 0 := ti_0; omega)
      have q_111 : (f_102 0 13).toInt = v_5.toInt := (congrArg Int32.toInt (show f_102 0 13 = v_5 from ((hk_f_102 0 13 (by decide)).trans ev_5.symm)))
      have q_112 : (f_102 0 16).toInt = 6 := (congrArg Int32.toInt (show f_102 0 16 = 6 from ((hk_f_102 0 16 (by decide)).trans (Eq.trans ev_1.symm c_101)))).trans (by decide)
      have k99 : (0 : Int32).toInt = 0 := ti_0
      exact hret _ _ _ _ (0) f_102 L Q dX12_one_45 hP hS ⟨⟨hI, hF, rfl, rfl⟩, trivial, (by omega), (by omega), (by omega), (Eq.trans (Eq.symm (hs.trans ((if_pos c_99).trans (spl2_e u_107 (spl_e ev_108 rfl))))) hsp)⟩
    · skip
      have c_100 : r_96.toInt ≠ 33 := (by first | exact (cm_ne1 ti_33 c) | (have z := bn_ne c; have k1 : (33 : Int32).toInt = 33 := ti_33; omega))
      replace hs := hs.trans ((if_neg c_100).trans rfl)
      refine lv_iload_n hx hb dX12_one_20 rfl (lv_at hl 0 rfl) ?_
      refine lv_bipush (v := 45) hx hb dX12_one_21 bp_45 ?_
      refine lv_icmp_eq (tgt := 32) hx hb dX12_one_23 (by decide) (fun c => ?_) (fun c => ?_)
      · skip
        have c_115 : r_96.toInt = 45 := (by first | exact (cm_eq1 ti_45 c) | (have z := Int32.toInt_inj.mpr c; have k1 : (45 : Int32).toInt = 45 := ti_45; omega))
        refine lv_aload_n hx hb dX12_one_32 rfl (lv_at hl 1 rfl) ?_
        have c_117 : v_1 = 6 := Int32.toInt_inj.mp (by have k9 : (6 : Int32).toInt = 6 := ti_6; omega)
        refine sl_gM_0_16_12 (v := 6) hx hb hts hown hK hP (show f 0 16 = 6 from (Eq.trans ev_1.symm c_117)) dX12_one_33 ?_
        refine lv_bipush (v := 6) hx hb dX12_one_36 bp_6 ?_
        refine lv_icmp_ne (tgt := 46) hx hb dX12_one_38 (by decide) (fun c => absurd c (by decide)) (fun c => ?_)
        refine lv_aload_n hx hb dX12_one_41 rfl (lv_at hl 1 rfl) ?_
        refine sg_calli (va_runV (As := []) (rest := []) ⟨hx, hb, hml, hown, hts⟩ (kX12_wrong l D ca za h hh f L Q hI H.size) (sl_c12_wrong_0_0_0_0_12 hts ⟨Nat.le_of_ble_eq_true rfl, Nat.le_of_ble_eq_true rfl⟩) (sl_vM_0 hA hK hP hS hZ) rfl rfl hl.1 rfl (lv_room (Nat.le_of_ble_eq_true rfl)) dX12_one_42 ⟨Nat.le_refl _, Nat.le_refl _⟩) hA hS (fun r_121 f_118 L_119 Q_120 H locs hq hP hS => ?_)
        obtain ⟨⟨hI, hk_f_118, eL9, eQ9⟩, hq, p_122, u_123⟩ := hq
        rw [eL9, eQ9] at hP; clear eL9 eQ9
        have hF : sgK WkX12_one_6 f f_118 := sgK.tr hF hk_f_118 (by decide +kernel)
        obtain ⟨v_124, ev_124⟩ : ∃ z : Int32, z = f_118 0 15 := ⟨_, rfl⟩
        have q_125 : (-1) ≤ v_124.toInt ∧ v_124.toInt ≤ 120 := by rw [ev_124]; exact hI 0 15
        have q_126 : (f_118 0 15).toInt = v_124.toInt := (congrArg Int32.toInt (show f_118 0 15 = v_124 from ev_124.symm))
        obtain rfl : r_121 = 0 := Int32.toInt_inj.mp (by have k9 : (0 : Int32).toInt = 0 := ti_0; omega)
        have q_127 : (f_118 0 13).toInt = v_5.toInt := (congrArg Int32.toInt (show f_118 0 13 = v_5 from ((hk_f_118 0 13 (by decide)).trans ev_5.symm)))
        have q_128 : (f_118 0 16).toInt = 6 := (congrArg Int32.toInt (show f_118 0 16 = 6 from ((hk_f_118 0 16 (by decide)).trans (Eq.trans ev_1.symm c_117)))).trans (by decide)
        have k99 : (0 : Int32).toInt = 0 := ti_0
        exact hret _ _ _ _ (0) f_118 L Q dX12_one_45 hP hS ⟨⟨hI, hF, rfl, rfl⟩, trivial, (by omega), (by omega), (by omega), (Eq.trans (Eq.symm (hs.trans ((if_pos c_115).trans (spl2_e u_123 (spl_e ev_124 rfl))))) hsp)⟩
      · skip
        have c_116 : r_96.toInt ≠ 45 := (by first | exact (cm_ne1 ti_45 c) | (have z := bn_ne c; have k1 : (45 : Int32).toInt = 45 := ti_45; omega))
        replace hs := hs.trans ((if_neg c_116).trans rfl)
        refine lv_iload_n hx hb dX12_one_26 rfl (lv_at hl 0 rfl) ?_
        refine lv_bipush (v := 40) hx hb dX12_one_27 bp_40 ?_
        refine lv_icmp_ne (tgt := 145) hx hb dX12_one_29 (by decide) (fun c => ?_) (fun c => ?_)
        · skip
          have c_131 : r_96.toInt ≠ 40 := (by first | exact (cm_ne1 ti_40 c) | (have z := bn_ne c; have k1 : (40 : Int32).toInt = 40 := ti_40; omega))
          refine lv_iload_n hx hb dX12_one_145 rfl (lv_at hl 0 rfl) ?_
          refine sg_calli (va_runS (As := [.int r_96]) (rest := []) ⟨hx, hb, hml, hown, hts⟩ (kX12_nameOf l D ca za h hh f L Q hI r_96 ⟨by omega, by omega⟩ H.size) (va_cwS 1 hts (gw_S (fun _ h => List.mem_cons_of_mem _ h) mw_869 mw_870 mw_619 mw_868) rfl rfl rfl hd_yX12_nameOf.2 ⟨Nat.le_of_ble_eq_true rfl, Nat.le_of_ble_eq_true rfl⟩) (sg_preS hA hK hP hS hZ) rfl rfl hl.1 rfl (lv_room (Nat.le_of_ble_eq_true rfl)) dX12_one_146 ⟨Nat.le_refl _, Nat.le_refl _⟩) hA hS (fun r_136 f_133 L_134 Q_135 H locs hq hP hS => ?_)
          obtain ⟨⟨ef9, eL9, eQ9⟩, hq, p_137, u_138⟩ := hq
          replace hs := hs.trans ((if_neg c_131).trans (spl_e u_138 rfl))
          rw [ef9, eL9, eQ9] at hP; clear ef9 eL9 eQ9
          refine lv_istore_n (lv' := [(2, .int r_136), (1, .int r_96), (0, .ref (h 0))]) hx hb dX12_one_149 rfl hl (by decide) rfl (fun ls hl => ?_)
          refine lv_iload_n hx hb dX12_one_150 rfl (lv_at hl 0 rfl) ?_
          refine lv_if_lt (tgt := 171) hx hb dX12_one_151 (by decide) (fun c => ?_) (fun c => ?_)
          · skip
            have c_139 : r_136.toInt < 0 := (by first | exact (cm_lt1 ti_0 c) | (have z := bn_lt c; have k1 : (0 : Int32).toInt = 0 := ti_0; omega))
            refine lv_iconst (v := 0) hx hb dX12_one_171 ic_0 ?_
            refine lv_istore_n (lv' := [(3, .int 0), (2, .int r_136), (1, .int r_96), (0, .ref (h 0))]) hx hb dX12_one_172 rfl hl (by decide) rfl (fun ls hl => ?_)
            refine lv_iconst (v := 0) hx hb dX12_one_173 ic_0 ?_
            refine lv_istore (lv' := [(4, .int 0), (3, .int 0), (2, .int r_136), (1, .int r_96), (0, .ref (h 0))]) hx hb dX12_one_174 hl (by decide) rfl (fun ls hl => ?_)
            exact loop_176 5 0 0 f _ _ _ (hs.trans ((if_pos c_139).trans rfl)) (by have kc0 : (0 : Int32).toInt = 0 := ti_0; have kc1 : (0 : Int32).toInt = 0 := ti_0; omega) (by have zz0_15 : (f 0 15).toInt = v_3.toInt := (congrArg Int32.toInt (show f 0 15 = v_3 from ev_3.symm)); exact ⟨by omega, by omega⟩) (by decide) (by have kc0 : (0 : Int32).toInt = 0 := ti_0; have kc1 : (0 : Int32).toInt = 0 := ti_0; have zz0_13 : (f 0 13).toInt = v_5.toInt := (congrArg Int32.toInt (show f 0 13 = v_5 from ev_5.symm)); omega) (by have kc0 : (0 : Int32).toInt = 0 := ti_0; have kc1 : (0 : Int32).toInt = 0 := ti_0; have zz0_16 : (f 0 16).toInt = v_1.toInt := (congrArg Int32.toInt (show f 0 16 = v_1 from ev_1.symm)); omega) (by have kc0 : (0 : Int32).toInt = 0 := ti_0; have kc1 : (0 : Int32).toInt = 0 := ti_0; have zz0_15 : (f 0 15).toInt = v_3.toInt := (congrArg Int32.toInt (show f 0 15 = v_3 from ev_3.symm)); have zz0_16 : (f 0 16).toInt = v_1.toInt := (congrArg Int32.toInt (show f 0 16 = v_1 from ev_1.symm)); omega) hI hF hP hS (lv_sub hl [4, 1, 0] rfl)
          · skip
            have c_140 : 0 ≤ r_136.toInt := (by first | exact (cm_nlt1 ti_0 c) | (have z := bn_nlt c; have k1 : (0 : Int32).toInt = 0 := ti_0; omega))
            refine lv_aload_n hx hb dX12_one_154 rfl (lv_at hl 2 rfl) ?_
            refine lv_dup hx hb dX12_one_155 rfl ?_
            refine sl_gM_0_13_12 (v := v_5) hx hb hts hown hK hP (show f 0 13 = v_5 from ev_5.symm) dX12_one_156 ?_
            refine lv_iconst (v := 1) hx hb dX12_one_159 ic_1 ?_
            refine lv_iadd hx hb dX12_one_160 ?_
            refine lv_topi (fun v_141 ev_141 => ?_)
            have q_142 : v_141.toInt = v_5.toInt + 1 := by rw [ev_141]; first | exact cm_add ti_1 (by omega) (by omega) | (have k1 : (1 : Int32).toInt = 1 := ti_1; exact (bn_addI (by omega) (by omega)).trans (by omega))
            refine sl_pM_0_13_12 (x := v_141) hx hb hts hown hh hA hK hP hS dX12_one_161 (fun f_143 H locs ef_143 hP hS => ?_)
            have hI : sgI loM hiM f_143 := by rw [ef_143]; exact sgI.put hI 0 13 (show 0 ≤ (v_141 : Int32).toInt ∧ (v_141 : Int32).toInt ≤ 120 from ⟨by omega, by omega⟩)
            have hF : sgK WkX12_one_6 f f_143 := sgK.put hF ef_143 (by rfl)
            refine lv_aload_n hx hb dX12_one_164 rfl (lv_at hl 2 rfl) ?_
            refine sl_gM_0_17_12 hx hb hts hown hK hP dX12_one_165 ?_
            refine lv_iload_n hx hb dX12_one_168 rfl (lv_at hl 0 rfl) ?_
            refine sg_iald hx hb hK hP 8 (by decide) 0 rfl rfl (i := r_136) (vp_in_iff.mpr ⟨by omega, by omega⟩) dX12_one_169 ?_
            refine lv_topi (fun v_144 ev_144 => ?_)
            have q_145 : 0 ≤ v_144.toInt ∧ v_144.toInt ≤ 60 := by rw [ev_144]; exact hI 8 _
            have q_146 : (f_143 0 13).toInt = v_141.toInt := (congrArg Int32.toInt (show f_143 0 13 = v_141 from (by rw [ef_143, sg_up_s, sgu_s])))
            have q_147 : (f_143 0 16).toInt = v_1.toInt := (congrArg Int32.toInt (show f_143 0 16 = v_1 from (by rw [ef_143, sg_up_s, sgu_n (by decide)]; exact ev_1.symm)))
            have q_148 : (f_143 0 15).toInt = v_3.toInt := (congrArg Int32.toInt (show f_143 0 15 = v_3 from (by rw [ef_143, sg_up_s, sgu_n (by decide)]; exact ev_3.symm)))
            exact hret _ _ _ _ (v_144) f_143 L Q dX12_one_170 hP hS ⟨⟨hI, hF, rfl, rfl⟩, trivial, (by omega), (by omega), (by omega), (Eq.trans (Eq.symm (hs.trans ((if_neg (Int.not_lt.mpr c_140)).trans (spl_e ev_141 (spl_e ef_143 (spl_e ev_144 rfl)))))) hsp)⟩
        · skip
          have c_132 : r_96.toInt = 40 := (by first | exact (cm_eq1 ti_40 c) | (have z := Int32.toInt_inj.mpr c; have k1 : (40 : Int32).toInt = 40 := ti_40; omega))
          refine lv_aload_n hx hb dX12_one_32 rfl (lv_at hl 1 rfl) ?_
          have c_150 : v_1 = 6 := Int32.toInt_inj.mp (by have k9 : (6 : Int32).toInt = 6 := ti_6; omega)
          refine sl_gM_0_16_12 (v := 6) hx hb hts hown hK hP (show f 0 16 = 6 from (Eq.trans ev_1.symm c_150)) dX12_one_33 ?_
          refine lv_bipush (v := 6) hx hb dX12_one_36 bp_6 ?_
          refine lv_icmp_ne (tgt := 46) hx hb dX12_one_38 (by decide) (fun c => absurd c (by decide)) (fun c => ?_)
          refine lv_aload_n hx hb dX12_one_41 rfl (lv_at hl 1 rfl) ?_
          refine sg_calli (va_runV (As := []) (rest := []) ⟨hx, hb, hml, hown, hts⟩ (kX12_wrong l D ca za h hh f L Q hI H.size) (sl_c12_wrong_0_0_0_0_12 hts ⟨Nat.le_of_ble_eq_true rfl, Nat.le_of_ble_eq_true rfl⟩) (sl_vM_0 hA hK hP hS hZ) rfl rfl hl.1 rfl (lv_room (Nat.le_of_ble_eq_true rfl)) dX12_one_42 ⟨Nat.le_refl _, Nat.le_refl _⟩) hA hS (fun r_154 f_151 L_152 Q_153 H locs hq hP hS => ?_)
          obtain ⟨⟨hI, hk_f_151, eL9, eQ9⟩, hq, p_155, u_156⟩ := hq
          rw [eL9, eQ9] at hP; clear eL9 eQ9
          have hF : sgK WkX12_one_6 f f_151 := sgK.tr hF hk_f_151 (by decide +kernel)
          obtain ⟨v_157, ev_157⟩ : ∃ z : Int32, z = f_151 0 15 := ⟨_, rfl⟩
          have q_158 : (-1) ≤ v_157.toInt ∧ v_157.toInt ≤ 120 := by rw [ev_157]; exact hI 0 15
          have q_159 : (f_151 0 15).toInt = v_157.toInt := (congrArg Int32.toInt (show f_151 0 15 = v_157 from ev_157.symm))
          obtain rfl : r_154 = 0 := Int32.toInt_inj.mp (by have k9 : (0 : Int32).toInt = 0 := ti_0; omega)
          have q_160 : (f_151 0 13).toInt = v_5.toInt := (congrArg Int32.toInt (show f_151 0 13 = v_5 from ((hk_f_151 0 13 (by decide)).trans ev_5.symm)))
          have q_161 : (f_151 0 16).toInt = 6 := (congrArg Int32.toInt (show f_151 0 16 = 6 from ((hk_f_151 0 16 (by decide)).trans (Eq.trans ev_1.symm c_150)))).trans (by decide)
          have k99 : (0 : Int32).toInt = 0 := ti_0
          exact hret _ _ _ _ (0) f_151 L Q dX12_one_45 hP hS ⟨⟨hI, hF, rfl, rfl⟩, trivial, (by omega), (by omega), (by omega), (Eq.trans (Eq.symm (hs.trans ((if_pos c_132).trans (spl2_e u_156 (spl_e ev_157 rfl))))) hsp)⟩
  · skip
    have c_88 : 0 ≤ v_3.toInt := (by first | exact (cm_nlt1 ti_0 c) | (have z := bn_nlt c; have k1 : (0 : Int32).toInt = 0 := ti_0; omega))
    refine lv_iconst (v := 0) hx hb dX12_one_7 ic_0 ?_
    have q_164 : (f 0 13).toInt = v_5.toInt := (congrArg Int32.toInt (show f 0 13 = v_5 from ev_5.symm))
    have q_165 : (f 0 16).toInt = v_1.toInt := (congrArg Int32.toInt (show f 0 16 = v_1 from ev_1.symm))
    have q_166 : (f 0 15).toInt = v_3.toInt := (congrArg Int32.toInt (show f 0 15 = v_3 from ev_3.symm))
    have k99 : (0 : Int32).toInt = 0 := ti_0
    exact hret _ _ _ _ (0) f L Q dX12_one_8 hP hS ⟨⟨hI, hF, rfl, rfl⟩, trivial, (by omega), (by omega), (by omega), (Eq.trans (Eq.symm (hs.trans ((if_neg (Int.not_lt.mpr c_88)).trans rfl))) hsp)⟩

abbrev WkX12_product_6 : List (Nat × Nat × Option Nat) := [(0, 0, some 13), (0, 0, some 15)]
set_option maxHeartbeats 4000000 in
set_option maxRecDepth 100000 in
theorem kX12_product_6 (l : Launch) (D : va_G) (ca : Nat → ClassId) (za h : Nat → Nat) (hh : sgH 26 h) (f : sg_F) (L : sg_L) (Q : sg_Q) (hI : sgI loM hiM f) (p0 : 6 ≤ (f 0 16).toInt) (p1 : 0 ≤ (f 0 15).toInt ∨ (f 0 16).toInt = 6) (sz : Nat) : Met l yX12_product gwX12_product { frames := 2, cells := 0, slots := 0, locals := 44 } (sgP D vwCl (tyX ca) 26 h (eM ca h) zcM za f L Q sz [.ref (h 0)]) (sgQi D vwCl 26 h (eM ca h) sz (fun r f1 L1 Q1 => ((sgI loM hiM f1 ∧ sgK WkX12_product_6 f f1 ∧ L1 = L ∧ Q1 = Q) ∧ True ∧ ((f 0 13).toInt ≤ (f1 0 13).toInt) ∧ (6 ≤ (f1 0 16).toInt) ∧ (0 ≤ (f1 0 15).toInt ∨ (f1 0 16).toInt = 6) ∧ (r, f1) = sX12_product_6 f L))) 0 0 (sgA 26 h sz) := by
  refine sg_ofWi (cc := cX12_product) (maxL := 4) RX12 (by decide) rfl rfl (Nat.le_of_ble_eq_true rfl) ?_
  intro p e s m below meth cd Qz ls hx hb hml hown hts hK hZ hP hS hl hret
  have hA := sgY.self (n := 26) (h := h) (sz := s.heap.size)
  have hl : lv_has ls 4 [(0, .ref (h 0))] := hl
  obtain ⟨H, hH⟩ : ∃ z : Heap, z = s.heap := ⟨_, rfl⟩
  obtain ⟨locs, hlo⟩ : ∃ z : List Loc, z = [] := ⟨_, rfl⟩
  have hP : va_P D vwCl (sgw 26 h (eM ca h) f L Q) H := by rw [hH]; exact hP
  have hS : va_S (sgA 26 h s.heap.size) s.heap H locs := by rw [hH, hlo]; exact hS
  suffices hgo : W p l e ({ frames := 2, cells := 0, slots := 0, locals := 44 }) s m ([.ref (h 0)] : List Value).toArray below meth cd H locs 0 0 Qz (F0 m 0 ls []) by rw [hH, hlo] at hgo; exact hgo
  clear hH hlo
  obtain ⟨sp, hsp⟩ : ∃ z : Int32 × sg_F, z = sX12_product_6 f L := ⟨_, rfl⟩
  have hs : sp = sX12_product_6 f L := hsp
  obtain ⟨v_1, ev_1⟩ : ∃ z : Int32, z = f 0 16 := ⟨_, rfl⟩
  have q_2 : 0 ≤ v_1.toInt ∧ v_1.toInt ≤ 6 := by rw [ev_1]; exact hI 0 16
  obtain ⟨v_3, ev_3⟩ : ∃ z : Int32, z = f 0 15 := ⟨_, rfl⟩
  have q_4 : (-1) ≤ v_3.toInt ∧ v_3.toInt ≤ 120 := by rw [ev_3]; exact hI 0 15
  obtain ⟨v_5, ev_5⟩ : ∃ z : Int32, z = f 0 13 := ⟨_, rfl⟩
  have q_6 : 0 ≤ v_5.toInt ∧ v_5.toInt ≤ 120 := by rw [ev_5]; exact hI 0 13
  obtain ⟨v_7, ev_7⟩ : ∃ z : Int32, z = f 0 14 := ⟨_, rfl⟩
  have q_8 : 0 ≤ v_7.toInt ∧ v_7.toInt ≤ 120 := by rw [ev_7]; exact hI 0 14
  have o_9 : (f 0 16).toInt = v_1.toInt := (congrArg Int32.toInt (show f 0 16 = v_1 from ev_1.symm))
  have o_10 : (f 0 15).toInt = v_3.toInt := (congrArg Int32.toInt (show f 0 15 = v_3 from ev_3.symm))
  have o_11 : (f 0 13).toInt = v_5.toInt := (congrArg Int32.toInt (show f 0 13 = v_5 from ev_5.symm))
  have o_12 : (f 0 14).toInt = v_7.toInt := (congrArg Int32.toInt (show f 0 14 = v_7 from ev_7.symm))
  have hF : sgK WkX12_product_6 f f := sgK.rf
  have loop_10 : ∀ (n_10 : Nat) (y1_10 : Int32) (y2_10 : Int32) (fp_10 : sg_F) (H : Heap) (locs : List Loc) (ls : Array Slot), sp = sX12_product_6_l10 n_10 y1_10 y2_10 fp_10 L → 120 - (fp_10 0 13).toInt < (n_10 : Int) → 0 ≤ y2_10.toInt ∧ y2_10.toInt ≤ 255 → (f 0 13).toInt ≤ (fp_10 0 13).toInt → 6 ≤ (fp_10 0 16).toInt → 0 ≤ (fp_10 0 15).toInt ∨ (fp_10 0 16).toInt = 6 → y2_10.toInt = 0 ∨ (fp_10 0 13).toInt < (fp_10 0 14).toInt → sgI loM hiM fp_10 → sgK WkX12_product_6 f fp_10 → va_P D vwCl (sgw 26 h (eM ca h) fp_10 L Q) H → va_S (sgA 26 h s.heap.size) s.heap H locs → lv_has ls 4 [(0, .ref (h 0)), (1, .int y1_10), (2, .int y2_10)] → W p l e ({ frames := 2, cells := 0, slots := 0, locals := 44 }) s m ([.ref (h 0)] : List Value).toArray below meth cd H locs 0 0 Qz (F0 m 10 ls []) := by
    intro n_10
    induction n_10 with
    | zero => intro y1_10 y2_10 fp_10 H locs ls hs hm_10 hy0_10 hg0_10 hg1_10 hg2_10 hg3_10 hI hF hP hS hl; have zb := (show 0 ≤ (fp_10 0 13).toInt ∧ (fp_10 0 13).toInt ≤ 120 from hI 0 13); exact absurd hm_10 (by omega)
    | succ n_10 ih_10 =>
      intro y1_10 y2_10 fp_10 H locs ls hs hm_10 hy0_10 hg0_10 hg1_10 hg2_10 hg3_10 hI hF hP hS hl
      have hs : sp = sX12_product_6_h10 (sX12_product_6_l10 n_10) y1_10 y2_10 fp_10 L := hs
      obtain ⟨v_13, ev_13⟩ : ∃ z : Int32, z = fp_10 0 13 := ⟨_, rfl⟩
      have q_14 : 0 ≤ v_13.toInt ∧ v_13.toInt ≤ 120 := by rw [ev_13]; exact hI 0 13
      have q_15 : (fp_10 0 13).toInt = v_13.toInt := by rw [ev_13]
      obtain ⟨v_16, ev_16⟩ : ∃ z : Int32, z = fp_10 0 16 := ⟨_, rfl⟩
      have q_17 : 0 ≤ v_16.toInt ∧ v_16.toInt ≤ 6 := by rw [ev_16]; exact hI 0 16
      have q_18 : (fp_10 0 16).toInt = v_16.toInt := by rw [ev_16]
      obtain ⟨v_19, ev_19⟩ : ∃ z : Int32, z = fp_10 0 15 := ⟨_, rfl⟩
      have q_20 : (-1) ≤ v_19.toInt ∧ v_19.toInt ≤ 120 := by rw [ev_19]; exact hI 0 15
      have q_21 : (fp_10 0 15).toInt = v_19.toInt := by rw [ev_19]
      obtain ⟨v_22, ev_22⟩ : ∃ z : Int32, z = fp_10 0 14 := ⟨_, rfl⟩
      replace hs := hs.trans (spl_e ev_13 (spl_e ev_16 (spl_e ev_19 (spl_e ev_22 rfl))))
      have q_23 : 0 ≤ v_22.toInt ∧ v_22.toInt ≤ 120 := by rw [ev_22]; exact hI 0 14
      have q_24 : (fp_10 0 14).toInt = v_22.toInt := by rw [ev_22]
      refine lv_aload_n hx hb dX12_product_10 rfl (lv_at hl 0 rfl) ?_
      refine sl_gM_0_15_12 (v := v_19) hx hb hts hown hK hP (show fp_10 0 15 = v_19 from ev_19.symm) dX12_product_11 ?_
      refine lv_if_ge (tgt := 94) hx hb dX12_product_14 (by decide) (fun c => ?_) (fun c => ?_)
      · skip
        have c_25 : 0 ≤ v_19.toInt := (by first | exact (cm_le0 ti_0 c) | (have z := bn_le c; have k1 : (0 : Int32).toInt = 0 := ti_0; omega))
        refine lv_iload_n hx hb dX12_product_94 rfl (lv_at hl 1 rfl) ?_
        exact hret _ _ _ _ (y1_10) fp_10 L Q dX12_product_95 hP hS ⟨⟨hI, hF, rfl, rfl⟩, trivial, (by omega), (by omega), (by omega), (Eq.trans (Eq.symm (hs.trans ((if_neg (Int.not_lt.mpr c_25)).trans rfl))) hsp)⟩
      · skip
        have c_26 : v_19.toInt < 0 := (by first | exact (cm_nle0 ti_0 c) | (have z := bn_nle c; have k1 : (0 : Int32).toInt = 0 := ti_0; omega))
        replace hs := hs.trans ((if_pos c_26).trans rfl)
        refine lv_iload_n hx hb dX12_product_17 rfl (lv_at hl 2 rfl) ?_
        refine lv_bipush (v := 42) hx hb dX12_product_18 bp_42 ?_
        refine lv_icmp_eq (tgt := 35) hx hb dX12_product_20 (by decide) (fun c => ?_) (fun c => ?_)
        · skip
          have c_31 : y2_10.toInt = 42 := (by first | exact (cm_eq1 ti_42 c) | (have z := Int32.toInt_inj.mpr c; have k1 : (42 : Int32).toInt = 42 := ti_42; omega))
          refine lv_aload_n hx hb dX12_product_35 rfl (lv_at hl 0 rfl) ?_
          refine lv_dup hx hb dX12_product_36 rfl ?_
          refine sl_gM_0_13_12 (v := v_13) hx hb hts hown hK hP (show fp_10 0 13 = v_13 from ev_13.symm) dX12_product_37 ?_
          refine lv_iconst (v := 1) hx hb dX12_product_40 ic_1 ?_
          refine lv_iadd hx hb dX12_product_41 ?_
          refine lv_topi (fun v_33 ev_33 => ?_)
          have q_34 : v_33.toInt = v_13.toInt + 1 := by rw [ev_33]; first | exact cm_add ti_1 (by omega) (by omega) | (have k1 : (1 : Int32).toInt = 1 := ti_1; exact (bn_addI (by omega) (by omega)).trans (by omega))
          refine sl_pM_0_13_12 (x := v_33) hx hb hts hown hh hA hK hP hS dX12_product_42 (fun f_35 H locs ef_35 hP hS => ?_)
          have hI : sgI loM hiM f_35 := by rw [ef_35]; exact sgI.put hI 0 13 (show 0 ≤ (v_33 : Int32).toInt ∧ (v_33 : Int32).toInt ≤ 120 from ⟨by omega, by omega⟩)
          have hF : sgK WkX12_product_6 f f_35 := sgK.put hF ef_35 (by rfl)
          refine lv_aload_n hx hb dX12_product_45 rfl (lv_at hl 0 rfl) ?_
          have q_36 : (f_35 0 16).toInt = v_16.toInt := (congrArg Int32.toInt (show f_35 0 16 = v_16 from (by rw [ef_35, sg_up_s, sgu_n (by decide)]; exact ev_16.symm)))
          have q_37 : (f_35 0 15).toInt = v_19.toInt := (congrArg Int32.toInt (show f_35 0 15 = v_19 from (by rw [ef_35, sg_up_s, sgu_n (by decide)]; exact ev_19.symm)))
          have q_39 : (f_35 0 13).toInt = v_33.toInt := (congrArg Int32.toInt (show f_35 0 13 = v_33 from (by rw [ef_35, sg_up_s, sgu_s])))
          refine sg_calli (va_runV (As := []) (rest := []) ⟨hx, hb, hml, hown, hts⟩ (kX12_one_6 l D ca za h hh f_35 L Q hI (by omega) (by omega) H.size) (sl_c12_one_1_0_0_20_12 hts ⟨Nat.le_of_ble_eq_true rfl, Nat.le_of_ble_eq_true rfl⟩) (sl_vM_0 hA hK hP hS hZ) rfl rfl hl.1 rfl (lv_room (Nat.le_of_ble_eq_true rfl)) dX12_product_46 ⟨Nat.le_refl _, Nat.le_refl _⟩) hA hS (fun r_43 f_40 L_41 Q_42 H locs hq hP hS => ?_)
          obtain ⟨⟨hI, hk_f_40, eL9, eQ9⟩, hq, p_44, p_45, p_46, u_47⟩ := hq
          rw [eL9, eQ9] at hP; clear eL9 eQ9
          have hF : sgK WkX12_product_6 f f_40 := sgK.tr hF hk_f_40 (by decide +kernel)
          obtain ⟨v_48, ev_48⟩ : ∃ z : Int32, z = f_40 0 13 := ⟨_, rfl⟩
          have q_49 : 0 ≤ v_48.toInt ∧ v_48.toInt ≤ 120 := by rw [ev_48]; exact hI 0 13
          have q_50 : (f_40 0 13).toInt = v_48.toInt := (congrArg Int32.toInt (show f_40 0 13 = v_48 from ev_48.symm))
          have q_51 : (f_40 0 16).toInt = v_16.toInt := (congrArg Int32.toInt (show f_40 0 16 = v_16 from ((hk_f_40 0 16 (by decide)).trans (by rw [ef_35, sg_up_s, sgu_n (by decide)]; exact ev_16.symm))))
          obtain ⟨v_52, ev_52⟩ : ∃ z : Int32, z = f_40 0 15 := ⟨_, rfl⟩
          have q_53 : (-1) ≤ v_52.toInt ∧ v_52.toInt ≤ 120 := by rw [ev_52]; exact hI 0 15
          have q_54 : (f_40 0 15).toInt = v_52.toInt := (congrArg Int32.toInt (show f_40 0 15 = v_52 from ev_52.symm))
          refine lv_istore_n (lv' := [(3, .int r_43), (0, .ref (h 0)), (1, .int y1_10), (2, .int y2_10)]) hx hb dX12_product_49 rfl hl (by decide) rfl (fun ls hl => ?_)
          refine lv_iload_n hx hb dX12_product_50 rfl (lv_at hl 3 rfl) ?_
          refine lv_bipush (v := 42) hx hb dX12_product_51 bp_42 ?_
          refine lv_icmp_ne (tgt := 62) hx hb dX12_product_53 (by decide) (fun c => ?_) (fun c => ?_)
          · skip
            exfalso; have c_56 : y2_10.toInt ≠ 42 := (by first | exact (cm_ne1 ti_42 c) | (have z := bn_ne c; have k1 : (42 : Int32).toInt = 42 := ti_42; omega)); first | exact absurd (by assumption) c_56 | omega
          · skip
            have c_57 : y2_10.toInt = 42 := (by first | exact (cm_eq1 ti_42 c) | (have z := Int32.toInt_inj.mpr c; have k1 : (42 : Int32).toInt = 42 := ti_42; omega))
            refine lv_iload_n hx hb dX12_product_56 rfl (lv_at hl 2 rfl) ?_
            refine lv_iload_n hx hb dX12_product_57 rfl (lv_at hl 0 rfl) ?_
            refine lv_imul hx hb dX12_product_58 ?_
            refine lv_topi (fun v_58 ev_58 => ?_)
            refine lv_goto (tgt := 85) hx hb dX12_product_59 (by decide) ?_
            refine lv_istore_n (lv' := [(1, .int v_58), (3, .int r_43), (0, .ref (h 0)), (2, .int y2_10)]) hx hb dX12_product_85 rfl hl (by decide) rfl (fun ls hl => ?_)
            refine lv_aload_n hx hb dX12_product_86 rfl (lv_at hl 2 rfl) ?_
            have q_60 : (f_40 0 14).toInt = v_22.toInt := (congrArg Int32.toInt (show f_40 0 14 = v_22 from ((hk_f_40 0 14 (by decide)).trans (by rw [ef_35, sg_up_s, sgu_n (by decide)]; exact ev_22.symm))))
            refine sg_calli (va_runV (As := []) (rest := []) ⟨hx, hb, hml, hown, hts⟩ (kX12_byteAt l D ca za h hh f_40 L Q hI H.size) (sl_c12_byteAt_0_0_0_0_12 hts ⟨Nat.le_of_ble_eq_true rfl, Nat.le_of_ble_eq_true rfl⟩) (sl_vM_0 hA hK hP hS hZ) rfl rfl hl.1 rfl (lv_room (Nat.le_of_ble_eq_true rfl)) dX12_product_87 ⟨Nat.le_refl _, Nat.le_refl _⟩) hA hS (fun r_64 f_61 L_62 Q_63 H locs hq hP hS => ?_)
            obtain ⟨⟨ef9, eL9, eQ9⟩, hq, p_65, u_66⟩ := hq
            rw [ef9, eL9, eQ9] at hP; clear ef9 eL9 eQ9
            refine lv_istore_n (lv' := [(2, .int r_64), (1, .int v_58), (3, .int r_43), (0, .ref (h 0))]) hx hb dX12_product_90 rfl hl (by decide) rfl (fun ls hl => ?_)
            refine lv_goto (tgt := 10) hx hb dX12_product_91 (by decide) ?_
            exact ih_10 v_58 r_64 f_40 _ _ _ (hs.trans ((if_pos c_31).trans (spl_e ev_33 (spl_e ef_35 (spl2_e u_47 (spl_e ev_48 (spl_e ev_52 (spl_e ev_58 (spl_e u_66 rfl))))))))) (by have zz0_13 : (f_40 0 13).toInt = v_48.toInt := (congrArg Int32.toInt (show f_40 0 13 = v_48 from ev_48.symm)); omega) ⟨by omega, by omega⟩ (by have zz0_13 : (f_40 0 13).toInt = v_48.toInt := (congrArg Int32.toInt (show f_40 0 13 = v_48 from ev_48.symm)); omega) (by have zz0_16 : (f_40 0 16).toInt = v_16.toInt := (congrArg Int32.toInt (show f_40 0 16 = v_16 from ((hk_f_40 0 16 (by decide)).trans (by rw [ef_35, sg_up_s, sgu_n (by decide)]; exact ev_16.symm)))); omega) (by have zz0_15 : (f_40 0 15).toInt = v_52.toInt := (congrArg Int32.toInt (show f_40 0 15 = v_52 from ev_52.symm)); have zz0_16 : (f_40 0 16).toInt = v_16.toInt := (congrArg Int32.toInt (show f_40 0 16 = v_16 from ((hk_f_40 0 16 (by decide)).trans (by rw [ef_35, sg_up_s, sgu_n (by decide)]; exact ev_16.symm)))); omega) (by have zz0_13 : (f_40 0 13).toInt = v_48.toInt := (congrArg Int32.toInt (show f_40 0 13 = v_48 from ev_48.symm)); have zz0_14 : (f_40 0 14).toInt = v_22.toInt := (congrArg Int32.toInt (show f_40 0 14 = v_22 from ((hk_f_40 0 14 (by decide)).trans (by rw [ef_35, sg_up_s, sgu_n (by decide)]; exact ev_22.symm)))); omega) hI hF hP hS (lv_sub hl [3, 1, 0] rfl)
        · skip
          have c_32 : y2_10.toInt ≠ 42 := (by first | exact (cm_ne1 ti_42 c) | (have z := bn_ne c; have k1 : (42 : Int32).toInt = 42 := ti_42; omega))
          replace hs := hs.trans ((if_neg c_32).trans rfl)
          refine lv_iload_n hx hb dX12_product_23 rfl (lv_at hl 2 rfl) ?_
          refine lv_bipush (v := 47) hx hb dX12_product_24 bp_47 ?_
          refine lv_icmp_eq (tgt := 35) hx hb dX12_product_26 (by decide) (fun c => ?_) (fun c => ?_)
          · skip
            have c_67 : y2_10.toInt = 47 := (by first | exact (cm_eq1 ti_47 c) | (have z := Int32.toInt_inj.mpr c; have k1 : (47 : Int32).toInt = 47 := ti_47; omega))
            refine lv_aload_n hx hb dX12_product_35 rfl (lv_at hl 0 rfl) ?_
            refine lv_dup hx hb dX12_product_36 rfl ?_
            refine sl_gM_0_13_12 (v := v_13) hx hb hts hown hK hP (show fp_10 0 13 = v_13 from ev_13.symm) dX12_product_37 ?_
            refine lv_iconst (v := 1) hx hb dX12_product_40 ic_1 ?_
            refine lv_iadd hx hb dX12_product_41 ?_
            refine lv_topi (fun v_69 ev_69 => ?_)
            have q_70 : v_69.toInt = v_13.toInt + 1 := by rw [ev_69]; first | exact cm_add ti_1 (by omega) (by omega) | (have k1 : (1 : Int32).toInt = 1 := ti_1; exact (bn_addI (by omega) (by omega)).trans (by omega))
            refine sl_pM_0_13_12 (x := v_69) hx hb hts hown hh hA hK hP hS dX12_product_42 (fun f_71 H locs ef_71 hP hS => ?_)
            have hI : sgI loM hiM f_71 := by rw [ef_71]; exact sgI.put hI 0 13 (show 0 ≤ (v_69 : Int32).toInt ∧ (v_69 : Int32).toInt ≤ 120 from ⟨by omega, by omega⟩)
            have hF : sgK WkX12_product_6 f f_71 := sgK.put hF ef_71 (by rfl)
            refine lv_aload_n hx hb dX12_product_45 rfl (lv_at hl 0 rfl) ?_
            have q_72 : (f_71 0 16).toInt = v_16.toInt := (congrArg Int32.toInt (show f_71 0 16 = v_16 from (by rw [ef_71, sg_up_s, sgu_n (by decide)]; exact ev_16.symm)))
            have q_73 : (f_71 0 15).toInt = v_19.toInt := (congrArg Int32.toInt (show f_71 0 15 = v_19 from (by rw [ef_71, sg_up_s, sgu_n (by decide)]; exact ev_19.symm)))
            have q_75 : (f_71 0 13).toInt = v_69.toInt := (congrArg Int32.toInt (show f_71 0 13 = v_69 from (by rw [ef_71, sg_up_s, sgu_s])))
            refine sg_calli (va_runV (As := []) (rest := []) ⟨hx, hb, hml, hown, hts⟩ (kX12_one_6 l D ca za h hh f_71 L Q hI (by omega) (by omega) H.size) (sl_c12_one_1_0_0_20_12 hts ⟨Nat.le_of_ble_eq_true rfl, Nat.le_of_ble_eq_true rfl⟩) (sl_vM_0 hA hK hP hS hZ) rfl rfl hl.1 rfl (lv_room (Nat.le_of_ble_eq_true rfl)) dX12_product_46 ⟨Nat.le_refl _, Nat.le_refl _⟩) hA hS (fun r_79 f_76 L_77 Q_78 H locs hq hP hS => ?_)
            obtain ⟨⟨hI, hk_f_76, eL9, eQ9⟩, hq, p_80, p_81, p_82, u_83⟩ := hq
            rw [eL9, eQ9] at hP; clear eL9 eQ9
            have hF : sgK WkX12_product_6 f f_76 := sgK.tr hF hk_f_76 (by decide +kernel)
            obtain ⟨v_84, ev_84⟩ : ∃ z : Int32, z = f_76 0 13 := ⟨_, rfl⟩
            have q_85 : 0 ≤ v_84.toInt ∧ v_84.toInt ≤ 120 := by rw [ev_84]; exact hI 0 13
            have q_86 : (f_76 0 13).toInt = v_84.toInt := (congrArg Int32.toInt (show f_76 0 13 = v_84 from ev_84.symm))
            have q_87 : (f_76 0 16).toInt = v_16.toInt := (congrArg Int32.toInt (show f_76 0 16 = v_16 from ((hk_f_76 0 16 (by decide)).trans (by rw [ef_71, sg_up_s, sgu_n (by decide)]; exact ev_16.symm))))
            obtain ⟨v_88, ev_88⟩ : ∃ z : Int32, z = f_76 0 15 := ⟨_, rfl⟩
            replace hs := hs.trans ((if_pos c_67).trans (spl_e ev_69 (spl_e ef_71 (spl2_e u_83 (spl_e ev_84 (spl_e ev_88 rfl))))))
            have q_89 : (-1) ≤ v_88.toInt ∧ v_88.toInt ≤ 120 := by rw [ev_88]; exact hI 0 15
            have q_90 : (f_76 0 15).toInt = v_88.toInt := (congrArg Int32.toInt (show f_76 0 15 = v_88 from ev_88.symm))
            refine lv_istore_n (lv' := [(3, .int r_79), (0, .ref (h 0)), (1, .int y1_10), (2, .int y2_10)]) hx hb dX12_product_49 rfl hl (by decide) rfl (fun ls hl => ?_)
            refine lv_iload_n hx hb dX12_product_50 rfl (lv_at hl 3 rfl) ?_
            refine lv_bipush (v := 42) hx hb dX12_product_51 bp_42 ?_
            refine lv_icmp_ne (tgt := 62) hx hb dX12_product_53 (by decide) (fun c => ?_) (fun c => ?_)
            · skip
              have c_92 : y2_10.toInt ≠ 42 := (by first | exact (cm_ne1 ti_42 c) | (have z := bn_ne c; have k1 : (42 : Int32).toInt = 42 := ti_42; omega))
              refine lv_iload_n hx hb dX12_product_62 rfl (lv_at hl 0 rfl) ?_
              refine lv_if_ne (tgt := 70) hx hb dX12_product_63 (by decide) (fun c => ?_) (fun c => ?_)
              · skip
                have c_94 : r_79.toInt ≠ 0 := (by first | exact (cm_ne1 ti_0 c) | (have z := bn_ne c; have k1 : (0 : Int32).toInt = 0 := ti_0; omega))
                refine lv_iload_n hx hb dX12_product_70 rfl (lv_at hl 3 rfl) ?_
                refine lv_bipush (v := 47) hx hb dX12_product_71 bp_47 ?_
                refine lv_icmp_ne (tgt := 82) hx hb dX12_product_73 (by decide) (fun c => ?_) (fun c => ?_)
                · skip
                  exfalso; have c_96 : y2_10.toInt ≠ 47 := (by first | exact (cm_ne1 ti_47 c) | (have z := bn_ne c; have k1 : (47 : Int32).toInt = 47 := ti_47; omega)); first | exact absurd (by assumption) c_96 | omega
                · skip
                  have c_97 : y2_10.toInt = 47 := (by first | exact (cm_eq1 ti_47 c) | (have z := Int32.toInt_inj.mpr c; have k1 : (47 : Int32).toInt = 47 := ti_47; omega))
                  refine lv_iload_n hx hb dX12_product_76 rfl (lv_at hl 2 rfl) ?_
                  refine lv_iload_n hx hb dX12_product_77 rfl (lv_at hl 0 rfl) ?_
                  refine lv_idiv hx hb dX12_product_78 (bn_nz (by omega)) ?_
                  refine lv_topi (fun v_98 ev_98 => ?_)
                  refine lv_goto (tgt := 85) hx hb dX12_product_79 (by decide) ?_
                  refine lv_istore_n (lv' := [(1, .int v_98), (3, .int r_79), (0, .ref (h 0)), (2, .int y2_10)]) hx hb dX12_product_85 rfl hl (by decide) rfl (fun ls hl => ?_)
                  refine lv_aload_n hx hb dX12_product_86 rfl (lv_at hl 2 rfl) ?_
                  have q_100 : (f_76 0 14).toInt = v_22.toInt := (congrArg Int32.toInt (show f_76 0 14 = v_22 from ((hk_f_76 0 14 (by decide)).trans (by rw [ef_71, sg_up_s, sgu_n (by decide)]; exact ev_22.symm))))
                  refine sg_calli (va_runV (As := []) (rest := []) ⟨hx, hb, hml, hown, hts⟩ (kX12_byteAt l D ca za h hh f_76 L Q hI H.size) (sl_c12_byteAt_0_0_0_0_12 hts ⟨Nat.le_of_ble_eq_true rfl, Nat.le_of_ble_eq_true rfl⟩) (sl_vM_0 hA hK hP hS hZ) rfl rfl hl.1 rfl (lv_room (Nat.le_of_ble_eq_true rfl)) dX12_product_87 ⟨Nat.le_refl _, Nat.le_refl _⟩) hA hS (fun r_104 f_101 L_102 Q_103 H locs hq hP hS => ?_)
                  obtain ⟨⟨ef9, eL9, eQ9⟩, hq, p_105, u_106⟩ := hq
                  rw [ef9, eL9, eQ9] at hP; clear ef9 eL9 eQ9
                  refine lv_istore_n (lv' := [(2, .int r_104), (1, .int v_98), (3, .int r_79), (0, .ref (h 0))]) hx hb dX12_product_90 rfl hl (by decide) rfl (fun ls hl => ?_)
                  refine lv_goto (tgt := 10) hx hb dX12_product_91 (by decide) ?_
                  exact ih_10 v_98 r_104 f_76 _ _ _ (hs.trans ((if_neg c_94).trans (spl_e ev_98 (spl_e u_106 rfl)))) (by have zz0_13 : (f_76 0 13).toInt = v_84.toInt := (congrArg Int32.toInt (show f_76 0 13 = v_84 from ev_84.symm)); omega) ⟨by omega, by omega⟩ (by have zz0_13 : (f_76 0 13).toInt = v_84.toInt := (congrArg Int32.toInt (show f_76 0 13 = v_84 from ev_84.symm)); omega) (by have zz0_16 : (f_76 0 16).toInt = v_16.toInt := (congrArg Int32.toInt (show f_76 0 16 = v_16 from ((hk_f_76 0 16 (by decide)).trans (by rw [ef_71, sg_up_s, sgu_n (by decide)]; exact ev_16.symm)))); omega) (by have zz0_15 : (f_76 0 15).toInt = v_88.toInt := (congrArg Int32.toInt (show f_76 0 15 = v_88 from ev_88.symm)); have zz0_16 : (f_76 0 16).toInt = v_16.toInt := (congrArg Int32.toInt (show f_76 0 16 = v_16 from ((hk_f_76 0 16 (by decide)).trans (by rw [ef_71, sg_up_s, sgu_n (by decide)]; exact ev_16.symm)))); omega) (by have zz0_13 : (f_76 0 13).toInt = v_84.toInt := (congrArg Int32.toInt (show f_76 0 13 = v_84 from ev_84.symm)); have zz0_14 : (f_76 0 14).toInt = v_22.toInt := (congrArg Int32.toInt (show f_76 0 14 = v_22 from ((hk_f_76 0 14 (by decide)).trans (by rw [ef_71, sg_up_s, sgu_n (by decide)]; exact ev_22.symm)))); omega) hI hF hP hS (lv_sub hl [3, 1, 0] rfl)
              · skip
                have c_95 : r_79.toInt = 0 := (by first | exact (cm_eq1 ti_0 c) | (have z := Int32.toInt_inj.mpr c; have k1 : (0 : Int32).toInt = 0 := ti_0; omega))
                refine lv_iconst (v := 0) hx hb dX12_product_66 ic_0 ?_
                refine lv_goto (tgt := 85) hx hb dX12_product_67 (by decide) ?_
                refine lv_istore_n (lv' := [(1, .int 0), (3, .int r_79), (0, .ref (h 0)), (2, .int y2_10)]) hx hb dX12_product_85 rfl hl (by decide) rfl (fun ls hl => ?_)
                refine lv_aload_n hx hb dX12_product_86 rfl (lv_at hl 2 rfl) ?_
                have q_108 : (f_76 0 14).toInt = v_22.toInt := (congrArg Int32.toInt (show f_76 0 14 = v_22 from ((hk_f_76 0 14 (by decide)).trans (by rw [ef_71, sg_up_s, sgu_n (by decide)]; exact ev_22.symm))))
                refine sg_calli (va_runV (As := []) (rest := []) ⟨hx, hb, hml, hown, hts⟩ (kX12_byteAt l D ca za h hh f_76 L Q hI H.size) (sl_c12_byteAt_0_0_0_0_12 hts ⟨Nat.le_of_ble_eq_true rfl, Nat.le_of_ble_eq_true rfl⟩) (sl_vM_0 hA hK hP hS hZ) rfl rfl hl.1 rfl (lv_room (Nat.le_of_ble_eq_true rfl)) dX12_product_87 ⟨Nat.le_refl _, Nat.le_refl _⟩) hA hS (fun r_112 f_109 L_110 Q_111 H locs hq hP hS => ?_)
                obtain ⟨⟨ef9, eL9, eQ9⟩, hq, p_113, u_114⟩ := hq
                rw [ef9, eL9, eQ9] at hP; clear ef9 eL9 eQ9
                refine lv_istore_n (lv' := [(2, .int r_112), (1, .int 0), (3, .int r_79), (0, .ref (h 0))]) hx hb dX12_product_90 rfl hl (by decide) rfl (fun ls hl => ?_)
                refine lv_goto (tgt := 10) hx hb dX12_product_91 (by decide) ?_
                exact ih_10 0 r_112 f_76 _ _ _ (hs.trans ((if_pos c_95).trans (spl_e u_114 rfl))) (by have kc0 : (0 : Int32).toInt = 0 := ti_0; have zz0_13 : (f_76 0 13).toInt = v_84.toInt := (congrArg Int32.toInt (show f_76 0 13 = v_84 from ev_84.symm)); omega) ⟨by omega, by omega⟩ (by have kc0 : (0 : Int32).toInt = 0 := ti_0; have zz0_13 : (f_76 0 13).toInt = v_84.toInt := (congrArg Int32.toInt (show f_76 0 13 = v_84 from ev_84.symm)); omega) (by have kc0 : (0 : Int32).toInt = 0 := ti_0; have zz0_16 : (f_76 0 16).toInt = v_16.toInt := (congrArg Int32.toInt (show f_76 0 16 = v_16 from ((hk_f_76 0 16 (by decide)).trans (by rw [ef_71, sg_up_s, sgu_n (by decide)]; exact ev_16.symm)))); omega) (by have kc0 : (0 : Int32).toInt = 0 := ti_0; have zz0_15 : (f_76 0 15).toInt = v_88.toInt := (congrArg Int32.toInt (show f_76 0 15 = v_88 from ev_88.symm)); have zz0_16 : (f_76 0 16).toInt = v_16.toInt := (congrArg Int32.toInt (show f_76 0 16 = v_16 from ((hk_f_76 0 16 (by decide)).trans (by rw [ef_71, sg_up_s, sgu_n (by decide)]; exact ev_16.symm)))); omega) (by have kc0 : (0 : Int32).toInt = 0 := ti_0; have zz0_13 : (f_76 0 13).toInt = v_84.toInt := (congrArg Int32.toInt (show f_76 0 13 = v_84 from ev_84.symm)); have zz0_14 : (f_76 0 14).toInt = v_22.toInt := (congrArg Int32.toInt (show f_76 0 14 = v_22 from ((hk_f_76 0 14 (by decide)).trans (by rw [ef_71, sg_up_s, sgu_n (by decide)]; exact ev_22.symm)))); omega) hI hF hP hS (lv_sub hl [3, 1, 0] rfl)
            · skip
              exfalso; have c_93 : y2_10.toInt = 42 := (by first | exact (cm_eq1 ti_42 c) | (have z := Int32.toInt_inj.mpr c; have k1 : (42 : Int32).toInt = 42 := ti_42; omega)); first | exact absurd c_93 (by assumption) | omega
          · skip
            have c_68 : y2_10.toInt ≠ 47 := (by first | exact (cm_ne1 ti_47 c) | (have z := bn_ne c; have k1 : (47 : Int32).toInt = 47 := ti_47; omega))
            replace hs := hs.trans ((if_neg c_68).trans rfl)
            refine lv_iload_n hx hb dX12_product_29 rfl (lv_at hl 2 rfl) ?_
            refine lv_bipush (v := 37) hx hb dX12_product_30 bp_37 ?_
            refine lv_icmp_ne (tgt := 94) hx hb dX12_product_32 (by decide) (fun c => ?_) (fun c => ?_)
            · skip
              have c_115 : y2_10.toInt ≠ 37 := (by first | exact (cm_ne1 ti_37 c) | (have z := bn_ne c; have k1 : (37 : Int32).toInt = 37 := ti_37; omega))
              refine lv_iload_n hx hb dX12_product_94 rfl (lv_at hl 1 rfl) ?_
              exact hret _ _ _ _ (y1_10) fp_10 L Q dX12_product_95 hP hS ⟨⟨hI, hF, rfl, rfl⟩, trivial, (by omega), (by omega), (by omega), (Eq.trans (Eq.symm (hs.trans ((if_neg c_115).trans rfl))) hsp)⟩
            · skip
              have c_116 : y2_10.toInt = 37 := (by first | exact (cm_eq1 ti_37 c) | (have z := Int32.toInt_inj.mpr c; have k1 : (37 : Int32).toInt = 37 := ti_37; omega))
              refine lv_aload_n hx hb dX12_product_35 rfl (lv_at hl 0 rfl) ?_
              refine lv_dup hx hb dX12_product_36 rfl ?_
              refine sl_gM_0_13_12 (v := v_13) hx hb hts hown hK hP (show fp_10 0 13 = v_13 from ev_13.symm) dX12_product_37 ?_
              refine lv_iconst (v := 1) hx hb dX12_product_40 ic_1 ?_
              refine lv_iadd hx hb dX12_product_41 ?_
              refine lv_topi (fun v_121 ev_121 => ?_)
              have q_122 : v_121.toInt = v_13.toInt + 1 := by rw [ev_121]; first | exact cm_add ti_1 (by omega) (by omega) | (have k1 : (1 : Int32).toInt = 1 := ti_1; exact (bn_addI (by omega) (by omega)).trans (by omega))
              refine sl_pM_0_13_12 (x := v_121) hx hb hts hown hh hA hK hP hS dX12_product_42 (fun f_123 H locs ef_123 hP hS => ?_)
              have hI : sgI loM hiM f_123 := by rw [ef_123]; exact sgI.put hI 0 13 (show 0 ≤ (v_121 : Int32).toInt ∧ (v_121 : Int32).toInt ≤ 120 from ⟨by omega, by omega⟩)
              have hF : sgK WkX12_product_6 f f_123 := sgK.put hF ef_123 (by rfl)
              refine lv_aload_n hx hb dX12_product_45 rfl (lv_at hl 0 rfl) ?_
              have q_124 : (f_123 0 16).toInt = v_16.toInt := (congrArg Int32.toInt (show f_123 0 16 = v_16 from (by rw [ef_123, sg_up_s, sgu_n (by decide)]; exact ev_16.symm)))
              have q_125 : (f_123 0 15).toInt = v_19.toInt := (congrArg Int32.toInt (show f_123 0 15 = v_19 from (by rw [ef_123, sg_up_s, sgu_n (by decide)]; exact ev_19.symm)))
              have q_127 : (f_123 0 13).toInt = v_121.toInt := (congrArg Int32.toInt (show f_123 0 13 = v_121 from (by rw [ef_123, sg_up_s, sgu_s])))
              refine sg_calli (va_runV (As := []) (rest := []) ⟨hx, hb, hml, hown, hts⟩ (kX12_one_6 l D ca za h hh f_123 L Q hI (by omega) (by omega) H.size) (sl_c12_one_1_0_0_20_12 hts ⟨Nat.le_of_ble_eq_true rfl, Nat.le_of_ble_eq_true rfl⟩) (sl_vM_0 hA hK hP hS hZ) rfl rfl hl.1 rfl (lv_room (Nat.le_of_ble_eq_true rfl)) dX12_product_46 ⟨Nat.le_refl _, Nat.le_refl _⟩) hA hS (fun r_131 f_128 L_129 Q_130 H locs hq hP hS => ?_)
              obtain ⟨⟨hI, hk_f_128, eL9, eQ9⟩, hq, p_132, p_133, p_134, u_135⟩ := hq
              rw [eL9, eQ9] at hP; clear eL9 eQ9
              have hF : sgK WkX12_product_6 f f_128 := sgK.tr hF hk_f_128 (by decide +kernel)
              obtain ⟨v_136, ev_136⟩ : ∃ z : Int32, z = f_128 0 13 := ⟨_, rfl⟩
              have q_137 : 0 ≤ v_136.toInt ∧ v_136.toInt ≤ 120 := by rw [ev_136]; exact hI 0 13
              have q_138 : (f_128 0 13).toInt = v_136.toInt := (congrArg Int32.toInt (show f_128 0 13 = v_136 from ev_136.symm))
              have q_139 : (f_128 0 16).toInt = v_16.toInt := (congrArg Int32.toInt (show f_128 0 16 = v_16 from ((hk_f_128 0 16 (by decide)).trans (by rw [ef_123, sg_up_s, sgu_n (by decide)]; exact ev_16.symm))))
              obtain ⟨v_140, ev_140⟩ : ∃ z : Int32, z = f_128 0 15 := ⟨_, rfl⟩
              replace hs := hs.trans ((if_pos c_116).trans (spl_e ev_121 (spl_e ef_123 (spl2_e u_135 (spl_e ev_136 (spl_e ev_140 rfl))))))
              have q_141 : (-1) ≤ v_140.toInt ∧ v_140.toInt ≤ 120 := by rw [ev_140]; exact hI 0 15
              have q_142 : (f_128 0 15).toInt = v_140.toInt := (congrArg Int32.toInt (show f_128 0 15 = v_140 from ev_140.symm))
              refine lv_istore_n (lv' := [(3, .int r_131), (0, .ref (h 0)), (1, .int y1_10), (2, .int y2_10)]) hx hb dX12_product_49 rfl hl (by decide) rfl (fun ls hl => ?_)
              refine lv_iload_n hx hb dX12_product_50 rfl (lv_at hl 3 rfl) ?_
              refine lv_bipush (v := 42) hx hb dX12_product_51 bp_42 ?_
              refine lv_icmp_ne (tgt := 62) hx hb dX12_product_53 (by decide) (fun c => ?_) (fun c => ?_)
              · skip
                have c_144 : y2_10.toInt ≠ 42 := (by first | exact (cm_ne1 ti_42 c) | (have z := bn_ne c; have k1 : (42 : Int32).toInt = 42 := ti_42; omega))
                refine lv_iload_n hx hb dX12_product_62 rfl (lv_at hl 0 rfl) ?_
                refine lv_if_ne (tgt := 70) hx hb dX12_product_63 (by decide) (fun c => ?_) (fun c => ?_)
                · skip
                  have c_146 : r_131.toInt ≠ 0 := (by first | exact (cm_ne1 ti_0 c) | (have z := bn_ne c; have k1 : (0 : Int32).toInt = 0 := ti_0; omega))
                  refine lv_iload_n hx hb dX12_product_70 rfl (lv_at hl 3 rfl) ?_
                  refine lv_bipush (v := 47) hx hb dX12_product_71 bp_47 ?_
                  refine lv_icmp_ne (tgt := 82) hx hb dX12_product_73 (by decide) (fun c => ?_) (fun c => ?_)
                  · skip
                    have c_148 : y2_10.toInt ≠ 47 := (by first | exact (cm_ne1 ti_47 c) | (have z := bn_ne c; have k1 : (47 : Int32).toInt = 47 := ti_47; omega))
                    refine lv_iload_n hx hb dX12_product_82 rfl (lv_at hl 2 rfl) ?_
                    refine lv_iload_n hx hb dX12_product_83 rfl (lv_at hl 0 rfl) ?_
                    refine lv_irem hx hb dX12_product_84 (bn_nz (by omega)) ?_
                    refine lv_topi (fun v_150 ev_150 => ?_)
                    refine lv_istore_n (lv' := [(1, .int v_150), (3, .int r_131), (0, .ref (h 0)), (2, .int y2_10)]) hx hb dX12_product_85 rfl hl (by decide) rfl (fun ls hl => ?_)
                    refine lv_aload_n hx hb dX12_product_86 rfl (lv_at hl 2 rfl) ?_
                    have q_152 : (f_128 0 14).toInt = v_22.toInt := (congrArg Int32.toInt (show f_128 0 14 = v_22 from ((hk_f_128 0 14 (by decide)).trans (by rw [ef_123, sg_up_s, sgu_n (by decide)]; exact ev_22.symm))))
                    refine sg_calli (va_runV (As := []) (rest := []) ⟨hx, hb, hml, hown, hts⟩ (kX12_byteAt l D ca za h hh f_128 L Q hI H.size) (sl_c12_byteAt_0_0_0_0_12 hts ⟨Nat.le_of_ble_eq_true rfl, Nat.le_of_ble_eq_true rfl⟩) (sl_vM_0 hA hK hP hS hZ) rfl rfl hl.1 rfl (lv_room (Nat.le_of_ble_eq_true rfl)) dX12_product_87 ⟨Nat.le_refl _, Nat.le_refl _⟩) hA hS (fun r_156 f_153 L_154 Q_155 H locs hq hP hS => ?_)
                    obtain ⟨⟨ef9, eL9, eQ9⟩, hq, p_157, u_158⟩ := hq
                    rw [ef9, eL9, eQ9] at hP; clear ef9 eL9 eQ9
                    refine lv_istore_n (lv' := [(2, .int r_156), (1, .int v_150), (3, .int r_131), (0, .ref (h 0))]) hx hb dX12_product_90 rfl hl (by decide) rfl (fun ls hl => ?_)
                    refine lv_goto (tgt := 10) hx hb dX12_product_91 (by decide) ?_
                    exact ih_10 v_150 r_156 f_128 _ _ _ (hs.trans ((if_neg c_146).trans (spl_e ev_150 (spl_e u_158 rfl)))) (by have zz0_13 : (f_128 0 13).toInt = v_136.toInt := (congrArg Int32.toInt (show f_128 0 13 = v_136 from ev_136.symm)); omega) ⟨by omega, by omega⟩ (by have zz0_13 : (f_128 0 13).toInt = v_136.toInt := (congrArg Int32.toInt (show f_128 0 13 = v_136 from ev_136.symm)); omega) (by have zz0_16 : (f_128 0 16).toInt = v_16.toInt := (congrArg Int32.toInt (show f_128 0 16 = v_16 from ((hk_f_128 0 16 (by decide)).trans (by rw [ef_123, sg_up_s, sgu_n (by decide)]; exact ev_16.symm)))); omega) (by have zz0_15 : (f_128 0 15).toInt = v_140.toInt := (congrArg Int32.toInt (show f_128 0 15 = v_140 from ev_140.symm)); have zz0_16 : (f_128 0 16).toInt = v_16.toInt := (congrArg Int32.toInt (show f_128 0 16 = v_16 from ((hk_f_128 0 16 (by decide)).trans (by rw [ef_123, sg_up_s, sgu_n (by decide)]; exact ev_16.symm)))); omega) (by have zz0_13 : (f_128 0 13).toInt = v_136.toInt := (congrArg Int32.toInt (show f_128 0 13 = v_136 from ev_136.symm)); have zz0_14 : (f_128 0 14).toInt = v_22.toInt := (congrArg Int32.toInt (show f_128 0 14 = v_22 from ((hk_f_128 0 14 (by decide)).trans (by rw [ef_123, sg_up_s, sgu_n (by decide)]; exact ev_22.symm)))); omega) hI hF hP hS (lv_sub hl [3, 1, 0] rfl)
                  · skip
                    exfalso; have c_149 : y2_10.toInt = 47 := (by first | exact (cm_eq1 ti_47 c) | (have z := Int32.toInt_inj.mpr c; have k1 : (47 : Int32).toInt = 47 := ti_47; omega)); first | exact absurd c_149 (by assumption) | omega
                · skip
                  have c_147 : r_131.toInt = 0 := (by first | exact (cm_eq1 ti_0 c) | (have z := Int32.toInt_inj.mpr c; have k1 : (0 : Int32).toInt = 0 := ti_0; omega))
                  refine lv_iconst (v := 0) hx hb dX12_product_66 ic_0 ?_
                  refine lv_goto (tgt := 85) hx hb dX12_product_67 (by decide) ?_
                  refine lv_istore_n (lv' := [(1, .int 0), (3, .int r_131), (0, .ref (h 0)), (2, .int y2_10)]) hx hb dX12_product_85 rfl hl (by decide) rfl (fun ls hl => ?_)
                  refine lv_aload_n hx hb dX12_product_86 rfl (lv_at hl 2 rfl) ?_
                  have q_160 : (f_128 0 14).toInt = v_22.toInt := (congrArg Int32.toInt (show f_128 0 14 = v_22 from ((hk_f_128 0 14 (by decide)).trans (by rw [ef_123, sg_up_s, sgu_n (by decide)]; exact ev_22.symm))))
                  refine sg_calli (va_runV (As := []) (rest := []) ⟨hx, hb, hml, hown, hts⟩ (kX12_byteAt l D ca za h hh f_128 L Q hI H.size) (sl_c12_byteAt_0_0_0_0_12 hts ⟨Nat.le_of_ble_eq_true rfl, Nat.le_of_ble_eq_true rfl⟩) (sl_vM_0 hA hK hP hS hZ) rfl rfl hl.1 rfl (lv_room (Nat.le_of_ble_eq_true rfl)) dX12_product_87 ⟨Nat.le_refl _, Nat.le_refl _⟩) hA hS (fun r_164 f_161 L_162 Q_163 H locs hq hP hS => ?_)
                  obtain ⟨⟨ef9, eL9, eQ9⟩, hq, p_165, u_166⟩ := hq
                  rw [ef9, eL9, eQ9] at hP; clear ef9 eL9 eQ9
                  refine lv_istore_n (lv' := [(2, .int r_164), (1, .int 0), (3, .int r_131), (0, .ref (h 0))]) hx hb dX12_product_90 rfl hl (by decide) rfl (fun ls hl => ?_)
                  refine lv_goto (tgt := 10) hx hb dX12_product_91 (by decide) ?_
                  exact ih_10 0 r_164 f_128 _ _ _ (hs.trans ((if_pos c_147).trans (spl_e u_166 rfl))) (by have kc0 : (0 : Int32).toInt = 0 := ti_0; have zz0_13 : (f_128 0 13).toInt = v_136.toInt := (congrArg Int32.toInt (show f_128 0 13 = v_136 from ev_136.symm)); omega) ⟨by omega, by omega⟩ (by have kc0 : (0 : Int32).toInt = 0 := ti_0; have zz0_13 : (f_128 0 13).toInt = v_136.toInt := (congrArg Int32.toInt (show f_128 0 13 = v_136 from ev_136.symm)); omega) (by have kc0 : (0 : Int32).toInt = 0 := ti_0; have zz0_16 : (f_128 0 16).toInt = v_16.toInt := (congrArg Int32.toInt (show f_128 0 16 = v_16 from ((hk_f_128 0 16 (by decide)).trans (by rw [ef_123, sg_up_s, sgu_n (by decide)]; exact ev_16.symm)))); omega) (by have kc0 : (0 : Int32).toInt = 0 := ti_0; have zz0_15 : (f_128 0 15).toInt = v_140.toInt := (congrArg Int32.toInt (show f_128 0 15 = v_140 from ev_140.symm)); have zz0_16 : (f_128 0 16).toInt = v_16.toInt := (congrArg Int32.toInt (show f_128 0 16 = v_16 from ((hk_f_128 0 16 (by decide)).trans (by rw [ef_123, sg_up_s, sgu_n (by decide)]; exact ev_16.symm)))); omega) (by have kc0 : (0 : Int32).toInt = 0 := ti_0; have zz0_13 : (f_128 0 13).toInt = v_136.toInt := (congrArg Int32.toInt (show f_128 0 13 = v_136 from ev_136.symm)); have zz0_14 : (f_128 0 14).toInt = v_22.toInt := (congrArg Int32.toInt (show f_128 0 14 = v_22 from ((hk_f_128 0 14 (by decide)).trans (by rw [ef_123, sg_up_s, sgu_n (by decide)]; exact ev_22.symm)))); omega) hI hF hP hS (lv_sub hl [3, 1, 0] rfl)
              · skip
                exfalso; have c_145 : y2_10.toInt = 42 := (by first | exact (cm_eq1 ti_42 c) | (have z := Int32.toInt_inj.mpr c; have k1 : (42 : Int32).toInt = 42 := ti_42; omega)); first | exact absurd c_145 (by assumption) | omega
  refine lv_aload_n hx hb dX12_product_0 rfl (lv_at hl 0 rfl) ?_
  have q_167 : (f 0 16).toInt = v_1.toInt := (congrArg Int32.toInt (show f 0 16 = v_1 from ev_1.symm))
  have q_168 : (f 0 15).toInt = v_3.toInt := (congrArg Int32.toInt (show f 0 15 = v_3 from ev_3.symm))
  have q_170 : (f 0 13).toInt = v_5.toInt := (congrArg Int32.toInt (show f 0 13 = v_5 from ev_5.symm))
  refine sg_calli (va_runV (As := []) (rest := []) ⟨hx, hb, hml, hown, hts⟩ (kX12_one_6 l D ca za h hh f L Q hI (by omega) (by omega) H.size) (sl_c12_one_1_0_0_20_12 hts ⟨Nat.le_of_ble_eq_true rfl, Nat.le_of_ble_eq_true rfl⟩) (sl_vM_0 hA hK hP hS hZ) rfl rfl hl.1 rfl (lv_room (Nat.le_of_ble_eq_true rfl)) dX12_product_1 ⟨Nat.le_refl _, Nat.le_refl _⟩) hA hS (fun r_174 f_171 L_172 Q_173 H locs hq hP hS => ?_)
  obtain ⟨⟨hI, hk_f_171, eL9, eQ9⟩, hq, p_175, p_176, p_177, u_178⟩ := hq
  rw [eL9, eQ9] at hP; clear eL9 eQ9
  have hF : sgK WkX12_product_6 f f_171 := sgK.tr hF hk_f_171 (by decide +kernel)
  obtain ⟨v_179, ev_179⟩ : ∃ z : Int32, z = f_171 0 13 := ⟨_, rfl⟩
  have q_180 : 0 ≤ v_179.toInt ∧ v_179.toInt ≤ 120 := by rw [ev_179]; exact hI 0 13
  have q_181 : (f_171 0 13).toInt = v_179.toInt := (congrArg Int32.toInt (show f_171 0 13 = v_179 from ev_179.symm))
  have q_182 : (f_171 0 16).toInt = v_1.toInt := (congrArg Int32.toInt (show f_171 0 16 = v_1 from ((hk_f_171 0 16 (by decide)).trans ev_1.symm)))
  obtain ⟨v_183, ev_183⟩ : ∃ z : Int32, z = f_171 0 15 := ⟨_, rfl⟩
  have q_184 : (-1) ≤ v_183.toInt ∧ v_183.toInt ≤ 120 := by rw [ev_183]; exact hI 0 15
  have q_185 : (f_171 0 15).toInt = v_183.toInt := (congrArg Int32.toInt (show f_171 0 15 = v_183 from ev_183.symm))
  refine lv_istore_n (lv' := [(1, .int r_174), (0, .ref (h 0))]) hx hb dX12_product_4 rfl hl (by decide) rfl (fun ls hl => ?_)
  refine lv_aload_n hx hb dX12_product_5 rfl (lv_at hl 1 rfl) ?_
  have q_188 : (f_171 0 14).toInt = v_7.toInt := (congrArg Int32.toInt (show f_171 0 14 = v_7 from ((hk_f_171 0 14 (by decide)).trans ev_7.symm)))
  refine sg_calli (va_runV (As := []) (rest := []) ⟨hx, hb, hml, hown, hts⟩ (kX12_byteAt l D ca za h hh f_171 L Q hI H.size) (sl_c12_byteAt_0_0_0_0_12 hts ⟨Nat.le_of_ble_eq_true rfl, Nat.le_of_ble_eq_true rfl⟩) (sl_vM_0 hA hK hP hS hZ) rfl rfl hl.1 rfl (lv_room (Nat.le_of_ble_eq_true rfl)) dX12_product_6 ⟨Nat.le_refl _, Nat.le_refl _⟩) hA hS (fun r_192 f_189 L_190 Q_191 H locs hq hP hS => ?_)
  obtain ⟨⟨ef9, eL9, eQ9⟩, hq, p_193, u_194⟩ := hq
  rw [ef9, eL9, eQ9] at hP; clear ef9 eL9 eQ9
  refine lv_istore_n (lv' := [(2, .int r_192), (1, .int r_174), (0, .ref (h 0))]) hx hb dX12_product_9 rfl hl (by decide) rfl (fun ls hl => ?_)
  exact loop_10 121 r_174 r_192 f_171 _ _ _ (hs.trans ((spl_e ev_1 (spl_e ev_3 (spl_e ev_5 (spl_e ev_7 (spl2_e u_178 (spl_e ev_179 (spl_e ev_183 (spl_e u_194 rfl)))))))))) (by have zz0_13 : (f_171 0 13).toInt = v_179.toInt := (congrArg Int32.toInt (show f_171 0 13 = v_179 from ev_179.symm)); omega) ⟨by omega, by omega⟩ (by have zz0_13 : (f_171 0 13).toInt = v_179.toInt := (congrArg Int32.toInt (show f_171 0 13 = v_179 from ev_179.symm)); omega) (by have zz0_16 : (f_171 0 16).toInt = v_1.toInt := (congrArg Int32.toInt (show f_171 0 16 = v_1 from ((hk_f_171 0 16 (by decide)).trans ev_1.symm))); omega) (by have zz0_15 : (f_171 0 15).toInt = v_183.toInt := (congrArg Int32.toInt (show f_171 0 15 = v_183 from ev_183.symm)); have zz0_16 : (f_171 0 16).toInt = v_1.toInt := (congrArg Int32.toInt (show f_171 0 16 = v_1 from ((hk_f_171 0 16 (by decide)).trans ev_1.symm))); omega) (by have zz0_13 : (f_171 0 13).toInt = v_179.toInt := (congrArg Int32.toInt (show f_171 0 13 = v_179 from ev_179.symm)); have zz0_14 : (f_171 0 14).toInt = v_7.toInt := (congrArg Int32.toInt (show f_171 0 14 = v_7 from ((hk_f_171 0 14 (by decide)).trans ev_7.symm))); omega) hI hF hP hS (lv_sub hl [2, 1, 0] rfl)

abbrev WkX12_sums_6 : List (Nat × Nat × Option Nat) := [(0, 0, some 13), (0, 0, some 15)]
set_option maxHeartbeats 4000000 in
set_option maxRecDepth 100000 in
theorem kX12_sums_6 (l : Launch) (D : va_G) (ca : Nat → ClassId) (za h : Nat → Nat) (hh : sgH 26 h) (f : sg_F) (L : sg_L) (Q : sg_Q) (hI : sgI loM hiM f) (p0 : 6 ≤ (f 0 16).toInt) (p1 : 0 ≤ (f 0 15).toInt ∨ (f 0 16).toInt = 6) (sz : Nat) : Met l yX12_sums gwX12_sums { frames := 3, cells := 0, slots := 0, locals := 67 } (sgP D vwCl (tyX ca) 26 h (eM ca h) zcM za f L Q sz [.ref (h 0)]) (sgQi D vwCl 26 h (eM ca h) sz (fun r f1 L1 Q1 => ((sgI loM hiM f1 ∧ sgK WkX12_sums_6 f f1 ∧ L1 = L ∧ Q1 = Q) ∧ True ∧ ((f 0 13).toInt ≤ (f1 0 13).toInt) ∧ (6 ≤ (f1 0 16).toInt) ∧ (0 ≤ (f1 0 15).toInt ∨ (f1 0 16).toInt = 6) ∧ (r, f1) = sX12_sums_6 f L))) 0 0 (sgA 26 h sz) := by
  refine sg_ofWi (cc := cX12_sums) (maxL := 4) RX12 (by decide) rfl rfl (Nat.le_of_ble_eq_true rfl) ?_
  intro p e s m below meth cd Qz ls hx hb hml hown hts hK hZ hP hS hl hret
  have hA := sgY.self (n := 26) (h := h) (sz := s.heap.size)
  have hl : lv_has ls 4 [(0, .ref (h 0))] := hl
  obtain ⟨H, hH⟩ : ∃ z : Heap, z = s.heap := ⟨_, rfl⟩
  obtain ⟨locs, hlo⟩ : ∃ z : List Loc, z = [] := ⟨_, rfl⟩
  have hP : va_P D vwCl (sgw 26 h (eM ca h) f L Q) H := by rw [hH]; exact hP
  have hS : va_S (sgA 26 h s.heap.size) s.heap H locs := by rw [hH, hlo]; exact hS
  suffices hgo : W p l e ({ frames := 3, cells := 0, slots := 0, locals := 67 }) s m ([.ref (h 0)] : List Value).toArray below meth cd H locs 0 0 Qz (F0 m 0 ls []) by rw [hH, hlo] at hgo; exact hgo
  clear hH hlo
  obtain ⟨sp, hsp⟩ : ∃ z : Int32 × sg_F, z = sX12_sums_6 f L := ⟨_, rfl⟩
  have hs : sp = sX12_sums_6 f L := hsp
  obtain ⟨v_1, ev_1⟩ : ∃ z : Int32, z = f 0 16 := ⟨_, rfl⟩
  have q_2 : 0 ≤ v_1.toInt ∧ v_1.toInt ≤ 6 := by rw [ev_1]; exact hI 0 16
  obtain ⟨v_3, ev_3⟩ : ∃ z : Int32, z = f 0 15 := ⟨_, rfl⟩
  have q_4 : (-1) ≤ v_3.toInt ∧ v_3.toInt ≤ 120 := by rw [ev_3]; exact hI 0 15
  obtain ⟨v_5, ev_5⟩ : ∃ z : Int32, z = f 0 13 := ⟨_, rfl⟩
  have q_6 : 0 ≤ v_5.toInt ∧ v_5.toInt ≤ 120 := by rw [ev_5]; exact hI 0 13
  have o_7 : (f 0 16).toInt = v_1.toInt := (congrArg Int32.toInt (show f 0 16 = v_1 from ev_1.symm))
  have o_8 : (f 0 15).toInt = v_3.toInt := (congrArg Int32.toInt (show f 0 15 = v_3 from ev_3.symm))
  have o_9 : (f 0 13).toInt = v_5.toInt := (congrArg Int32.toInt (show f 0 13 = v_5 from ev_5.symm))
  have hF : sgK WkX12_sums_6 f f := sgK.rf
  have loop_5 : ∀ (n_5 : Nat) (y1_5 : Int32) (fp_5 : sg_F) (H : Heap) (locs : List Loc) (ls : Array Slot), sp = sX12_sums_6_l5 n_5 y1_5 fp_5 L → 120 - (fp_5 0 13).toInt < (n_5 : Int) → (f 0 13).toInt ≤ (fp_5 0 13).toInt → 6 ≤ (fp_5 0 16).toInt → 0 ≤ (fp_5 0 15).toInt ∨ (fp_5 0 16).toInt = 6 → sgI loM hiM fp_5 → sgK WkX12_sums_6 f fp_5 → va_P D vwCl (sgw 26 h (eM ca h) fp_5 L Q) H → va_S (sgA 26 h s.heap.size) s.heap H locs → lv_has ls 4 [(0, .ref (h 0)), (1, .int y1_5)] → W p l e ({ frames := 3, cells := 0, slots := 0, locals := 67 }) s m ([.ref (h 0)] : List Value).toArray below meth cd H locs 0 0 Qz (F0 m 5 ls []) := by
    intro n_5
    induction n_5 with
    | zero => intro y1_5 fp_5 H locs ls hs hm_5 hg0_5 hg1_5 hg2_5 hI hF hP hS hl; have zb := (show 0 ≤ (fp_5 0 13).toInt ∧ (fp_5 0 13).toInt ≤ 120 from hI 0 13); exact absurd hm_5 (by omega)
    | succ n_5 ih_5 =>
      intro y1_5 fp_5 H locs ls hs hm_5 hg0_5 hg1_5 hg2_5 hI hF hP hS hl
      have hs : sp = sX12_sums_6_h5 (sX12_sums_6_l5 n_5) y1_5 fp_5 L := hs
      obtain ⟨v_10, ev_10⟩ : ∃ z : Int32, z = fp_5 0 13 := ⟨_, rfl⟩
      have q_11 : 0 ≤ v_10.toInt ∧ v_10.toInt ≤ 120 := by rw [ev_10]; exact hI 0 13
      have q_12 : (fp_5 0 13).toInt = v_10.toInt := by rw [ev_10]
      obtain ⟨v_13, ev_13⟩ : ∃ z : Int32, z = fp_5 0 16 := ⟨_, rfl⟩
      have q_14 : 0 ≤ v_13.toInt ∧ v_13.toInt ≤ 6 := by rw [ev_13]; exact hI 0 16
      have q_15 : (fp_5 0 16).toInt = v_13.toInt := by rw [ev_13]
      obtain ⟨v_16, ev_16⟩ : ∃ z : Int32, z = fp_5 0 15 := ⟨_, rfl⟩
      replace hs := hs.trans (spl_e ev_10 (spl_e ev_13 (spl_e ev_16 rfl)))
      have q_17 : (-1) ≤ v_16.toInt ∧ v_16.toInt ≤ 120 := by rw [ev_16]; exact hI 0 15
      have q_18 : (fp_5 0 15).toInt = v_16.toInt := by rw [ev_16]
      refine lv_aload_n hx hb dX12_sums_5 rfl (lv_at hl 0 rfl) ?_
      refine sl_gM_0_15_12 (v := v_16) hx hb hts hown hK hP (show fp_5 0 15 = v_16 from ev_16.symm) dX12_sums_6 ?_
      refine lv_if_ge (tgt := 77) hx hb dX12_sums_9 (by decide) (fun c => ?_) (fun c => ?_)
      · skip
        have c_19 : 0 ≤ v_16.toInt := (by first | exact (cm_le0 ti_0 c) | (have z := bn_le c; have k1 : (0 : Int32).toInt = 0 := ti_0; omega))
        refine lv_iload_n hx hb dX12_sums_77 rfl (lv_at hl 1 rfl) ?_
        exact hret _ _ _ _ (y1_5) fp_5 L Q dX12_sums_78 hP hS ⟨⟨hI, hF, rfl, rfl⟩, trivial, (by omega), (by omega), (by omega), (Eq.trans (Eq.symm (hs.trans ((if_neg (Int.not_lt.mpr c_19)).trans rfl))) hsp)⟩
      · skip
        have c_20 : v_16.toInt < 0 := (by first | exact (cm_nle0 ti_0 c) | (have z := bn_nle c; have k1 : (0 : Int32).toInt = 0 := ti_0; omega))
        refine lv_aload_n hx hb dX12_sums_12 rfl (lv_at hl 0 rfl) ?_
        obtain ⟨v_26, ev_26⟩ : ∃ z : Int32, z = fp_5 0 14 := ⟨_, rfl⟩
        have q_27 : 0 ≤ v_26.toInt ∧ v_26.toInt ≤ 120 := by rw [ev_26]; exact hI 0 14
        have q_28 : (fp_5 0 14).toInt = v_26.toInt := (congrArg Int32.toInt (show fp_5 0 14 = v_26 from ev_26.symm))
        refine sg_calli (va_runV (As := []) (rest := []) ⟨hx, hb, hml, hown, hts⟩ (kX12_byteAt l D ca za h hh fp_5 L Q hI H.size) (sl_c12_byteAt_0_0_0_0_12 hts ⟨Nat.le_of_ble_eq_true rfl, Nat.le_of_ble_eq_true rfl⟩) (sl_vM_0 hA hK hP hS hZ) rfl rfl hl.1 rfl (lv_room (Nat.le_of_ble_eq_true rfl)) dX12_sums_13 ⟨Nat.le_refl _, Nat.le_refl _⟩) hA hS (fun r_32 f_29 L_30 Q_31 H locs hq hP hS => ?_)
        obtain ⟨⟨ef9, eL9, eQ9⟩, hq, p_33, u_34⟩ := hq
        replace hs := hs.trans ((if_pos c_20).trans (spl_e ev_26 (spl_e u_34 rfl)))
        rw [ef9, eL9, eQ9] at hP; clear ef9 eL9 eQ9
        refine lv_bipush (v := 43) hx hb dX12_sums_16 bp_43 ?_
        refine lv_icmp_eq (tgt := 30) hx hb dX12_sums_18 (by decide) (fun c => ?_) (fun c => ?_)
        · skip
          have c_35 : r_32.toInt = 43 := (by first | exact (cm_eq1 ti_43 c) | (have z := Int32.toInt_inj.mpr c; have k1 : (43 : Int32).toInt = 43 := ti_43; omega))
          refine lv_aload_n hx hb dX12_sums_30 rfl (lv_at hl 0 rfl) ?_
          refine sg_calli (va_runV (As := []) (rest := []) ⟨hx, hb, hml, hown, hts⟩ (kX12_byteAt l D ca za h hh fp_5 L Q hI H.size) (sl_c12_byteAt_0_0_0_0_12 hts ⟨Nat.le_of_ble_eq_true rfl, Nat.le_of_ble_eq_true rfl⟩) (sl_vM_0 hA hK hP hS hZ) rfl rfl hl.1 rfl (lv_room (Nat.le_of_ble_eq_true rfl)) dX12_sums_31 ⟨Nat.le_refl _, Nat.le_refl _⟩) hA hS (fun r_42 f_39 L_40 Q_41 H locs hq hP hS => ?_)
          obtain ⟨⟨ef9, eL9, eQ9⟩, hq, p_43, u_44⟩ := hq
          rw [ef9, eL9, eQ9] at hP; clear ef9 eL9 eQ9
          rw [show r_42 = r_32 from u_44.trans u_34.symm]
          refine lv_bipush (v := 43) hx hb dX12_sums_34 bp_43 ?_
          refine lv_icmp_ne (tgt := 43) hx hb dX12_sums_36 (by decide) (fun c => ?_) (fun c => ?_)
          · skip
            exfalso; have c_45 : r_32.toInt ≠ 43 := (by first | exact (cm_ne1 ti_43 c) | (have z := bn_ne c; have k1 : (43 : Int32).toInt = 43 := ti_43; omega)); first | exact absurd (by assumption) c_45 | omega
          · skip
            have c_46 : r_32.toInt = 43 := (by first | exact (cm_eq1 ti_43 c) | (have z := Int32.toInt_inj.mpr c; have k1 : (43 : Int32).toInt = 43 := ti_43; omega))
            refine lv_iconst (v := 1) hx hb dX12_sums_39 ic_1 ?_
            refine lv_goto (tgt := 44) hx hb dX12_sums_40 (by decide) ?_
            refine lv_istore_n (lv' := [(2, .int 1), (0, .ref (h 0)), (1, .int y1_5)]) hx hb dX12_sums_44 rfl hl (by decide) rfl (fun ls hl => ?_)
            refine lv_aload_n hx hb dX12_sums_45 rfl (lv_at hl 1 rfl) ?_
            refine lv_dup hx hb dX12_sums_46 rfl ?_
            refine sl_gM_0_13_12 (v := v_10) hx hb hts hown hK hP (show fp_5 0 13 = v_10 from ev_10.symm) dX12_sums_47 ?_
            refine lv_iconst (v := 1) hx hb dX12_sums_50 ic_1 ?_
            refine lv_iadd hx hb dX12_sums_51 ?_
            refine lv_topi (fun v_47 ev_47 => ?_)
            have q_48 : v_47.toInt = v_10.toInt + 1 := by rw [ev_47]; first | exact cm_add ti_1 (by omega) (by omega) | (have k1 : (1 : Int32).toInt = 1 := ti_1; exact (bn_addI (by omega) (by omega)).trans (by omega))
            refine sl_pM_0_13_12 (x := v_47) hx hb hts hown hh hA hK hP hS dX12_sums_52 (fun f_49 H locs ef_49 hP hS => ?_)
            have hI : sgI loM hiM f_49 := by rw [ef_49]; exact sgI.put hI 0 13 (show 0 ≤ (v_47 : Int32).toInt ∧ (v_47 : Int32).toInt ≤ 120 from ⟨by omega, by omega⟩)
            have hF : sgK WkX12_sums_6 f f_49 := sgK.put hF ef_49 (by rfl)
            refine lv_aload_n hx hb dX12_sums_55 rfl (lv_at hl 1 rfl) ?_
            have q_50 : (f_49 0 16).toInt = v_13.toInt := (congrArg Int32.toInt (show f_49 0 16 = v_13 from (by rw [ef_49, sg_up_s, sgu_n (by decide)]; exact ev_13.symm)))
            have q_51 : (f_49 0 15).toInt = v_16.toInt := (congrArg Int32.toInt (show f_49 0 15 = v_16 from (by rw [ef_49, sg_up_s, sgu_n (by decide)]; exact ev_16.symm)))
            have q_53 : (f_49 0 13).toInt = v_47.toInt := (congrArg Int32.toInt (show f_49 0 13 = v_47 from (by rw [ef_49, sg_up_s, sgu_s])))
            refine sg_calli (va_runV (As := []) (rest := []) ⟨hx, hb, hml, hown, hts⟩ (kX12_product_6 l D ca za h hh f_49 L Q hI (by omega) (by omega) H.size) (sl_c12_product_2_0_0_44_12 hts ⟨Nat.le_of_ble_eq_true rfl, Nat.le_of_ble_eq_true rfl⟩) (sl_vM_0 hA hK hP hS hZ) rfl rfl hl.1 rfl (lv_room (Nat.le_of_ble_eq_true rfl)) dX12_sums_56 ⟨Nat.le_refl _, Nat.le_refl _⟩) hA hS (fun r_57 f_54 L_55 Q_56 H locs hq hP hS => ?_)
            obtain ⟨⟨hI, hk_f_54, eL9, eQ9⟩, hq, p_58, p_59, p_60, u_61⟩ := hq
            rw [eL9, eQ9] at hP; clear eL9 eQ9
            have hF : sgK WkX12_sums_6 f f_54 := sgK.tr hF hk_f_54 (by decide +kernel)
            obtain ⟨v_62, ev_62⟩ : ∃ z : Int32, z = f_54 0 13 := ⟨_, rfl⟩
            have q_63 : 0 ≤ v_62.toInt ∧ v_62.toInt ≤ 120 := by rw [ev_62]; exact hI 0 13
            have q_64 : (f_54 0 13).toInt = v_62.toInt := (congrArg Int32.toInt (show f_54 0 13 = v_62 from ev_62.symm))
            have q_65 : (f_54 0 16).toInt = v_13.toInt := (congrArg Int32.toInt (show f_54 0 16 = v_13 from ((hk_f_54 0 16 (by decide)).trans (by rw [ef_49, sg_up_s, sgu_n (by decide)]; exact ev_13.symm))))
            obtain ⟨v_66, ev_66⟩ : ∃ z : Int32, z = f_54 0 15 := ⟨_, rfl⟩
            have q_67 : (-1) ≤ v_66.toInt ∧ v_66.toInt ≤ 120 := by rw [ev_66]; exact hI 0 15
            have q_68 : (f_54 0 15).toInt = v_66.toInt := (congrArg Int32.toInt (show f_54 0 15 = v_66 from ev_66.symm))
            refine lv_istore_n (lv' := [(3, .int r_57), (2, .int 1), (0, .ref (h 0)), (1, .int y1_5)]) hx hb dX12_sums_59 rfl hl (by decide) rfl (fun ls hl => ?_)
            refine lv_iload_n hx hb dX12_sums_60 rfl (lv_at hl 1 rfl) ?_
            refine lv_if_eq (tgt := 70) hx hb dX12_sums_61 (by decide) (fun c => absurd c (by decide)) (fun c => ?_)
            refine lv_iload_n hx hb dX12_sums_64 rfl (lv_at hl 3 rfl) ?_
            refine lv_iload_n hx hb dX12_sums_65 rfl (lv_at hl 0 rfl) ?_
            refine lv_iadd hx hb dX12_sums_66 ?_
            refine lv_topi (fun v_70 ev_70 => ?_)
            refine lv_goto (tgt := 73) hx hb dX12_sums_67 (by decide) ?_
            refine lv_istore_n (lv' := [(1, .int v_70), (3, .int r_57), (2, .int 1), (0, .ref (h 0))]) hx hb dX12_sums_73 rfl hl (by decide) rfl (fun ls hl => ?_)
            refine lv_goto (tgt := 5) hx hb dX12_sums_74 (by decide) ?_
            exact ih_5 v_70 f_54 _ _ _ (hs.trans ((if_pos c_35).trans (spl_e ev_47 (spl_e ef_49 (spl2_e u_61 (spl_e ev_62 (spl_e ev_66 (spl_e ev_70 rfl)))))))) (by have zz0_13 : (f_54 0 13).toInt = v_62.toInt := (congrArg Int32.toInt (show f_54 0 13 = v_62 from ev_62.symm)); omega) (by have zz0_13 : (f_54 0 13).toInt = v_62.toInt := (congrArg Int32.toInt (show f_54 0 13 = v_62 from ev_62.symm)); omega) (by have zz0_16 : (f_54 0 16).toInt = v_13.toInt := (congrArg Int32.toInt (show f_54 0 16 = v_13 from ((hk_f_54 0 16 (by decide)).trans (by rw [ef_49, sg_up_s, sgu_n (by decide)]; exact ev_13.symm)))); omega) (by have zz0_15 : (f_54 0 15).toInt = v_66.toInt := (congrArg Int32.toInt (show f_54 0 15 = v_66 from ev_66.symm)); have zz0_16 : (f_54 0 16).toInt = v_13.toInt := (congrArg Int32.toInt (show f_54 0 16 = v_13 from ((hk_f_54 0 16 (by decide)).trans (by rw [ef_49, sg_up_s, sgu_n (by decide)]; exact ev_13.symm)))); omega) hI hF hP hS (lv_sub hl [3, 0] rfl)
        · skip
          have c_36 : r_32.toInt ≠ 43 := (by first | exact (cm_ne1 ti_43 c) | (have z := bn_ne c; have k1 : (43 : Int32).toInt = 43 := ti_43; omega))
          replace hs := hs.trans ((if_neg c_36).trans rfl)
          refine lv_aload_n hx hb dX12_sums_21 rfl (lv_at hl 0 rfl) ?_
          refine sg_calli (va_runV (As := []) (rest := []) ⟨hx, hb, hml, hown, hts⟩ (kX12_byteAt l D ca za h hh fp_5 L Q hI H.size) (sl_c12_byteAt_0_0_0_0_12 hts ⟨Nat.le_of_ble_eq_true rfl, Nat.le_of_ble_eq_true rfl⟩) (sl_vM_0 hA hK hP hS hZ) rfl rfl hl.1 rfl (lv_room (Nat.le_of_ble_eq_true rfl)) dX12_sums_22 ⟨Nat.le_refl _, Nat.le_refl _⟩) hA hS (fun r_76 f_73 L_74 Q_75 H locs hq hP hS => ?_)
          obtain ⟨⟨ef9, eL9, eQ9⟩, hq, p_77, u_78⟩ := hq
          rw [ef9, eL9, eQ9] at hP; clear ef9 eL9 eQ9
          rw [show r_76 = r_32 from u_78.trans u_34.symm]
          refine lv_bipush (v := 45) hx hb dX12_sums_25 bp_45 ?_
          refine lv_icmp_ne (tgt := 77) hx hb dX12_sums_27 (by decide) (fun c => ?_) (fun c => ?_)
          · skip
            have c_79 : r_32.toInt ≠ 45 := (by first | exact (cm_ne1 ti_45 c) | (have z := bn_ne c; have k1 : (45 : Int32).toInt = 45 := ti_45; omega))
            refine lv_iload_n hx hb dX12_sums_77 rfl (lv_at hl 1 rfl) ?_
            exact hret _ _ _ _ (y1_5) fp_5 L Q dX12_sums_78 hP hS ⟨⟨hI, hF, rfl, rfl⟩, trivial, (by omega), (by omega), (by omega), (Eq.trans (Eq.symm (hs.trans ((if_neg c_79).trans rfl))) hsp)⟩
          · skip
            have c_80 : r_32.toInt = 45 := (by first | exact (cm_eq1 ti_45 c) | (have z := Int32.toInt_inj.mpr c; have k1 : (45 : Int32).toInt = 45 := ti_45; omega))
            refine lv_aload_n hx hb dX12_sums_30 rfl (lv_at hl 0 rfl) ?_
            refine sg_calli (va_runV (As := []) (rest := []) ⟨hx, hb, hml, hown, hts⟩ (kX12_byteAt l D ca za h hh fp_5 L Q hI H.size) (sl_c12_byteAt_0_0_0_0_12 hts ⟨Nat.le_of_ble_eq_true rfl, Nat.le_of_ble_eq_true rfl⟩) (sl_vM_0 hA hK hP hS hZ) rfl rfl hl.1 rfl (lv_room (Nat.le_of_ble_eq_true rfl)) dX12_sums_31 ⟨Nat.le_refl _, Nat.le_refl _⟩) hA hS (fun r_90 f_87 L_88 Q_89 H locs hq hP hS => ?_)
            obtain ⟨⟨ef9, eL9, eQ9⟩, hq, p_91, u_92⟩ := hq
            rw [ef9, eL9, eQ9] at hP; clear ef9 eL9 eQ9
            rw [show r_90 = r_32 from u_92.trans u_34.symm]
            refine lv_bipush (v := 43) hx hb dX12_sums_34 bp_43 ?_
            refine lv_icmp_ne (tgt := 43) hx hb dX12_sums_36 (by decide) (fun c => ?_) (fun c => ?_)
            · skip
              have c_93 : r_32.toInt ≠ 43 := (by first | exact (cm_ne1 ti_43 c) | (have z := bn_ne c; have k1 : (43 : Int32).toInt = 43 := ti_43; omega))
              refine lv_iconst (v := 0) hx hb dX12_sums_43 ic_0 ?_
              refine lv_istore_n (lv' := [(2, .int 0), (0, .ref (h 0)), (1, .int y1_5)]) hx hb dX12_sums_44 rfl hl (by decide) rfl (fun ls hl => ?_)
              refine lv_aload_n hx hb dX12_sums_45 rfl (lv_at hl 1 rfl) ?_
              refine lv_dup hx hb dX12_sums_46 rfl ?_
              refine sl_gM_0_13_12 (v := v_10) hx hb hts hown hK hP (show fp_5 0 13 = v_10 from ev_10.symm) dX12_sums_47 ?_
              refine lv_iconst (v := 1) hx hb dX12_sums_50 ic_1 ?_
              refine lv_iadd hx hb dX12_sums_51 ?_
              refine lv_topi (fun v_95 ev_95 => ?_)
              have q_96 : v_95.toInt = v_10.toInt + 1 := by rw [ev_95]; first | exact cm_add ti_1 (by omega) (by omega) | (have k1 : (1 : Int32).toInt = 1 := ti_1; exact (bn_addI (by omega) (by omega)).trans (by omega))
              refine sl_pM_0_13_12 (x := v_95) hx hb hts hown hh hA hK hP hS dX12_sums_52 (fun f_97 H locs ef_97 hP hS => ?_)
              have hI : sgI loM hiM f_97 := by rw [ef_97]; exact sgI.put hI 0 13 (show 0 ≤ (v_95 : Int32).toInt ∧ (v_95 : Int32).toInt ≤ 120 from ⟨by omega, by omega⟩)
              have hF : sgK WkX12_sums_6 f f_97 := sgK.put hF ef_97 (by rfl)
              refine lv_aload_n hx hb dX12_sums_55 rfl (lv_at hl 1 rfl) ?_
              have q_98 : (f_97 0 16).toInt = v_13.toInt := (congrArg Int32.toInt (show f_97 0 16 = v_13 from (by rw [ef_97, sg_up_s, sgu_n (by decide)]; exact ev_13.symm)))
              have q_99 : (f_97 0 15).toInt = v_16.toInt := (congrArg Int32.toInt (show f_97 0 15 = v_16 from (by rw [ef_97, sg_up_s, sgu_n (by decide)]; exact ev_16.symm)))
              have q_101 : (f_97 0 13).toInt = v_95.toInt := (congrArg Int32.toInt (show f_97 0 13 = v_95 from (by rw [ef_97, sg_up_s, sgu_s])))
              refine sg_calli (va_runV (As := []) (rest := []) ⟨hx, hb, hml, hown, hts⟩ (kX12_product_6 l D ca za h hh f_97 L Q hI (by omega) (by omega) H.size) (sl_c12_product_2_0_0_44_12 hts ⟨Nat.le_of_ble_eq_true rfl, Nat.le_of_ble_eq_true rfl⟩) (sl_vM_0 hA hK hP hS hZ) rfl rfl hl.1 rfl (lv_room (Nat.le_of_ble_eq_true rfl)) dX12_sums_56 ⟨Nat.le_refl _, Nat.le_refl _⟩) hA hS (fun r_105 f_102 L_103 Q_104 H locs hq hP hS => ?_)
              obtain ⟨⟨hI, hk_f_102, eL9, eQ9⟩, hq, p_106, p_107, p_108, u_109⟩ := hq
              rw [eL9, eQ9] at hP; clear eL9 eQ9
              have hF : sgK WkX12_sums_6 f f_102 := sgK.tr hF hk_f_102 (by decide +kernel)
              obtain ⟨v_110, ev_110⟩ : ∃ z : Int32, z = f_102 0 13 := ⟨_, rfl⟩
              have q_111 : 0 ≤ v_110.toInt ∧ v_110.toInt ≤ 120 := by rw [ev_110]; exact hI 0 13
              have q_112 : (f_102 0 13).toInt = v_110.toInt := (congrArg Int32.toInt (show f_102 0 13 = v_110 from ev_110.symm))
              have q_113 : (f_102 0 16).toInt = v_13.toInt := (congrArg Int32.toInt (show f_102 0 16 = v_13 from ((hk_f_102 0 16 (by decide)).trans (by rw [ef_97, sg_up_s, sgu_n (by decide)]; exact ev_13.symm))))
              obtain ⟨v_114, ev_114⟩ : ∃ z : Int32, z = f_102 0 15 := ⟨_, rfl⟩
              have q_115 : (-1) ≤ v_114.toInt ∧ v_114.toInt ≤ 120 := by rw [ev_114]; exact hI 0 15
              have q_116 : (f_102 0 15).toInt = v_114.toInt := (congrArg Int32.toInt (show f_102 0 15 = v_114 from ev_114.symm))
              refine lv_istore_n (lv' := [(3, .int r_105), (2, .int 0), (0, .ref (h 0)), (1, .int y1_5)]) hx hb dX12_sums_59 rfl hl (by decide) rfl (fun ls hl => ?_)
              refine lv_iload_n hx hb dX12_sums_60 rfl (lv_at hl 1 rfl) ?_
              refine lv_if_eq (tgt := 70) hx hb dX12_sums_61 (by decide) (fun c => ?_) (fun c => absurd c (by decide))
              refine lv_iload_n hx hb dX12_sums_70 rfl (lv_at hl 3 rfl) ?_
              refine lv_iload_n hx hb dX12_sums_71 rfl (lv_at hl 0 rfl) ?_
              refine lv_isub hx hb dX12_sums_72 ?_
              refine lv_topi (fun v_118 ev_118 => ?_)
              refine lv_istore_n (lv' := [(1, .int v_118), (3, .int r_105), (2, .int 0), (0, .ref (h 0))]) hx hb dX12_sums_73 rfl hl (by decide) rfl (fun ls hl => ?_)
              refine lv_goto (tgt := 5) hx hb dX12_sums_74 (by decide) ?_
              exact ih_5 v_118 f_102 _ _ _ (hs.trans ((if_pos c_80).trans (spl_e ev_95 (spl_e ef_97 (spl2_e u_109 (spl_e ev_110 (spl_e ev_114 (spl_e ev_118 rfl)))))))) (by have zz0_13 : (f_102 0 13).toInt = v_110.toInt := (congrArg Int32.toInt (show f_102 0 13 = v_110 from ev_110.symm)); omega) (by have zz0_13 : (f_102 0 13).toInt = v_110.toInt := (congrArg Int32.toInt (show f_102 0 13 = v_110 from ev_110.symm)); omega) (by have zz0_16 : (f_102 0 16).toInt = v_13.toInt := (congrArg Int32.toInt (show f_102 0 16 = v_13 from ((hk_f_102 0 16 (by decide)).trans (by rw [ef_97, sg_up_s, sgu_n (by decide)]; exact ev_13.symm)))); omega) (by have zz0_15 : (f_102 0 15).toInt = v_114.toInt := (congrArg Int32.toInt (show f_102 0 15 = v_114 from ev_114.symm)); have zz0_16 : (f_102 0 16).toInt = v_13.toInt := (congrArg Int32.toInt (show f_102 0 16 = v_13 from ((hk_f_102 0 16 (by decide)).trans (by rw [ef_97, sg_up_s, sgu_n (by decide)]; exact ev_13.symm)))); omega) hI hF hP hS (lv_sub hl [3, 0] rfl)
            · skip
              exfalso; have c_94 : r_32.toInt = 43 := (by first | exact (cm_eq1 ti_43 c) | (have z := Int32.toInt_inj.mpr c; have k1 : (43 : Int32).toInt = 43 := ti_43; omega)); first | exact absurd c_94 (by assumption) | omega
  refine lv_aload_n hx hb dX12_sums_0 rfl (lv_at hl 0 rfl) ?_
  have q_119 : (f 0 16).toInt = v_1.toInt := (congrArg Int32.toInt (show f 0 16 = v_1 from ev_1.symm))
  have q_120 : (f 0 15).toInt = v_3.toInt := (congrArg Int32.toInt (show f 0 15 = v_3 from ev_3.symm))
  have q_122 : (f 0 13).toInt = v_5.toInt := (congrArg Int32.toInt (show f 0 13 = v_5 from ev_5.symm))
  refine sg_calli (va_runV (As := []) (rest := []) ⟨hx, hb, hml, hown, hts⟩ (kX12_product_6 l D ca za h hh f L Q hI (by omega) (by omega) H.size) (sl_c12_product_2_0_0_44_12 hts ⟨Nat.le_of_ble_eq_true rfl, Nat.le_of_ble_eq_true rfl⟩) (sl_vM_0 hA hK hP hS hZ) rfl rfl hl.1 rfl (lv_room (Nat.le_of_ble_eq_true rfl)) dX12_sums_1 ⟨Nat.le_refl _, Nat.le_refl _⟩) hA hS (fun r_126 f_123 L_124 Q_125 H locs hq hP hS => ?_)
  obtain ⟨⟨hI, hk_f_123, eL9, eQ9⟩, hq, p_127, p_128, p_129, u_130⟩ := hq
  rw [eL9, eQ9] at hP; clear eL9 eQ9
  have hF : sgK WkX12_sums_6 f f_123 := sgK.tr hF hk_f_123 (by decide +kernel)
  obtain ⟨v_131, ev_131⟩ : ∃ z : Int32, z = f_123 0 13 := ⟨_, rfl⟩
  have q_132 : 0 ≤ v_131.toInt ∧ v_131.toInt ≤ 120 := by rw [ev_131]; exact hI 0 13
  have q_133 : (f_123 0 13).toInt = v_131.toInt := (congrArg Int32.toInt (show f_123 0 13 = v_131 from ev_131.symm))
  have q_134 : (f_123 0 16).toInt = v_1.toInt := (congrArg Int32.toInt (show f_123 0 16 = v_1 from ((hk_f_123 0 16 (by decide)).trans ev_1.symm)))
  obtain ⟨v_135, ev_135⟩ : ∃ z : Int32, z = f_123 0 15 := ⟨_, rfl⟩
  have q_136 : (-1) ≤ v_135.toInt ∧ v_135.toInt ≤ 120 := by rw [ev_135]; exact hI 0 15
  have q_137 : (f_123 0 15).toInt = v_135.toInt := (congrArg Int32.toInt (show f_123 0 15 = v_135 from ev_135.symm))
  refine lv_istore_n (lv' := [(1, .int r_126), (0, .ref (h 0))]) hx hb dX12_sums_4 rfl hl (by decide) rfl (fun ls hl => ?_)
  exact loop_5 121 r_126 f_123 _ _ _ (hs.trans ((spl_e ev_1 (spl_e ev_3 (spl_e ev_5 (spl2_e u_130 (spl_e ev_131 (spl_e ev_135 rfl)))))))) (by have zz0_13 : (f_123 0 13).toInt = v_131.toInt := (congrArg Int32.toInt (show f_123 0 13 = v_131 from ev_131.symm)); omega) (by have zz0_13 : (f_123 0 13).toInt = v_131.toInt := (congrArg Int32.toInt (show f_123 0 13 = v_131 from ev_131.symm)); omega) (by have zz0_16 : (f_123 0 16).toInt = v_1.toInt := (congrArg Int32.toInt (show f_123 0 16 = v_1 from ((hk_f_123 0 16 (by decide)).trans ev_1.symm))); omega) (by have zz0_15 : (f_123 0 15).toInt = v_135.toInt := (congrArg Int32.toInt (show f_123 0 15 = v_135 from ev_135.symm)); have zz0_16 : (f_123 0 16).toInt = v_1.toInt := (congrArg Int32.toInt (show f_123 0 16 = v_1 from ((hk_f_123 0 16 (by decide)).trans ev_1.symm))); omega) hI hF hP hS (lv_sub hl [1, 0] rfl)

abbrev WkX12_compared_6 : List (Nat × Nat × Option Nat) := [(0, 0, some 13), (0, 0, some 15)]
set_option maxHeartbeats 4000000 in
set_option maxRecDepth 100000 in
theorem kX12_compared_6 (l : Launch) (D : va_G) (ca : Nat → ClassId) (za h : Nat → Nat) (hh : sgH 26 h) (f : sg_F) (L : sg_L) (Q : sg_Q) (hI : sgI loM hiM f) (p0 : 6 ≤ (f 0 16).toInt) (p1 : 0 ≤ (f 0 15).toInt ∨ (f 0 16).toInt = 6) (sz : Nat) : Met l yX12_compared gwX12_compared { frames := 4, cells := 0, slots := 0, locals := 90 } (sgP D vwCl (tyX ca) 26 h (eM ca h) zcM za f L Q sz [.ref (h 0)]) (sgQi D vwCl 26 h (eM ca h) sz (fun r f1 L1 Q1 => ((sgI loM hiM f1 ∧ sgK WkX12_compared_6 f f1 ∧ L1 = L ∧ Q1 = Q) ∧ True ∧ ((f 0 13).toInt ≤ (f1 0 13).toInt) ∧ (6 ≤ (f1 0 16).toInt) ∧ (0 ≤ (f1 0 15).toInt ∨ (f1 0 16).toInt = 6) ∧ (r, f1) = sX12_compared_6 f L))) 0 0 (sgA 26 h sz) := by
  refine sg_ofWi (cc := cX12_compared) (maxL := 4) RX12 (by decide) rfl rfl (Nat.le_of_ble_eq_true rfl) ?_
  intro p e s m below meth cd Qz ls hx hb hml hown hts hK hZ hP hS hl hret
  have hA := sgY.self (n := 26) (h := h) (sz := s.heap.size)
  have hl : lv_has ls 4 [(0, .ref (h 0))] := hl
  obtain ⟨H, hH⟩ : ∃ z : Heap, z = s.heap := ⟨_, rfl⟩
  obtain ⟨locs, hlo⟩ : ∃ z : List Loc, z = [] := ⟨_, rfl⟩
  have hP : va_P D vwCl (sgw 26 h (eM ca h) f L Q) H := by rw [hH]; exact hP
  have hS : va_S (sgA 26 h s.heap.size) s.heap H locs := by rw [hH, hlo]; exact hS
  suffices hgo : W p l e ({ frames := 4, cells := 0, slots := 0, locals := 90 }) s m ([.ref (h 0)] : List Value).toArray below meth cd H locs 0 0 Qz (F0 m 0 ls []) by rw [hH, hlo] at hgo; exact hgo
  clear hH hlo
  obtain ⟨sp, hsp⟩ : ∃ z : Int32 × sg_F, z = sX12_compared_6 f L := ⟨_, rfl⟩
  have hs : sp = sX12_compared_6 f L := hsp
  obtain ⟨v_1, ev_1⟩ : ∃ z : Int32, z = f 0 16 := ⟨_, rfl⟩
  have q_2 : 0 ≤ v_1.toInt ∧ v_1.toInt ≤ 6 := by rw [ev_1]; exact hI 0 16
  obtain ⟨v_3, ev_3⟩ : ∃ z : Int32, z = f 0 15 := ⟨_, rfl⟩
  have q_4 : (-1) ≤ v_3.toInt ∧ v_3.toInt ≤ 120 := by rw [ev_3]; exact hI 0 15
  obtain ⟨v_5, ev_5⟩ : ∃ z : Int32, z = f 0 13 := ⟨_, rfl⟩
  have q_6 : 0 ≤ v_5.toInt ∧ v_5.toInt ≤ 120 := by rw [ev_5]; exact hI 0 13
  have o_7 : (f 0 16).toInt = v_1.toInt := (congrArg Int32.toInt (show f 0 16 = v_1 from ev_1.symm))
  have o_8 : (f 0 15).toInt = v_3.toInt := (congrArg Int32.toInt (show f 0 15 = v_3 from ev_3.symm))
  have o_9 : (f 0 13).toInt = v_5.toInt := (congrArg Int32.toInt (show f 0 13 = v_5 from ev_5.symm))
  have hF : sgK WkX12_compared_6 f f := sgK.rf
  refine lv_aload_n hx hb dX12_compared_0 rfl (lv_at hl 0 rfl) ?_
  have q_10 : (f 0 16).toInt = v_1.toInt := (congrArg Int32.toInt (show f 0 16 = v_1 from ev_1.symm))
  have q_11 : (f 0 15).toInt = v_3.toInt := (congrArg Int32.toInt (show f 0 15 = v_3 from ev_3.symm))
  have q_13 : (f 0 13).toInt = v_5.toInt := (congrArg Int32.toInt (show f 0 13 = v_5 from ev_5.symm))
  refine sg_calli (va_runV (As := []) (rest := []) ⟨hx, hb, hml, hown, hts⟩ (kX12_sums_6 l D ca za h hh f L Q hI (by omega) (by omega) H.size) (sl_c12_sums_3_0_0_67_12 hts ⟨Nat.le_of_ble_eq_true rfl, Nat.le_of_ble_eq_true rfl⟩) (sl_vM_0 hA hK hP hS hZ) rfl rfl hl.1 rfl (lv_room (Nat.le_of_ble_eq_true rfl)) dX12_compared_1 ⟨Nat.le_refl _, Nat.le_refl _⟩) hA hS (fun r_17 f_14 L_15 Q_16 H locs hq hP hS => ?_)
  obtain ⟨⟨hI, hk_f_14, eL9, eQ9⟩, hq, p_18, p_19, p_20, u_21⟩ := hq
  rw [eL9, eQ9] at hP; clear eL9 eQ9
  have hF : sgK WkX12_compared_6 f f_14 := sgK.tr hF hk_f_14 (by decide +kernel)
  obtain ⟨v_22, ev_22⟩ : ∃ z : Int32, z = f_14 0 13 := ⟨_, rfl⟩
  have q_23 : 0 ≤ v_22.toInt ∧ v_22.toInt ≤ 120 := by rw [ev_22]; exact hI 0 13
  have q_24 : (f_14 0 13).toInt = v_22.toInt := (congrArg Int32.toInt (show f_14 0 13 = v_22 from ev_22.symm))
  have q_25 : (f_14 0 16).toInt = v_1.toInt := (congrArg Int32.toInt (show f_14 0 16 = v_1 from ((hk_f_14 0 16 (by decide)).trans ev_1.symm)))
  obtain ⟨v_26, ev_26⟩ : ∃ z : Int32, z = f_14 0 15 := ⟨_, rfl⟩
  have q_27 : (-1) ≤ v_26.toInt ∧ v_26.toInt ≤ 120 := by rw [ev_26]; exact hI 0 15
  have q_28 : (f_14 0 15).toInt = v_26.toInt := (congrArg Int32.toInt (show f_14 0 15 = v_26 from ev_26.symm))
  refine lv_istore_n (lv' := [(1, .int r_17), (0, .ref (h 0))]) hx hb dX12_compared_4 rfl hl (by decide) rfl (fun ls hl => ?_)
  refine lv_aload_n hx hb dX12_compared_5 rfl (lv_at hl 1 rfl) ?_
  obtain ⟨v_31, ev_31⟩ : ∃ z : Int32, z = f_14 0 14 := ⟨_, rfl⟩
  have q_32 : 0 ≤ v_31.toInt ∧ v_31.toInt ≤ 120 := by rw [ev_31]; exact hI 0 14
  have q_33 : (f_14 0 14).toInt = v_31.toInt := (congrArg Int32.toInt (show f_14 0 14 = v_31 from ev_31.symm))
  refine sg_calli (va_runV (As := []) (rest := []) ⟨hx, hb, hml, hown, hts⟩ (kX12_byteAt l D ca za h hh f_14 L Q hI H.size) (sl_c12_byteAt_0_0_0_0_12 hts ⟨Nat.le_of_ble_eq_true rfl, Nat.le_of_ble_eq_true rfl⟩) (sl_vM_0 hA hK hP hS hZ) rfl rfl hl.1 rfl (lv_room (Nat.le_of_ble_eq_true rfl)) dX12_compared_6 ⟨Nat.le_refl _, Nat.le_refl _⟩) hA hS (fun r_37 f_34 L_35 Q_36 H locs hq hP hS => ?_)
  obtain ⟨⟨ef9, eL9, eQ9⟩, hq, p_38, u_39⟩ := hq
  replace hs := hs.trans (spl_e ev_1 (spl_e ev_3 (spl_e ev_5 (spl2_e u_21 (spl_e ev_22 (spl_e ev_26 (spl_e ev_31 (spl_e u_39 rfl))))))))
  rw [ef9, eL9, eQ9] at hP; clear ef9 eL9 eQ9
  refine lv_istore_n (lv' := [(2, .int r_37), (1, .int r_17), (0, .ref (h 0))]) hx hb dX12_compared_9 rfl hl (by decide) rfl (fun ls hl => ?_)
  refine lv_aload_n hx hb dX12_compared_10 rfl (lv_at hl 2 rfl) ?_
  refine sl_gM_0_15_12 (v := v_26) hx hb hts hown hK hP (show f_14 0 15 = v_26 from ev_26.symm) dX12_compared_11 ?_
  refine lv_if_ge (tgt := 35) hx hb dX12_compared_14 (by decide) (fun c => ?_) (fun c => ?_)
  · skip
    have c_40 : 0 ≤ v_26.toInt := (by first | exact (cm_le0 ti_0 c) | (have z := bn_le c; have k1 : (0 : Int32).toInt = 0 := ti_0; omega))
    refine lv_iload_n hx hb dX12_compared_35 rfl (lv_at hl 1 rfl) ?_
    exact hret _ _ _ _ (r_17) f_14 L Q dX12_compared_36 hP hS ⟨⟨hI, hF, rfl, rfl⟩, trivial, (by omega), (by omega), (by omega), (Eq.trans (Eq.symm (hs.trans ((if_neg (Int.not_lt.mpr c_40)).trans rfl))) hsp)⟩
  · skip
    have c_41 : v_26.toInt < 0 := (by first | exact (cm_nle0 ti_0 c) | (have z := bn_nle c; have k1 : (0 : Int32).toInt = 0 := ti_0; omega))
    replace hs := hs.trans ((if_pos c_41).trans rfl)
    refine lv_iload_n hx hb dX12_compared_17 rfl (lv_at hl 0 rfl) ?_
    refine lv_bipush (v := 60) hx hb dX12_compared_18 bp_60 ?_
    refine lv_icmp_eq (tgt := 37) hx hb dX12_compared_20 (by decide) (fun c => ?_) (fun c => ?_)
    · skip
      have c_46 : r_37.toInt = 60 := (by first | exact (cm_eq1 ti_60 c) | (have z := Int32.toInt_inj.mpr c; have k1 : (60 : Int32).toInt = 60 := ti_60; omega))
      refine lv_aload_n hx hb dX12_compared_37 rfl (lv_at hl 2 rfl) ?_
      refine lv_dup hx hb dX12_compared_38 rfl ?_
      refine sl_gM_0_13_12 (v := v_22) hx hb hts hown hK hP (show f_14 0 13 = v_22 from ev_22.symm) dX12_compared_39 ?_
      refine lv_iconst (v := 1) hx hb dX12_compared_42 ic_1 ?_
      refine lv_iadd hx hb dX12_compared_43 ?_
      refine lv_topi (fun v_48 ev_48 => ?_)
      have q_49 : v_48.toInt = v_22.toInt + 1 := by rw [ev_48]; first | exact cm_add ti_1 (by omega) (by omega) | (have k1 : (1 : Int32).toInt = 1 := ti_1; exact (bn_addI (by omega) (by omega)).trans (by omega))
      refine sl_pM_0_13_12 (x := v_48) hx hb hts hown hh hA hK hP hS dX12_compared_44 (fun f_50 H locs ef_50 hP hS => ?_)
      have hI : sgI loM hiM f_50 := by rw [ef_50]; exact sgI.put hI 0 13 (show 0 ≤ (v_48 : Int32).toInt ∧ (v_48 : Int32).toInt ≤ 120 from ⟨by omega, by omega⟩)
      have hF : sgK WkX12_compared_6 f f_50 := sgK.put hF ef_50 (by rfl)
      refine lv_aload_n hx hb dX12_compared_47 rfl (lv_at hl 2 rfl) ?_
      have q_51 : (f_50 0 16).toInt = v_1.toInt := (congrArg Int32.toInt (show f_50 0 16 = v_1 from (by rw [ef_50, sg_up_s, sgu_n (by decide)]; exact ((hk_f_14 0 16 (by decide)).trans ev_1.symm))))
      have q_52 : (f_50 0 15).toInt = v_26.toInt := (congrArg Int32.toInt (show f_50 0 15 = v_26 from (by rw [ef_50, sg_up_s, sgu_n (by decide)]; exact ev_26.symm)))
      have q_54 : (f_50 0 13).toInt = v_48.toInt := (congrArg Int32.toInt (show f_50 0 13 = v_48 from (by rw [ef_50, sg_up_s, sgu_s])))
      refine sg_calli (va_runV (As := []) (rest := []) ⟨hx, hb, hml, hown, hts⟩ (kX12_sums_6 l D ca za h hh f_50 L Q hI (by omega) (by omega) H.size) (sl_c12_sums_3_0_0_67_12 hts ⟨Nat.le_of_ble_eq_true rfl, Nat.le_of_ble_eq_true rfl⟩) (sl_vM_0 hA hK hP hS hZ) rfl rfl hl.1 rfl (lv_room (Nat.le_of_ble_eq_true rfl)) dX12_compared_48 ⟨Nat.le_refl _, Nat.le_refl _⟩) hA hS (fun r_58 f_55 L_56 Q_57 H locs hq hP hS => ?_)
      obtain ⟨⟨hI, hk_f_55, eL9, eQ9⟩, hq, p_59, p_60, p_61, u_62⟩ := hq
      rw [eL9, eQ9] at hP; clear eL9 eQ9
      have hF : sgK WkX12_compared_6 f f_55 := sgK.tr hF hk_f_55 (by decide +kernel)
      obtain ⟨v_63, ev_63⟩ : ∃ z : Int32, z = f_55 0 13 := ⟨_, rfl⟩
      have q_64 : 0 ≤ v_63.toInt ∧ v_63.toInt ≤ 120 := by rw [ev_63]; exact hI 0 13
      have q_65 : (f_55 0 13).toInt = v_63.toInt := (congrArg Int32.toInt (show f_55 0 13 = v_63 from ev_63.symm))
      have q_66 : (f_55 0 16).toInt = v_1.toInt := (congrArg Int32.toInt (show f_55 0 16 = v_1 from ((hk_f_55 0 16 (by decide)).trans (by rw [ef_50, sg_up_s, sgu_n (by decide)]; exact ((hk_f_14 0 16 (by decide)).trans ev_1.symm)))))
      obtain ⟨v_67, ev_67⟩ : ∃ z : Int32, z = f_55 0 15 := ⟨_, rfl⟩
      replace hs := hs.trans ((if_pos c_46).trans (spl_e ev_48 (spl_e ef_50 (spl2_e u_62 (spl_e ev_63 (spl_e ev_67 rfl))))))
      have q_68 : (-1) ≤ v_67.toInt ∧ v_67.toInt ≤ 120 := by rw [ev_67]; exact hI 0 15
      have q_69 : (f_55 0 15).toInt = v_67.toInt := (congrArg Int32.toInt (show f_55 0 15 = v_67 from ev_67.symm))
      refine lv_istore_n (lv' := [(3, .int r_58), (2, .int r_37), (1, .int r_17), (0, .ref (h 0))]) hx hb dX12_compared_51 rfl hl (by decide) rfl (fun ls hl => ?_)
      refine lv_iload_n hx hb dX12_compared_52 rfl (lv_at hl 1 rfl) ?_
      refine lv_bipush (v := 60) hx hb dX12_compared_53 bp_60 ?_
      refine lv_icmp_ne (tgt := 66) hx hb dX12_compared_55 (by decide) (fun c => ?_) (fun c => ?_)
      · skip
        exfalso; have c_71 : r_37.toInt ≠ 60 := (by first | exact (cm_ne1 ti_60 c) | (have z := bn_ne c; have k1 : (60 : Int32).toInt = 60 := ti_60; omega)); first | exact absurd (by assumption) c_71 | omega
      · skip
        have c_72 : r_37.toInt = 60 := (by first | exact (cm_eq1 ti_60 c) | (have z := Int32.toInt_inj.mpr c; have k1 : (60 : Int32).toInt = 60 := ti_60; omega))
        refine lv_iload_n hx hb dX12_compared_58 rfl (lv_at hl 2 rfl) ?_
        refine lv_iload_n hx hb dX12_compared_59 rfl (lv_at hl 0 rfl) ?_
        refine lv_icmp_ge (tgt := 89) hx hb dX12_compared_60 (by decide) (fun c => ?_) (fun c => ?_)
        · skip
          have c_73 : r_58.toInt ≤ r_17.toInt := (by first | exact (bn_le c) | (have z := bn_le c; omega))
          refine lv_iconst (v := 0) hx hb dX12_compared_89 ic_0 ?_
          have k99 : (0 : Int32).toInt = 0 := ti_0
          exact hret _ _ _ _ (0) f_55 L Q dX12_compared_90 hP hS ⟨⟨hI, hF, rfl, rfl⟩, trivial, (by omega), (by omega), (by omega), (Eq.trans (Eq.symm (hs.trans ((if_neg (Int.not_lt.mpr c_73)).trans rfl))) hsp)⟩
        · skip
          have c_74 : r_17.toInt < r_58.toInt := (by first | exact (bn_nle c) | (have z := bn_nle c; omega))
          refine lv_goto (tgt := 85) hx hb dX12_compared_63 (by decide) ?_
          refine lv_iconst (v := 1) hx hb dX12_compared_85 ic_1 ?_
          refine lv_goto (tgt := 90) hx hb dX12_compared_86 (by decide) ?_
          have k99 : (1 : Int32).toInt = 1 := ti_1
          exact hret _ _ _ _ (1) f_55 L Q dX12_compared_90 hP hS ⟨⟨hI, hF, rfl, rfl⟩, trivial, (by omega), (by omega), (by omega), (Eq.trans (Eq.symm (hs.trans ((if_pos c_74).trans rfl))) hsp)⟩
    · skip
      have c_47 : r_37.toInt ≠ 60 := (by first | exact (cm_ne1 ti_60 c) | (have z := bn_ne c; have k1 : (60 : Int32).toInt = 60 := ti_60; omega))
      replace hs := hs.trans ((if_neg c_47).trans rfl)
      refine lv_iload_n hx hb dX12_compared_23 rfl (lv_at hl 0 rfl) ?_
      refine lv_bipush (v := 61) hx hb dX12_compared_24 bp_61 ?_
      refine lv_icmp_eq (tgt := 37) hx hb dX12_compared_26 (by decide) (fun c => ?_) (fun c => ?_)
      · skip
        have c_83 : r_37.toInt = 61 := (by first | exact (cm_eq1 ti_61 c) | (have z := Int32.toInt_inj.mpr c; have k1 : (61 : Int32).toInt = 61 := ti_61; omega))
        refine lv_aload_n hx hb dX12_compared_37 rfl (lv_at hl 2 rfl) ?_
        refine lv_dup hx hb dX12_compared_38 rfl ?_
        refine sl_gM_0_13_12 (v := v_22) hx hb hts hown hK hP (show f_14 0 13 = v_22 from ev_22.symm) dX12_compared_39 ?_
        refine lv_iconst (v := 1) hx hb dX12_compared_42 ic_1 ?_
        refine lv_iadd hx hb dX12_compared_43 ?_
        refine lv_topi (fun v_85 ev_85 => ?_)
        have q_86 : v_85.toInt = v_22.toInt + 1 := by rw [ev_85]; first | exact cm_add ti_1 (by omega) (by omega) | (have k1 : (1 : Int32).toInt = 1 := ti_1; exact (bn_addI (by omega) (by omega)).trans (by omega))
        refine sl_pM_0_13_12 (x := v_85) hx hb hts hown hh hA hK hP hS dX12_compared_44 (fun f_87 H locs ef_87 hP hS => ?_)
        have hI : sgI loM hiM f_87 := by rw [ef_87]; exact sgI.put hI 0 13 (show 0 ≤ (v_85 : Int32).toInt ∧ (v_85 : Int32).toInt ≤ 120 from ⟨by omega, by omega⟩)
        have hF : sgK WkX12_compared_6 f f_87 := sgK.put hF ef_87 (by rfl)
        refine lv_aload_n hx hb dX12_compared_47 rfl (lv_at hl 2 rfl) ?_
        have q_88 : (f_87 0 16).toInt = v_1.toInt := (congrArg Int32.toInt (show f_87 0 16 = v_1 from (by rw [ef_87, sg_up_s, sgu_n (by decide)]; exact ((hk_f_14 0 16 (by decide)).trans ev_1.symm))))
        have q_89 : (f_87 0 15).toInt = v_26.toInt := (congrArg Int32.toInt (show f_87 0 15 = v_26 from (by rw [ef_87, sg_up_s, sgu_n (by decide)]; exact ev_26.symm)))
        have q_91 : (f_87 0 13).toInt = v_85.toInt := (congrArg Int32.toInt (show f_87 0 13 = v_85 from (by rw [ef_87, sg_up_s, sgu_s])))
        refine sg_calli (va_runV (As := []) (rest := []) ⟨hx, hb, hml, hown, hts⟩ (kX12_sums_6 l D ca za h hh f_87 L Q hI (by omega) (by omega) H.size) (sl_c12_sums_3_0_0_67_12 hts ⟨Nat.le_of_ble_eq_true rfl, Nat.le_of_ble_eq_true rfl⟩) (sl_vM_0 hA hK hP hS hZ) rfl rfl hl.1 rfl (lv_room (Nat.le_of_ble_eq_true rfl)) dX12_compared_48 ⟨Nat.le_refl _, Nat.le_refl _⟩) hA hS (fun r_95 f_92 L_93 Q_94 H locs hq hP hS => ?_)
        obtain ⟨⟨hI, hk_f_92, eL9, eQ9⟩, hq, p_96, p_97, p_98, u_99⟩ := hq
        rw [eL9, eQ9] at hP; clear eL9 eQ9
        have hF : sgK WkX12_compared_6 f f_92 := sgK.tr hF hk_f_92 (by decide +kernel)
        obtain ⟨v_100, ev_100⟩ : ∃ z : Int32, z = f_92 0 13 := ⟨_, rfl⟩
        have q_101 : 0 ≤ v_100.toInt ∧ v_100.toInt ≤ 120 := by rw [ev_100]; exact hI 0 13
        have q_102 : (f_92 0 13).toInt = v_100.toInt := (congrArg Int32.toInt (show f_92 0 13 = v_100 from ev_100.symm))
        have q_103 : (f_92 0 16).toInt = v_1.toInt := (congrArg Int32.toInt (show f_92 0 16 = v_1 from ((hk_f_92 0 16 (by decide)).trans (by rw [ef_87, sg_up_s, sgu_n (by decide)]; exact ((hk_f_14 0 16 (by decide)).trans ev_1.symm)))))
        obtain ⟨v_104, ev_104⟩ : ∃ z : Int32, z = f_92 0 15 := ⟨_, rfl⟩
        replace hs := hs.trans ((if_pos c_83).trans (spl_e ev_85 (spl_e ef_87 (spl2_e u_99 (spl_e ev_100 (spl_e ev_104 rfl))))))
        have q_105 : (-1) ≤ v_104.toInt ∧ v_104.toInt ≤ 120 := by rw [ev_104]; exact hI 0 15
        have q_106 : (f_92 0 15).toInt = v_104.toInt := (congrArg Int32.toInt (show f_92 0 15 = v_104 from ev_104.symm))
        refine lv_istore_n (lv' := [(3, .int r_95), (2, .int r_37), (1, .int r_17), (0, .ref (h 0))]) hx hb dX12_compared_51 rfl hl (by decide) rfl (fun ls hl => ?_)
        refine lv_iload_n hx hb dX12_compared_52 rfl (lv_at hl 1 rfl) ?_
        refine lv_bipush (v := 60) hx hb dX12_compared_53 bp_60 ?_
        refine lv_icmp_ne (tgt := 66) hx hb dX12_compared_55 (by decide) (fun c => ?_) (fun c => ?_)
        · skip
          have c_108 : r_37.toInt ≠ 60 := (by first | exact (cm_ne1 ti_60 c) | (have z := bn_ne c; have k1 : (60 : Int32).toInt = 60 := ti_60; omega))
          refine lv_iload_n hx hb dX12_compared_66 rfl (lv_at hl 1 rfl) ?_
          refine lv_bipush (v := 61) hx hb dX12_compared_67 bp_61 ?_
          refine lv_icmp_ne (tgt := 80) hx hb dX12_compared_69 (by decide) (fun c => ?_) (fun c => ?_)
          · skip
            exfalso; have c_110 : r_37.toInt ≠ 61 := (by first | exact (cm_ne1 ti_61 c) | (have z := bn_ne c; have k1 : (61 : Int32).toInt = 61 := ti_61; omega)); first | exact absurd (by assumption) c_110 | omega
          · skip
            have c_111 : r_37.toInt = 61 := (by first | exact (cm_eq1 ti_61 c) | (have z := Int32.toInt_inj.mpr c; have k1 : (61 : Int32).toInt = 61 := ti_61; omega))
            refine lv_iload_n hx hb dX12_compared_72 rfl (lv_at hl 2 rfl) ?_
            refine lv_iload_n hx hb dX12_compared_73 rfl (lv_at hl 0 rfl) ?_
            refine lv_icmp_ne (tgt := 89) hx hb dX12_compared_74 (by decide) (fun c => ?_) (fun c => ?_)
            · skip
              have c_112 : r_17.toInt ≠ r_95.toInt := (by first | exact (bn_ne c) | (have z := bn_ne c; omega))
              refine lv_iconst (v := 0) hx hb dX12_compared_89 ic_0 ?_
              have k99 : (0 : Int32).toInt = 0 := ti_0
              exact hret _ _ _ _ (0) f_92 L Q dX12_compared_90 hP hS ⟨⟨hI, hF, rfl, rfl⟩, trivial, (by omega), (by omega), (by omega), (Eq.trans (Eq.symm (hs.trans ((if_neg c_112).trans rfl))) hsp)⟩
            · skip
              have c_113 : r_17.toInt = r_95.toInt := (by first | exact (Int32.toInt_inj.mpr c) | (have z := Int32.toInt_inj.mpr c; omega))
              refine lv_goto (tgt := 85) hx hb dX12_compared_77 (by decide) ?_
              refine lv_iconst (v := 1) hx hb dX12_compared_85 ic_1 ?_
              refine lv_goto (tgt := 90) hx hb dX12_compared_86 (by decide) ?_
              have k99 : (1 : Int32).toInt = 1 := ti_1
              exact hret _ _ _ _ (1) f_92 L Q dX12_compared_90 hP hS ⟨⟨hI, hF, rfl, rfl⟩, trivial, (by omega), (by omega), (by omega), (Eq.trans (Eq.symm (hs.trans ((if_pos c_113).trans rfl))) hsp)⟩
        · skip
          exfalso; have c_109 : r_37.toInt = 60 := (by first | exact (cm_eq1 ti_60 c) | (have z := Int32.toInt_inj.mpr c; have k1 : (60 : Int32).toInt = 60 := ti_60; omega)); first | exact absurd c_109 (by assumption) | omega
      · skip
        have c_84 : r_37.toInt ≠ 61 := (by first | exact (cm_ne1 ti_61 c) | (have z := bn_ne c; have k1 : (61 : Int32).toInt = 61 := ti_61; omega))
        replace hs := hs.trans ((if_neg c_84).trans rfl)
        refine lv_iload_n hx hb dX12_compared_29 rfl (lv_at hl 0 rfl) ?_
        refine lv_bipush (v := 62) hx hb dX12_compared_30 bp_62 ?_
        refine lv_icmp_eq (tgt := 37) hx hb dX12_compared_32 (by decide) (fun c => ?_) (fun c => ?_)
        · skip
          have c_122 : r_37.toInt = 62 := (by first | exact (cm_eq1 ti_62 c) | (have z := Int32.toInt_inj.mpr c; have k1 : (62 : Int32).toInt = 62 := ti_62; omega))
          refine lv_aload_n hx hb dX12_compared_37 rfl (lv_at hl 2 rfl) ?_
          refine lv_dup hx hb dX12_compared_38 rfl ?_
          refine sl_gM_0_13_12 (v := v_22) hx hb hts hown hK hP (show f_14 0 13 = v_22 from ev_22.symm) dX12_compared_39 ?_
          refine lv_iconst (v := 1) hx hb dX12_compared_42 ic_1 ?_
          refine lv_iadd hx hb dX12_compared_43 ?_
          refine lv_topi (fun v_124 ev_124 => ?_)
          have q_125 : v_124.toInt = v_22.toInt + 1 := by rw [ev_124]; first | exact cm_add ti_1 (by omega) (by omega) | (have k1 : (1 : Int32).toInt = 1 := ti_1; exact (bn_addI (by omega) (by omega)).trans (by omega))
          refine sl_pM_0_13_12 (x := v_124) hx hb hts hown hh hA hK hP hS dX12_compared_44 (fun f_126 H locs ef_126 hP hS => ?_)
          have hI : sgI loM hiM f_126 := by rw [ef_126]; exact sgI.put hI 0 13 (show 0 ≤ (v_124 : Int32).toInt ∧ (v_124 : Int32).toInt ≤ 120 from ⟨by omega, by omega⟩)
          have hF : sgK WkX12_compared_6 f f_126 := sgK.put hF ef_126 (by rfl)
          refine lv_aload_n hx hb dX12_compared_47 rfl (lv_at hl 2 rfl) ?_
          have q_127 : (f_126 0 16).toInt = v_1.toInt := (congrArg Int32.toInt (show f_126 0 16 = v_1 from (by rw [ef_126, sg_up_s, sgu_n (by decide)]; exact ((hk_f_14 0 16 (by decide)).trans ev_1.symm))))
          have q_128 : (f_126 0 15).toInt = v_26.toInt := (congrArg Int32.toInt (show f_126 0 15 = v_26 from (by rw [ef_126, sg_up_s, sgu_n (by decide)]; exact ev_26.symm)))
          have q_130 : (f_126 0 13).toInt = v_124.toInt := (congrArg Int32.toInt (show f_126 0 13 = v_124 from (by rw [ef_126, sg_up_s, sgu_s])))
          refine sg_calli (va_runV (As := []) (rest := []) ⟨hx, hb, hml, hown, hts⟩ (kX12_sums_6 l D ca za h hh f_126 L Q hI (by omega) (by omega) H.size) (sl_c12_sums_3_0_0_67_12 hts ⟨Nat.le_of_ble_eq_true rfl, Nat.le_of_ble_eq_true rfl⟩) (sl_vM_0 hA hK hP hS hZ) rfl rfl hl.1 rfl (lv_room (Nat.le_of_ble_eq_true rfl)) dX12_compared_48 ⟨Nat.le_refl _, Nat.le_refl _⟩) hA hS (fun r_134 f_131 L_132 Q_133 H locs hq hP hS => ?_)
          obtain ⟨⟨hI, hk_f_131, eL9, eQ9⟩, hq, p_135, p_136, p_137, u_138⟩ := hq
          rw [eL9, eQ9] at hP; clear eL9 eQ9
          have hF : sgK WkX12_compared_6 f f_131 := sgK.tr hF hk_f_131 (by decide +kernel)
          obtain ⟨v_139, ev_139⟩ : ∃ z : Int32, z = f_131 0 13 := ⟨_, rfl⟩
          have q_140 : 0 ≤ v_139.toInt ∧ v_139.toInt ≤ 120 := by rw [ev_139]; exact hI 0 13
          have q_141 : (f_131 0 13).toInt = v_139.toInt := (congrArg Int32.toInt (show f_131 0 13 = v_139 from ev_139.symm))
          have q_142 : (f_131 0 16).toInt = v_1.toInt := (congrArg Int32.toInt (show f_131 0 16 = v_1 from ((hk_f_131 0 16 (by decide)).trans (by rw [ef_126, sg_up_s, sgu_n (by decide)]; exact ((hk_f_14 0 16 (by decide)).trans ev_1.symm)))))
          obtain ⟨v_143, ev_143⟩ : ∃ z : Int32, z = f_131 0 15 := ⟨_, rfl⟩
          replace hs := hs.trans ((if_pos c_122).trans (spl_e ev_124 (spl_e ef_126 (spl2_e u_138 (spl_e ev_139 (spl_e ev_143 rfl))))))
          have q_144 : (-1) ≤ v_143.toInt ∧ v_143.toInt ≤ 120 := by rw [ev_143]; exact hI 0 15
          have q_145 : (f_131 0 15).toInt = v_143.toInt := (congrArg Int32.toInt (show f_131 0 15 = v_143 from ev_143.symm))
          refine lv_istore_n (lv' := [(3, .int r_134), (2, .int r_37), (1, .int r_17), (0, .ref (h 0))]) hx hb dX12_compared_51 rfl hl (by decide) rfl (fun ls hl => ?_)
          refine lv_iload_n hx hb dX12_compared_52 rfl (lv_at hl 1 rfl) ?_
          refine lv_bipush (v := 60) hx hb dX12_compared_53 bp_60 ?_
          refine lv_icmp_ne (tgt := 66) hx hb dX12_compared_55 (by decide) (fun c => ?_) (fun c => ?_)
          · skip
            have c_147 : r_37.toInt ≠ 60 := (by first | exact (cm_ne1 ti_60 c) | (have z := bn_ne c; have k1 : (60 : Int32).toInt = 60 := ti_60; omega))
            refine lv_iload_n hx hb dX12_compared_66 rfl (lv_at hl 1 rfl) ?_
            refine lv_bipush (v := 61) hx hb dX12_compared_67 bp_61 ?_
            refine lv_icmp_ne (tgt := 80) hx hb dX12_compared_69 (by decide) (fun c => ?_) (fun c => ?_)
            · skip
              have c_149 : r_37.toInt ≠ 61 := (by first | exact (cm_ne1 ti_61 c) | (have z := bn_ne c; have k1 : (61 : Int32).toInt = 61 := ti_61; omega))
              refine lv_iload_n hx hb dX12_compared_80 rfl (lv_at hl 2 rfl) ?_
              refine lv_iload_n hx hb dX12_compared_81 rfl (lv_at hl 0 rfl) ?_
              refine lv_icmp_le (tgt := 89) hx hb dX12_compared_82 (by decide) (fun c => ?_) (fun c => ?_)
              · skip
                have c_151 : r_17.toInt ≤ r_134.toInt := (by first | exact (bn_le c) | (have z := bn_le c; omega))
                refine lv_iconst (v := 0) hx hb dX12_compared_89 ic_0 ?_
                have k99 : (0 : Int32).toInt = 0 := ti_0
                exact hret _ _ _ _ (0) f_131 L Q dX12_compared_90 hP hS ⟨⟨hI, hF, rfl, rfl⟩, trivial, (by omega), (by omega), (by omega), (Eq.trans (Eq.symm (hs.trans ((if_neg (Int.not_lt.mpr c_151)).trans rfl))) hsp)⟩
              · skip
                have c_152 : r_134.toInt < r_17.toInt := (by first | exact (bn_nle c) | (have z := bn_nle c; omega))
                refine lv_iconst (v := 1) hx hb dX12_compared_85 ic_1 ?_
                refine lv_goto (tgt := 90) hx hb dX12_compared_86 (by decide) ?_
                have k99 : (1 : Int32).toInt = 1 := ti_1
                exact hret _ _ _ _ (1) f_131 L Q dX12_compared_90 hP hS ⟨⟨hI, hF, rfl, rfl⟩, trivial, (by omega), (by omega), (by omega), (Eq.trans (Eq.symm (hs.trans ((if_pos c_152).trans rfl))) hsp)⟩
            · skip
              exfalso; have c_150 : r_37.toInt = 61 := (by first | exact (cm_eq1 ti_61 c) | (have z := Int32.toInt_inj.mpr c; have k1 : (61 : Int32).toInt = 61 := ti_61; omega)); first | exact absurd c_150 (by assumption) | omega
          · skip
            exfalso; have c_148 : r_37.toInt = 60 := (by first | exact (cm_eq1 ti_60 c) | (have z := Int32.toInt_inj.mpr c; have k1 : (60 : Int32).toInt = 60 := ti_60; omega)); first | exact absurd c_148 (by assumption) | omega
        · skip
          have c_123 : r_37.toInt ≠ 62 := (by first | exact (cm_ne1 ti_62 c) | (have z := bn_ne c; have k1 : (62 : Int32).toInt = 62 := ti_62; omega))
          refine lv_iload_n hx hb dX12_compared_35 rfl (lv_at hl 1 rfl) ?_
          exact hret _ _ _ _ (r_17) f_14 L Q dX12_compared_36 hP hS ⟨⟨hI, hF, rfl, rfl⟩, trivial, (by omega), (by omega), (by omega), (Eq.trans (Eq.symm (hs.trans ((if_neg c_123).trans rfl))) hsp)⟩

abbrev WkX12_takes_38 : List (Nat × Nat × Option Nat) := [(0, 0, some 13)]
set_option maxHeartbeats 4000000 in
set_option maxRecDepth 100000 in
theorem kX12_takes_38 (l : Launch) (D : va_G) (ca : Nat → ClassId) (za h : Nat → Nat) (hh : sgH 26 h) (f : sg_F) (L : sg_L) (Q : sg_Q) (hI : sgI loM hiM f) (sz : Nat) : Met l yX12_takes gwX12_takes { frames := 1, cells := 0, slots := 0, locals := 20 } (sgP D vwCl (tyX ca) 26 h (eM ca h) zcM za f L Q sz [.ref (h 0), .int 38]) (sgQi D vwCl 26 h (eM ca h) sz (fun r f1 L1 Q1 => ((sgI loM hiM f1 ∧ sgK WkX12_takes_38 f f1 ∧ L1 = L ∧ Q1 = Q) ∧ ((r = 1 ∧ ((f 0 15).toInt < 0 ∧ (f 0 13).toInt < (f 0 14).toInt ∧ (f1 0 13).toInt = (f 0 13).toInt + 1)) ∨ (r = 0 ∧ ((f1 0 13).toInt = (f 0 13).toInt))) ∧ (r, f1) = sX12_takes_38 f L))) 0 0 (sgA 26 h sz) := by
  refine sg_ofWz (cc := cX12_takes) (maxL := 2) RX12 (by decide) rfl rfl (Nat.le_of_ble_eq_true rfl) ?_
  intro p e s m below meth cd Qz ls hx hb hml hown hts hK hZ hP hS hl hret
  have hA := sgY.self (n := 26) (h := h) (sz := s.heap.size)
  have hl : lv_has ls 2 [(0, .ref (h 0)), (1, .int 38)] := hl
  obtain ⟨H, hH⟩ : ∃ z : Heap, z = s.heap := ⟨_, rfl⟩
  obtain ⟨locs, hlo⟩ : ∃ z : List Loc, z = [] := ⟨_, rfl⟩
  have hP : va_P D vwCl (sgw 26 h (eM ca h) f L Q) H := by rw [hH]; exact hP
  have hS : va_S (sgA 26 h s.heap.size) s.heap H locs := by rw [hH, hlo]; exact hS
  suffices hgo : W p l e ({ frames := 1, cells := 0, slots := 0, locals := 20 }) s m ([.ref (h 0), .int 38] : List Value).toArray below meth cd H locs 0 0 Qz (F0 m 0 ls []) by rw [hH, hlo] at hgo; exact hgo
  clear hH hlo
  obtain ⟨sp, hsp⟩ : ∃ z : Int32 × sg_F, z = sX12_takes_38 f L := ⟨_, rfl⟩
  have hs : sp = sX12_takes_38 f L := hsp
  obtain ⟨v_1, ev_1⟩ : ∃ z : Int32, z = f 0 15 := ⟨_, rfl⟩
  have q_2 : (-1) ≤ v_1.toInt ∧ v_1.toInt ≤ 120 := by rw [ev_1]; exact hI 0 15
  obtain ⟨v_3, ev_3⟩ : ∃ z : Int32, z = f 0 13 := ⟨_, rfl⟩
  have q_4 : 0 ≤ v_3.toInt ∧ v_3.toInt ≤ 120 := by rw [ev_3]; exact hI 0 13
  obtain ⟨v_5, ev_5⟩ : ∃ z : Int32, z = f 0 14 := ⟨_, rfl⟩
  replace hs := hs.trans (spl_e ev_1 (spl_e ev_3 (spl_e ev_5 rfl)))
  have q_6 : 0 ≤ v_5.toInt ∧ v_5.toInt ≤ 120 := by rw [ev_5]; exact hI 0 14
  have o_7 : (f 0 15).toInt = v_1.toInt := (congrArg Int32.toInt (show f 0 15 = v_1 from ev_1.symm))
  have o_8 : (f 0 13).toInt = v_3.toInt := (congrArg Int32.toInt (show f 0 13 = v_3 from ev_3.symm))
  have o_9 : (f 0 14).toInt = v_5.toInt := (congrArg Int32.toInt (show f 0 14 = v_5 from ev_5.symm))
  have hF : sgK WkX12_takes_38 f f := sgK.rf
  refine lv_aload_n hx hb dX12_takes_0 rfl (lv_at hl 0 rfl) ?_
  refine sl_gM_0_15_12 (v := v_1) hx hb hts hown hK hP (show f 0 15 = v_1 from ev_1.symm) dX12_takes_1 ?_
  refine lv_if_ge (tgt := 15) hx hb dX12_takes_4 (by decide) (fun c => ?_) (fun c => ?_)
  · skip
    have c_10 : 0 ≤ v_1.toInt := (by first | exact (cm_le0 ti_0 c) | (have z := bn_le c; have k1 : (0 : Int32).toInt = 0 := ti_0; omega))
    refine lv_iconst (v := 0) hx hb dX12_takes_15 ic_0 ?_
    have q_12 : (f 0 13).toInt = v_3.toInt := (congrArg Int32.toInt (show f 0 13 = v_3 from ev_3.symm))
    have k99 : (0 : Int32).toInt = 0 := ti_0
    exact hret _ _ _ _ (0) f L Q dX12_takes_16 (by decide) hP hS ⟨⟨hI, hF, rfl, rfl⟩, Or.inr (⟨rfl, by omega⟩), (Eq.trans (Eq.symm (hs.trans ((if_neg (Int.not_lt.mpr c_10)).trans rfl))) hsp)⟩
  · skip
    have c_11 : v_1.toInt < 0 := (by first | exact (cm_nle0 ti_0 c) | (have z := bn_nle c; have k1 : (0 : Int32).toInt = 0 := ti_0; omega))
    refine lv_aload_n hx hb dX12_takes_7 rfl (lv_at hl 0 rfl) ?_
    have q_14 : (f 0 13).toInt = v_3.toInt := (congrArg Int32.toInt (show f 0 13 = v_3 from ev_3.symm))
    have q_15 : (f 0 14).toInt = v_5.toInt := (congrArg Int32.toInt (show f 0 14 = v_5 from ev_5.symm))
    refine sg_calli (va_runV (As := []) (rest := []) ⟨hx, hb, hml, hown, hts⟩ (kX12_byteAt l D ca za h hh f L Q hI H.size) (sl_c12_byteAt_0_0_0_0_12 hts ⟨Nat.le_of_ble_eq_true rfl, Nat.le_of_ble_eq_true rfl⟩) (sl_vM_0 hA hK hP hS hZ) rfl rfl hl.1 rfl (lv_room (Nat.le_of_ble_eq_true rfl)) dX12_takes_8 ⟨Nat.le_refl _, Nat.le_refl _⟩) hA hS (fun r_19 f_16 L_17 Q_18 H locs hq hP hS => ?_)
    obtain ⟨⟨ef9, eL9, eQ9⟩, hq, p_20, u_21⟩ := hq
    replace hs := hs.trans ((if_pos c_11).trans (spl_e u_21 rfl))
    rw [ef9, eL9, eQ9] at hP; clear ef9 eL9 eQ9
    refine lv_iload_n hx hb dX12_takes_11 rfl (lv_at hl 1 rfl) ?_
    refine lv_icmp_eq (tgt := 17) hx hb dX12_takes_12 (by decide) (fun c => ?_) (fun c => ?_)
    · skip
      have c_22 : r_19.toInt = 38 := (by first | exact (cm_eq1 ti_38 c) | (have z := Int32.toInt_inj.mpr c; have k1 : (38 : Int32).toInt = 38 := ti_38; omega))
      refine lv_aload_n hx hb dX12_takes_17 rfl (lv_at hl 0 rfl) ?_
      refine lv_dup hx hb dX12_takes_18 rfl ?_
      refine sl_gM_0_13_12 (v := v_3) hx hb hts hown hK hP (show f 0 13 = v_3 from ev_3.symm) dX12_takes_19 ?_
      refine lv_iconst (v := 1) hx hb dX12_takes_22 ic_1 ?_
      refine lv_iadd hx hb dX12_takes_23 ?_
      refine lv_topi (fun v_24 ev_24 => ?_)
      have q_25 : v_24.toInt = v_3.toInt + 1 := by rw [ev_24]; first | exact cm_add ti_1 (by omega) (by omega) | (have k1 : (1 : Int32).toInt = 1 := ti_1; exact (bn_addI (by omega) (by omega)).trans (by omega))
      refine sl_pM_0_13_12 (x := v_24) hx hb hts hown hh hA hK hP hS dX12_takes_24 (fun f_26 H locs ef_26 hP hS => ?_)
      have hI : sgI loM hiM f_26 := by rw [ef_26]; exact sgI.put hI 0 13 (show 0 ≤ (v_24 : Int32).toInt ∧ (v_24 : Int32).toInt ≤ 120 from ⟨by omega, by omega⟩)
      have hF : sgK WkX12_takes_38 f f_26 := sgK.put hF ef_26 (by rfl)
      refine lv_iconst (v := 1) hx hb dX12_takes_27 ic_1 ?_
      have q_27 : (f_26 0 13).toInt = v_24.toInt := (congrArg Int32.toInt (show f_26 0 13 = v_24 from (by rw [ef_26, sg_up_s, sgu_s])))
      have k99 : (1 : Int32).toInt = 1 := ti_1
      exact hret _ _ _ _ (1) f_26 L Q dX12_takes_28 (by decide) hP hS ⟨⟨hI, hF, rfl, rfl⟩, Or.inl ⟨rfl, by omega⟩, (Eq.trans (Eq.symm (hs.trans ((if_pos c_22).trans (spl_e ev_24 (spl_e ef_26 rfl))))) hsp)⟩
    · skip
      have c_23 : r_19.toInt ≠ 38 := (by first | exact (cm_ne1 ti_38 c) | (have z := bn_ne c; have k1 : (38 : Int32).toInt = 38 := ti_38; omega))
      refine lv_iconst (v := 0) hx hb dX12_takes_15 ic_0 ?_
      have k99 : (0 : Int32).toInt = 0 := ti_0
      exact hret _ _ _ _ (0) f L Q dX12_takes_16 (by decide) hP hS ⟨⟨hI, hF, rfl, rfl⟩, Or.inr (⟨rfl, by omega⟩), (Eq.trans (Eq.symm (hs.trans ((if_neg c_23).trans rfl))) hsp)⟩

abbrev WkX12_both_6 : List (Nat × Nat × Option Nat) := [(0, 0, some 13), (0, 0, some 15)]
set_option maxHeartbeats 4000000 in
set_option maxRecDepth 100000 in
theorem kX12_both_6 (l : Launch) (D : va_G) (ca : Nat → ClassId) (za h : Nat → Nat) (hh : sgH 26 h) (f : sg_F) (L : sg_L) (Q : sg_Q) (hI : sgI loM hiM f) (p0 : 6 ≤ (f 0 16).toInt) (p1 : 0 ≤ (f 0 15).toInt ∨ (f 0 16).toInt = 6) (sz : Nat) : Met l yX12_both gwX12_both { frames := 5, cells := 0, slots := 0, locals := 113 } (sgP D vwCl (tyX ca) 26 h (eM ca h) zcM za f L Q sz [.ref (h 0)]) (sgQi D vwCl 26 h (eM ca h) sz (fun r f1 L1 Q1 => ((sgI loM hiM f1 ∧ sgK WkX12_both_6 f f1 ∧ L1 = L ∧ Q1 = Q) ∧ True ∧ ((f 0 13).toInt ≤ (f1 0 13).toInt) ∧ (6 ≤ (f1 0 16).toInt) ∧ (0 ≤ (f1 0 15).toInt ∨ (f1 0 16).toInt = 6) ∧ (r, f1) = sX12_both_6 f L))) 0 0 (sgA 26 h sz) := by
  refine sg_ofWi (cc := cX12_both) (maxL := 3) RX12 (by decide) rfl rfl (Nat.le_of_ble_eq_true rfl) ?_
  intro p e s m below meth cd Qz ls hx hb hml hown hts hK hZ hP hS hl hret
  have hA := sgY.self (n := 26) (h := h) (sz := s.heap.size)
  have hl : lv_has ls 3 [(0, .ref (h 0))] := hl
  obtain ⟨H, hH⟩ : ∃ z : Heap, z = s.heap := ⟨_, rfl⟩
  obtain ⟨locs, hlo⟩ : ∃ z : List Loc, z = [] := ⟨_, rfl⟩
  have hP : va_P D vwCl (sgw 26 h (eM ca h) f L Q) H := by rw [hH]; exact hP
  have hS : va_S (sgA 26 h s.heap.size) s.heap H locs := by rw [hH, hlo]; exact hS
  suffices hgo : W p l e ({ frames := 5, cells := 0, slots := 0, locals := 113 }) s m ([.ref (h 0)] : List Value).toArray below meth cd H locs 0 0 Qz (F0 m 0 ls []) by rw [hH, hlo] at hgo; exact hgo
  clear hH hlo
  obtain ⟨sp, hsp⟩ : ∃ z : Int32 × sg_F, z = sX12_both_6 f L := ⟨_, rfl⟩
  have hs : sp = sX12_both_6 f L := hsp
  obtain ⟨v_1, ev_1⟩ : ∃ z : Int32, z = f 0 16 := ⟨_, rfl⟩
  have q_2 : 0 ≤ v_1.toInt ∧ v_1.toInt ≤ 6 := by rw [ev_1]; exact hI 0 16
  obtain ⟨v_3, ev_3⟩ : ∃ z : Int32, z = f 0 15 := ⟨_, rfl⟩
  have q_4 : (-1) ≤ v_3.toInt ∧ v_3.toInt ≤ 120 := by rw [ev_3]; exact hI 0 15
  obtain ⟨v_5, ev_5⟩ : ∃ z : Int32, z = f 0 13 := ⟨_, rfl⟩
  have q_6 : 0 ≤ v_5.toInt ∧ v_5.toInt ≤ 120 := by rw [ev_5]; exact hI 0 13
  have o_7 : (f 0 16).toInt = v_1.toInt := (congrArg Int32.toInt (show f 0 16 = v_1 from ev_1.symm))
  have o_8 : (f 0 15).toInt = v_3.toInt := (congrArg Int32.toInt (show f 0 15 = v_3 from ev_3.symm))
  have o_9 : (f 0 13).toInt = v_5.toInt := (congrArg Int32.toInt (show f 0 13 = v_5 from ev_5.symm))
  have hF : sgK WkX12_both_6 f f := sgK.rf
  have loop_5 : ∀ (n_5 : Nat) (y1_5 : Int32) (fp_5 : sg_F) (H : Heap) (locs : List Loc) (ls : Array Slot), sp = sX12_both_6_l5 n_5 y1_5 fp_5 L → 120 - (fp_5 0 13).toInt < (n_5 : Int) → (f 0 13).toInt ≤ (fp_5 0 13).toInt → 6 ≤ (fp_5 0 16).toInt → 0 ≤ (fp_5 0 15).toInt ∨ (fp_5 0 16).toInt = 6 → sgI loM hiM fp_5 → sgK WkX12_both_6 f fp_5 → va_P D vwCl (sgw 26 h (eM ca h) fp_5 L Q) H → va_S (sgA 26 h s.heap.size) s.heap H locs → lv_has ls 3 [(0, .ref (h 0)), (1, .int y1_5)] → W p l e ({ frames := 5, cells := 0, slots := 0, locals := 113 }) s m ([.ref (h 0)] : List Value).toArray below meth cd H locs 0 0 Qz (F0 m 5 ls []) := by
    intro n_5
    induction n_5 with
    | zero => intro y1_5 fp_5 H locs ls hs hm_5 hg0_5 hg1_5 hg2_5 hI hF hP hS hl; have zb := (show 0 ≤ (fp_5 0 13).toInt ∧ (fp_5 0 13).toInt ≤ 120 from hI 0 13); exact absurd hm_5 (by omega)
    | succ n_5 ih_5 =>
      intro y1_5 fp_5 H locs ls hs hm_5 hg0_5 hg1_5 hg2_5 hI hF hP hS hl
      have hs : sp = sX12_both_6_h5 (sX12_both_6_l5 n_5) y1_5 fp_5 L := hs
      obtain ⟨v_10, ev_10⟩ : ∃ z : Int32, z = fp_5 0 13 := ⟨_, rfl⟩
      have q_11 : 0 ≤ v_10.toInt ∧ v_10.toInt ≤ 120 := by rw [ev_10]; exact hI 0 13
      have q_12 : (fp_5 0 13).toInt = v_10.toInt := by rw [ev_10]
      obtain ⟨v_13, ev_13⟩ : ∃ z : Int32, z = fp_5 0 16 := ⟨_, rfl⟩
      have q_14 : 0 ≤ v_13.toInt ∧ v_13.toInt ≤ 6 := by rw [ev_13]; exact hI 0 16
      have q_15 : (fp_5 0 16).toInt = v_13.toInt := by rw [ev_13]
      obtain ⟨v_16, ev_16⟩ : ∃ z : Int32, z = fp_5 0 15 := ⟨_, rfl⟩
      have q_17 : (-1) ≤ v_16.toInt ∧ v_16.toInt ≤ 120 := by rw [ev_16]; exact hI 0 15
      have q_18 : (fp_5 0 15).toInt = v_16.toInt := by rw [ev_16]
      refine lv_aload_n hx hb dX12_both_5 rfl (lv_at hl 0 rfl) ?_
      refine lv_bipush (v := 38) hx hb dX12_both_6 bp_38 ?_
      obtain ⟨v_21, ev_21⟩ : ∃ z : Int32, z = fp_5 0 14 := ⟨_, rfl⟩
      have q_22 : 0 ≤ v_21.toInt ∧ v_21.toInt ≤ 120 := by rw [ev_21]; exact hI 0 14
      have q_23 : (fp_5 0 14).toInt = v_21.toInt := (congrArg Int32.toInt (show fp_5 0 14 = v_21 from ev_21.symm))
      refine sg_calli (va_runV (As := [.int 38]) (rest := []) ⟨hx, hb, hml, hown, hts⟩ (kX12_takes_38 l D ca za h hh fp_5 L Q hI H.size) (sl_c12_takes_1_0_0_20_12 hts ⟨Nat.le_of_ble_eq_true rfl, Nat.le_of_ble_eq_true rfl⟩) (sl_vM_0 hA hK hP hS hZ) rfl rfl hl.1 rfl (lv_room (Nat.le_of_ble_eq_true rfl)) dX12_both_8 ⟨Nat.le_refl _, Nat.le_refl _⟩) hA hS (fun r_29 f_26 L_27 Q_28 H locs hq hP hS => ?_)
      obtain ⟨⟨hI, hk_f_26, eL9, eQ9⟩, hq, u_30⟩ := hq
      rw [eL9, eQ9] at hP; clear eL9 eQ9
      have hF : sgK WkX12_both_6 f f_26 := sgK.tr hF hk_f_26 (by decide +kernel)
      obtain ⟨v_31, ev_31⟩ : ∃ z : Int32, z = f_26 0 13 := ⟨_, rfl⟩
      replace hs := hs.trans (spl_e ev_10 (spl_e ev_13 (spl_e ev_16 (spl_e ev_21 (spl2_e u_30 (spl_e ev_31 rfl))))))
      have q_32 : 0 ≤ v_31.toInt ∧ v_31.toInt ≤ 120 := by rw [ev_31]; exact hI 0 13
      have q_33 : (f_26 0 13).toInt = v_31.toInt := (congrArg Int32.toInt (show f_26 0 13 = v_31 from ev_31.symm))
      have k_35 : (38 : Int32).toInt = 38 := by decide
      rcases hq with ⟨rfl, hq⟩ | ⟨rfl, hq⟩
      · skip
        have hc_36 := hq
        refine lv_if_eq (tgt := 36) hx hb dX12_both_11 (by decide) (fun c => absurd c (by decide)) (fun c => ?_)
        refine lv_aload_n hx hb dX12_both_14 rfl (lv_at hl 0 rfl) ?_
        have q_37 : (f_26 0 16).toInt = v_13.toInt := (congrArg Int32.toInt (show f_26 0 16 = v_13 from ((hk_f_26 0 16 (by decide)).trans ev_13.symm)))
        have q_38 : (f_26 0 15).toInt = v_16.toInt := (congrArg Int32.toInt (show f_26 0 15 = v_16 from ((hk_f_26 0 15 (by decide)).trans ev_16.symm)))
        refine sg_calli (va_runV (As := []) (rest := []) ⟨hx, hb, hml, hown, hts⟩ (kX12_compared_6 l D ca za h hh f_26 L Q hI (by omega) (by omega) H.size) (sl_c12_compared_4_0_0_90_12 hts ⟨Nat.le_of_ble_eq_true rfl, Nat.le_of_ble_eq_true rfl⟩) (sl_vM_0 hA hK hP hS hZ) rfl rfl hl.1 rfl (lv_room (Nat.le_of_ble_eq_true rfl)) dX12_both_15 ⟨Nat.le_refl _, Nat.le_refl _⟩) hA hS (fun r_44 f_41 L_42 Q_43 H locs hq hP hS => ?_)
        obtain ⟨⟨hI, hk_f_41, eL9, eQ9⟩, hq, p_45, p_46, p_47, u_48⟩ := hq
        rw [eL9, eQ9] at hP; clear eL9 eQ9
        have hF : sgK WkX12_both_6 f f_41 := sgK.tr hF hk_f_41 (by decide +kernel)
        obtain ⟨v_49, ev_49⟩ : ∃ z : Int32, z = f_41 0 13 := ⟨_, rfl⟩
        have q_50 : 0 ≤ v_49.toInt ∧ v_49.toInt ≤ 120 := by rw [ev_49]; exact hI 0 13
        have q_51 : (f_41 0 13).toInt = v_49.toInt := (congrArg Int32.toInt (show f_41 0 13 = v_49 from ev_49.symm))
        have q_52 : (f_41 0 16).toInt = v_13.toInt := (congrArg Int32.toInt (show f_41 0 16 = v_13 from ((hk_f_41 0 16 (by decide)).trans ((hk_f_26 0 16 (by decide)).trans ev_13.symm))))
        obtain ⟨v_53, ev_53⟩ : ∃ z : Int32, z = f_41 0 15 := ⟨_, rfl⟩
        replace hs := hs.trans ((if_pos rfl).trans (spl2_e u_48 (spl_e ev_49 (spl_e ev_53 rfl))))
        have q_54 : (-1) ≤ v_53.toInt ∧ v_53.toInt ≤ 120 := by rw [ev_53]; exact hI 0 15
        have q_55 : (f_41 0 15).toInt = v_53.toInt := (congrArg Int32.toInt (show f_41 0 15 = v_53 from ev_53.symm))
        refine lv_istore_n (lv' := [(2, .int r_44), (0, .ref (h 0)), (1, .int y1_5)]) hx hb dX12_both_18 rfl hl (by decide) rfl (fun ls hl => ?_)
        refine lv_iload_n hx hb dX12_both_19 rfl (lv_at hl 2 rfl) ?_
        refine lv_if_eq (tgt := 31) hx hb dX12_both_20 (by decide) (fun c => ?_) (fun c => ?_)
        · skip
          have c_57 : y1_5.toInt = 0 := (by first | exact (cm_eq1 ti_0 c) | (have z := Int32.toInt_inj.mpr c; have k1 : (0 : Int32).toInt = 0 := ti_0; omega))
          refine lv_iconst (v := 0) hx hb dX12_both_31 ic_0 ?_
          refine lv_istore_n (lv' := [(1, .int 0), (2, .int r_44), (0, .ref (h 0))]) hx hb dX12_both_32 rfl hl (by decide) rfl (fun ls hl => ?_)
          refine lv_goto (tgt := 5) hx hb dX12_both_33 (by decide) ?_
          exact ih_5 0 f_41 _ _ _ (hs.trans ((if_pos c_57).trans rfl)) (by have kc0 : (0 : Int32).toInt = 0 := ti_0; have zz0_13 : (f_41 0 13).toInt = v_49.toInt := (congrArg Int32.toInt (show f_41 0 13 = v_49 from ev_49.symm)); omega) (by have kc0 : (0 : Int32).toInt = 0 := ti_0; have zz0_13 : (f_41 0 13).toInt = v_49.toInt := (congrArg Int32.toInt (show f_41 0 13 = v_49 from ev_49.symm)); omega) (by have kc0 : (0 : Int32).toInt = 0 := ti_0; have zz0_16 : (f_41 0 16).toInt = v_13.toInt := (congrArg Int32.toInt (show f_41 0 16 = v_13 from ((hk_f_41 0 16 (by decide)).trans ((hk_f_26 0 16 (by decide)).trans ev_13.symm)))); omega) (by have kc0 : (0 : Int32).toInt = 0 := ti_0; have zz0_15 : (f_41 0 15).toInt = v_53.toInt := (congrArg Int32.toInt (show f_41 0 15 = v_53 from ev_53.symm)); have zz0_16 : (f_41 0 16).toInt = v_13.toInt := (congrArg Int32.toInt (show f_41 0 16 = v_13 from ((hk_f_41 0 16 (by decide)).trans ((hk_f_26 0 16 (by decide)).trans ev_13.symm)))); omega) hI hF hP hS (lv_sub hl [2, 0] rfl)
        · skip
          have c_58 : y1_5.toInt ≠ 0 := (by first | exact (cm_ne1 ti_0 c) | (have z := bn_ne c; have k1 : (0 : Int32).toInt = 0 := ti_0; omega))
          replace hs := hs.trans ((if_neg c_58).trans rfl)
          refine lv_iload_n hx hb dX12_both_23 rfl (lv_at hl 0 rfl) ?_
          refine lv_if_eq (tgt := 31) hx hb dX12_both_24 (by decide) (fun c => ?_) (fun c => ?_)
          · skip
            have c_59 : r_44.toInt = 0 := (by first | exact (cm_eq1 ti_0 c) | (have z := Int32.toInt_inj.mpr c; have k1 : (0 : Int32).toInt = 0 := ti_0; omega))
            refine lv_iconst (v := 0) hx hb dX12_both_31 ic_0 ?_
            refine lv_istore_n (lv' := [(1, .int 0), (2, .int r_44), (0, .ref (h 0))]) hx hb dX12_both_32 rfl hl (by decide) rfl (fun ls hl => ?_)
            refine lv_goto (tgt := 5) hx hb dX12_both_33 (by decide) ?_
            exact ih_5 0 f_41 _ _ _ (hs.trans ((if_pos c_59).trans rfl)) (by have kc0 : (0 : Int32).toInt = 0 := ti_0; have zz0_13 : (f_41 0 13).toInt = v_49.toInt := (congrArg Int32.toInt (show f_41 0 13 = v_49 from ev_49.symm)); omega) (by have kc0 : (0 : Int32).toInt = 0 := ti_0; have zz0_13 : (f_41 0 13).toInt = v_49.toInt := (congrArg Int32.toInt (show f_41 0 13 = v_49 from ev_49.symm)); omega) (by have kc0 : (0 : Int32).toInt = 0 := ti_0; have zz0_16 : (f_41 0 16).toInt = v_13.toInt := (congrArg Int32.toInt (show f_41 0 16 = v_13 from ((hk_f_41 0 16 (by decide)).trans ((hk_f_26 0 16 (by decide)).trans ev_13.symm)))); omega) (by have kc0 : (0 : Int32).toInt = 0 := ti_0; have zz0_15 : (f_41 0 15).toInt = v_53.toInt := (congrArg Int32.toInt (show f_41 0 15 = v_53 from ev_53.symm)); have zz0_16 : (f_41 0 16).toInt = v_13.toInt := (congrArg Int32.toInt (show f_41 0 16 = v_13 from ((hk_f_41 0 16 (by decide)).trans ((hk_f_26 0 16 (by decide)).trans ev_13.symm)))); omega) hI hF hP hS (lv_sub hl [2, 0] rfl)
          · skip
            have c_60 : r_44.toInt ≠ 0 := (by first | exact (cm_ne1 ti_0 c) | (have z := bn_ne c; have k1 : (0 : Int32).toInt = 0 := ti_0; omega))
            refine lv_iconst (v := 1) hx hb dX12_both_27 ic_1 ?_
            refine lv_goto (tgt := 32) hx hb dX12_both_28 (by decide) ?_
            refine lv_istore_n (lv' := [(1, .int 1), (2, .int r_44), (0, .ref (h 0))]) hx hb dX12_both_32 rfl hl (by decide) rfl (fun ls hl => ?_)
            refine lv_goto (tgt := 5) hx hb dX12_both_33 (by decide) ?_
            exact ih_5 1 f_41 _ _ _ (hs.trans ((if_neg c_60).trans rfl)) (by have kc0 : (1 : Int32).toInt = 1 := ti_1; have zz0_13 : (f_41 0 13).toInt = v_49.toInt := (congrArg Int32.toInt (show f_41 0 13 = v_49 from ev_49.symm)); omega) (by have kc0 : (1 : Int32).toInt = 1 := ti_1; have zz0_13 : (f_41 0 13).toInt = v_49.toInt := (congrArg Int32.toInt (show f_41 0 13 = v_49 from ev_49.symm)); omega) (by have kc0 : (1 : Int32).toInt = 1 := ti_1; have zz0_16 : (f_41 0 16).toInt = v_13.toInt := (congrArg Int32.toInt (show f_41 0 16 = v_13 from ((hk_f_41 0 16 (by decide)).trans ((hk_f_26 0 16 (by decide)).trans ev_13.symm)))); omega) (by have kc0 : (1 : Int32).toInt = 1 := ti_1; have zz0_15 : (f_41 0 15).toInt = v_53.toInt := (congrArg Int32.toInt (show f_41 0 15 = v_53 from ev_53.symm)); have zz0_16 : (f_41 0 16).toInt = v_13.toInt := (congrArg Int32.toInt (show f_41 0 16 = v_13 from ((hk_f_41 0 16 (by decide)).trans ((hk_f_26 0 16 (by decide)).trans ev_13.symm)))); omega) hI hF hP hS (lv_sub hl [2, 0] rfl)
      · skip
        have hc_36 := hq
        refine lv_if_eq (tgt := 36) hx hb dX12_both_11 (by decide) (fun c => ?_) (fun c => absurd c (by decide))
        refine lv_iload_n hx hb dX12_both_36 rfl (lv_at hl 1 rfl) ?_
        have q_62 : (f_26 0 16).toInt = v_13.toInt := (congrArg Int32.toInt (show f_26 0 16 = v_13 from ((hk_f_26 0 16 (by decide)).trans ev_13.symm)))
        have q_63 : (f_26 0 15).toInt = v_16.toInt := (congrArg Int32.toInt (show f_26 0 15 = v_16 from ((hk_f_26 0 15 (by decide)).trans ev_16.symm)))
        exact hret _ _ _ _ (y1_5) f_26 L Q dX12_both_37 hP hS ⟨⟨hI, hF, rfl, rfl⟩, trivial, (by omega), (by omega), (by omega), (Eq.trans (Eq.symm (hs.trans ((if_neg (by decide)).trans rfl))) hsp)⟩
  refine lv_aload_n hx hb dX12_both_0 rfl (lv_at hl 0 rfl) ?_
  have q_65 : (f 0 16).toInt = v_1.toInt := (congrArg Int32.toInt (show f 0 16 = v_1 from ev_1.symm))
  have q_66 : (f 0 15).toInt = v_3.toInt := (congrArg Int32.toInt (show f 0 15 = v_3 from ev_3.symm))
  have q_68 : (f 0 13).toInt = v_5.toInt := (congrArg Int32.toInt (show f 0 13 = v_5 from ev_5.symm))
  refine sg_calli (va_runV (As := []) (rest := []) ⟨hx, hb, hml, hown, hts⟩ (kX12_compared_6 l D ca za h hh f L Q hI (by omega) (by omega) H.size) (sl_c12_compared_4_0_0_90_12 hts ⟨Nat.le_of_ble_eq_true rfl, Nat.le_of_ble_eq_true rfl⟩) (sl_vM_0 hA hK hP hS hZ) rfl rfl hl.1 rfl (lv_room (Nat.le_of_ble_eq_true rfl)) dX12_both_1 ⟨Nat.le_refl _, Nat.le_refl _⟩) hA hS (fun r_72 f_69 L_70 Q_71 H locs hq hP hS => ?_)
  obtain ⟨⟨hI, hk_f_69, eL9, eQ9⟩, hq, p_73, p_74, p_75, u_76⟩ := hq
  rw [eL9, eQ9] at hP; clear eL9 eQ9
  have hF : sgK WkX12_both_6 f f_69 := sgK.tr hF hk_f_69 (by decide +kernel)
  obtain ⟨v_77, ev_77⟩ : ∃ z : Int32, z = f_69 0 13 := ⟨_, rfl⟩
  have q_78 : 0 ≤ v_77.toInt ∧ v_77.toInt ≤ 120 := by rw [ev_77]; exact hI 0 13
  have q_79 : (f_69 0 13).toInt = v_77.toInt := (congrArg Int32.toInt (show f_69 0 13 = v_77 from ev_77.symm))
  have q_80 : (f_69 0 16).toInt = v_1.toInt := (congrArg Int32.toInt (show f_69 0 16 = v_1 from ((hk_f_69 0 16 (by decide)).trans ev_1.symm)))
  obtain ⟨v_81, ev_81⟩ : ∃ z : Int32, z = f_69 0 15 := ⟨_, rfl⟩
  have q_82 : (-1) ≤ v_81.toInt ∧ v_81.toInt ≤ 120 := by rw [ev_81]; exact hI 0 15
  have q_83 : (f_69 0 15).toInt = v_81.toInt := (congrArg Int32.toInt (show f_69 0 15 = v_81 from ev_81.symm))
  refine lv_istore_n (lv' := [(1, .int r_72), (0, .ref (h 0))]) hx hb dX12_both_4 rfl hl (by decide) rfl (fun ls hl => ?_)
  exact loop_5 121 r_72 f_69 _ _ _ (hs.trans ((spl_e ev_1 (spl_e ev_3 (spl_e ev_5 (spl2_e u_76 (spl_e ev_77 (spl_e ev_81 rfl)))))))) (by have zz0_13 : (f_69 0 13).toInt = v_77.toInt := (congrArg Int32.toInt (show f_69 0 13 = v_77 from ev_77.symm)); omega) (by have zz0_13 : (f_69 0 13).toInt = v_77.toInt := (congrArg Int32.toInt (show f_69 0 13 = v_77 from ev_77.symm)); omega) (by have zz0_16 : (f_69 0 16).toInt = v_1.toInt := (congrArg Int32.toInt (show f_69 0 16 = v_1 from ((hk_f_69 0 16 (by decide)).trans ev_1.symm))); omega) (by have zz0_15 : (f_69 0 15).toInt = v_81.toInt := (congrArg Int32.toInt (show f_69 0 15 = v_81 from ev_81.symm)); have zz0_16 : (f_69 0 16).toInt = v_1.toInt := (congrArg Int32.toInt (show f_69 0 16 = v_1 from ((hk_f_69 0 16 (by decide)).trans ev_1.symm))); omega) hI hF hP hS (lv_sub hl [1, 0] rfl)

abbrev WkX12_takes_124 : List (Nat × Nat × Option Nat) := [(0, 0, some 13)]
set_option maxHeartbeats 4000000 in
set_option maxRecDepth 100000 in
theorem kX12_takes_124 (l : Launch) (D : va_G) (ca : Nat → ClassId) (za h : Nat → Nat) (hh : sgH 26 h) (f : sg_F) (L : sg_L) (Q : sg_Q) (hI : sgI loM hiM f) (sz : Nat) : Met l yX12_takes gwX12_takes { frames := 1, cells := 0, slots := 0, locals := 20 } (sgP D vwCl (tyX ca) 26 h (eM ca h) zcM za f L Q sz [.ref (h 0), .int 124]) (sgQi D vwCl 26 h (eM ca h) sz (fun r f1 L1 Q1 => ((sgI loM hiM f1 ∧ sgK WkX12_takes_124 f f1 ∧ L1 = L ∧ Q1 = Q) ∧ ((r = 1 ∧ ((f 0 15).toInt < 0 ∧ (f 0 13).toInt < (f 0 14).toInt ∧ (f1 0 13).toInt = (f 0 13).toInt + 1)) ∨ (r = 0 ∧ ((f1 0 13).toInt = (f 0 13).toInt))) ∧ (r, f1) = sX12_takes_124 f L))) 0 0 (sgA 26 h sz) := by
  refine sg_ofWz (cc := cX12_takes) (maxL := 2) RX12 (by decide) rfl rfl (Nat.le_of_ble_eq_true rfl) ?_
  intro p e s m below meth cd Qz ls hx hb hml hown hts hK hZ hP hS hl hret
  have hA := sgY.self (n := 26) (h := h) (sz := s.heap.size)
  have hl : lv_has ls 2 [(0, .ref (h 0)), (1, .int 124)] := hl
  obtain ⟨H, hH⟩ : ∃ z : Heap, z = s.heap := ⟨_, rfl⟩
  obtain ⟨locs, hlo⟩ : ∃ z : List Loc, z = [] := ⟨_, rfl⟩
  have hP : va_P D vwCl (sgw 26 h (eM ca h) f L Q) H := by rw [hH]; exact hP
  have hS : va_S (sgA 26 h s.heap.size) s.heap H locs := by rw [hH, hlo]; exact hS
  suffices hgo : W p l e ({ frames := 1, cells := 0, slots := 0, locals := 20 }) s m ([.ref (h 0), .int 124] : List Value).toArray below meth cd H locs 0 0 Qz (F0 m 0 ls []) by rw [hH, hlo] at hgo; exact hgo
  clear hH hlo
  obtain ⟨sp, hsp⟩ : ∃ z : Int32 × sg_F, z = sX12_takes_124 f L := ⟨_, rfl⟩
  have hs : sp = sX12_takes_124 f L := hsp
  obtain ⟨v_1, ev_1⟩ : ∃ z : Int32, z = f 0 15 := ⟨_, rfl⟩
  have q_2 : (-1) ≤ v_1.toInt ∧ v_1.toInt ≤ 120 := by rw [ev_1]; exact hI 0 15
  obtain ⟨v_3, ev_3⟩ : ∃ z : Int32, z = f 0 13 := ⟨_, rfl⟩
  have q_4 : 0 ≤ v_3.toInt ∧ v_3.toInt ≤ 120 := by rw [ev_3]; exact hI 0 13
  obtain ⟨v_5, ev_5⟩ : ∃ z : Int32, z = f 0 14 := ⟨_, rfl⟩
  replace hs := hs.trans (spl_e ev_1 (spl_e ev_3 (spl_e ev_5 rfl)))
  have q_6 : 0 ≤ v_5.toInt ∧ v_5.toInt ≤ 120 := by rw [ev_5]; exact hI 0 14
  have o_7 : (f 0 15).toInt = v_1.toInt := (congrArg Int32.toInt (show f 0 15 = v_1 from ev_1.symm))
  have o_8 : (f 0 13).toInt = v_3.toInt := (congrArg Int32.toInt (show f 0 13 = v_3 from ev_3.symm))
  have o_9 : (f 0 14).toInt = v_5.toInt := (congrArg Int32.toInt (show f 0 14 = v_5 from ev_5.symm))
  have hF : sgK WkX12_takes_124 f f := sgK.rf
  refine lv_aload_n hx hb dX12_takes_0 rfl (lv_at hl 0 rfl) ?_
  refine sl_gM_0_15_12 (v := v_1) hx hb hts hown hK hP (show f 0 15 = v_1 from ev_1.symm) dX12_takes_1 ?_
  refine lv_if_ge (tgt := 15) hx hb dX12_takes_4 (by decide) (fun c => ?_) (fun c => ?_)
  · skip
    have c_10 : 0 ≤ v_1.toInt := (by first | exact (cm_le0 ti_0 c) | (have z := bn_le c; have k1 : (0 : Int32).toInt = 0 := ti_0; omega))
    refine lv_iconst (v := 0) hx hb dX12_takes_15 ic_0 ?_
    have q_12 : (f 0 13).toInt = v_3.toInt := (congrArg Int32.toInt (show f 0 13 = v_3 from ev_3.symm))
    have k99 : (0 : Int32).toInt = 0 := ti_0
    exact hret _ _ _ _ (0) f L Q dX12_takes_16 (by decide) hP hS ⟨⟨hI, hF, rfl, rfl⟩, Or.inr (⟨rfl, by omega⟩), (Eq.trans (Eq.symm (hs.trans ((if_neg (Int.not_lt.mpr c_10)).trans rfl))) hsp)⟩
  · skip
    have c_11 : v_1.toInt < 0 := (by first | exact (cm_nle0 ti_0 c) | (have z := bn_nle c; have k1 : (0 : Int32).toInt = 0 := ti_0; omega))
    refine lv_aload_n hx hb dX12_takes_7 rfl (lv_at hl 0 rfl) ?_
    have q_14 : (f 0 13).toInt = v_3.toInt := (congrArg Int32.toInt (show f 0 13 = v_3 from ev_3.symm))
    have q_15 : (f 0 14).toInt = v_5.toInt := (congrArg Int32.toInt (show f 0 14 = v_5 from ev_5.symm))
    refine sg_calli (va_runV (As := []) (rest := []) ⟨hx, hb, hml, hown, hts⟩ (kX12_byteAt l D ca za h hh f L Q hI H.size) (sl_c12_byteAt_0_0_0_0_12 hts ⟨Nat.le_of_ble_eq_true rfl, Nat.le_of_ble_eq_true rfl⟩) (sl_vM_0 hA hK hP hS hZ) rfl rfl hl.1 rfl (lv_room (Nat.le_of_ble_eq_true rfl)) dX12_takes_8 ⟨Nat.le_refl _, Nat.le_refl _⟩) hA hS (fun r_19 f_16 L_17 Q_18 H locs hq hP hS => ?_)
    obtain ⟨⟨ef9, eL9, eQ9⟩, hq, p_20, u_21⟩ := hq
    replace hs := hs.trans ((if_pos c_11).trans (spl_e u_21 rfl))
    rw [ef9, eL9, eQ9] at hP; clear ef9 eL9 eQ9
    refine lv_iload_n hx hb dX12_takes_11 rfl (lv_at hl 1 rfl) ?_
    refine lv_icmp_eq (tgt := 17) hx hb dX12_takes_12 (by decide) (fun c => ?_) (fun c => ?_)
    · skip
      have c_22 : r_19.toInt = 124 := (by first | exact (cm_eq1 ti_124 c) | (have z := Int32.toInt_inj.mpr c; have k1 : (124 : Int32).toInt = 124 := ti_124; omega))
      refine lv_aload_n hx hb dX12_takes_17 rfl (lv_at hl 0 rfl) ?_
      refine lv_dup hx hb dX12_takes_18 rfl ?_
      refine sl_gM_0_13_12 (v := v_3) hx hb hts hown hK hP (show f 0 13 = v_3 from ev_3.symm) dX12_takes_19 ?_
      refine lv_iconst (v := 1) hx hb dX12_takes_22 ic_1 ?_
      refine lv_iadd hx hb dX12_takes_23 ?_
      refine lv_topi (fun v_24 ev_24 => ?_)
      have q_25 : v_24.toInt = v_3.toInt + 1 := by rw [ev_24]; first | exact cm_add ti_1 (by omega) (by omega) | (have k1 : (1 : Int32).toInt = 1 := ti_1; exact (bn_addI (by omega) (by omega)).trans (by omega))
      refine sl_pM_0_13_12 (x := v_24) hx hb hts hown hh hA hK hP hS dX12_takes_24 (fun f_26 H locs ef_26 hP hS => ?_)
      have hI : sgI loM hiM f_26 := by rw [ef_26]; exact sgI.put hI 0 13 (show 0 ≤ (v_24 : Int32).toInt ∧ (v_24 : Int32).toInt ≤ 120 from ⟨by omega, by omega⟩)
      have hF : sgK WkX12_takes_124 f f_26 := sgK.put hF ef_26 (by rfl)
      refine lv_iconst (v := 1) hx hb dX12_takes_27 ic_1 ?_
      have q_27 : (f_26 0 13).toInt = v_24.toInt := (congrArg Int32.toInt (show f_26 0 13 = v_24 from (by rw [ef_26, sg_up_s, sgu_s])))
      have k99 : (1 : Int32).toInt = 1 := ti_1
      exact hret _ _ _ _ (1) f_26 L Q dX12_takes_28 (by decide) hP hS ⟨⟨hI, hF, rfl, rfl⟩, Or.inl ⟨rfl, by omega⟩, (Eq.trans (Eq.symm (hs.trans ((if_pos c_22).trans (spl_e ev_24 (spl_e ef_26 rfl))))) hsp)⟩
    · skip
      have c_23 : r_19.toInt ≠ 124 := (by first | exact (cm_ne1 ti_124 c) | (have z := bn_ne c; have k1 : (124 : Int32).toInt = 124 := ti_124; omega))
      refine lv_iconst (v := 0) hx hb dX12_takes_15 ic_0 ?_
      have k99 : (0 : Int32).toInt = 0 := ti_0
      exact hret _ _ _ _ (0) f L Q dX12_takes_16 (by decide) hP hS ⟨⟨hI, hF, rfl, rfl⟩, Or.inr (⟨rfl, by omega⟩), (Eq.trans (Eq.symm (hs.trans ((if_neg c_23).trans rfl))) hsp)⟩

abbrev WkX12_either_6 : List (Nat × Nat × Option Nat) := [(0, 0, some 13), (0, 0, some 15)]
set_option maxHeartbeats 4000000 in
set_option maxRecDepth 100000 in
theorem kX12_either_6 (l : Launch) (D : va_G) (ca : Nat → ClassId) (za h : Nat → Nat) (hh : sgH 26 h) (f : sg_F) (L : sg_L) (Q : sg_Q) (hI : sgI loM hiM f) (p0 : 6 ≤ (f 0 16).toInt) (p1 : 0 ≤ (f 0 15).toInt ∨ (f 0 16).toInt = 6) (sz : Nat) : Met l yX12_either gwX12_either { frames := 6, cells := 0, slots := 0, locals := 135 } (sgP D vwCl (tyX ca) 26 h (eM ca h) zcM za f L Q sz [.ref (h 0)]) (sgQi D vwCl 26 h (eM ca h) sz (fun r f1 L1 Q1 => ((sgI loM hiM f1 ∧ sgK WkX12_either_6 f f1 ∧ L1 = L ∧ Q1 = Q) ∧ True ∧ ((f 0 13).toInt ≤ (f1 0 13).toInt) ∧ (6 ≤ (f1 0 16).toInt) ∧ (0 ≤ (f1 0 15).toInt ∨ (f1 0 16).toInt = 6) ∧ (r, f1) = sX12_either_6 f L))) 0 0 (sgA 26 h sz) := by
  refine sg_ofWi (cc := cX12_either) (maxL := 3) RX12 (by decide) rfl rfl (Nat.le_of_ble_eq_true rfl) ?_
  intro p e s m below meth cd Qz ls hx hb hml hown hts hK hZ hP hS hl hret
  have hA := sgY.self (n := 26) (h := h) (sz := s.heap.size)
  have hl : lv_has ls 3 [(0, .ref (h 0))] := hl
  obtain ⟨H, hH⟩ : ∃ z : Heap, z = s.heap := ⟨_, rfl⟩
  obtain ⟨locs, hlo⟩ : ∃ z : List Loc, z = [] := ⟨_, rfl⟩
  have hP : va_P D vwCl (sgw 26 h (eM ca h) f L Q) H := by rw [hH]; exact hP
  have hS : va_S (sgA 26 h s.heap.size) s.heap H locs := by rw [hH, hlo]; exact hS
  suffices hgo : W p l e ({ frames := 6, cells := 0, slots := 0, locals := 135 }) s m ([.ref (h 0)] : List Value).toArray below meth cd H locs 0 0 Qz (F0 m 0 ls []) by rw [hH, hlo] at hgo; exact hgo
  clear hH hlo
  obtain ⟨sp, hsp⟩ : ∃ z : Int32 × sg_F, z = sX12_either_6 f L := ⟨_, rfl⟩
  have hs : sp = sX12_either_6 f L := hsp
  obtain ⟨v_1, ev_1⟩ : ∃ z : Int32, z = f 0 16 := ⟨_, rfl⟩
  have q_2 : 0 ≤ v_1.toInt ∧ v_1.toInt ≤ 6 := by rw [ev_1]; exact hI 0 16
  obtain ⟨v_3, ev_3⟩ : ∃ z : Int32, z = f 0 15 := ⟨_, rfl⟩
  have q_4 : (-1) ≤ v_3.toInt ∧ v_3.toInt ≤ 120 := by rw [ev_3]; exact hI 0 15
  obtain ⟨v_5, ev_5⟩ : ∃ z : Int32, z = f 0 13 := ⟨_, rfl⟩
  have q_6 : 0 ≤ v_5.toInt ∧ v_5.toInt ≤ 120 := by rw [ev_5]; exact hI 0 13
  have o_7 : (f 0 16).toInt = v_1.toInt := (congrArg Int32.toInt (show f 0 16 = v_1 from ev_1.symm))
  have o_8 : (f 0 15).toInt = v_3.toInt := (congrArg Int32.toInt (show f 0 15 = v_3 from ev_3.symm))
  have o_9 : (f 0 13).toInt = v_5.toInt := (congrArg Int32.toInt (show f 0 13 = v_5 from ev_5.symm))
  have hF : sgK WkX12_either_6 f f := sgK.rf
  have loop_5 : ∀ (n_5 : Nat) (y1_5 : Int32) (fp_5 : sg_F) (H : Heap) (locs : List Loc) (ls : Array Slot), sp = sX12_either_6_l5 n_5 y1_5 fp_5 L → 120 - (fp_5 0 13).toInt < (n_5 : Int) → (f 0 13).toInt ≤ (fp_5 0 13).toInt → 6 ≤ (fp_5 0 16).toInt → 0 ≤ (fp_5 0 15).toInt ∨ (fp_5 0 16).toInt = 6 → sgI loM hiM fp_5 → sgK WkX12_either_6 f fp_5 → va_P D vwCl (sgw 26 h (eM ca h) fp_5 L Q) H → va_S (sgA 26 h s.heap.size) s.heap H locs → lv_has ls 3 [(0, .ref (h 0)), (1, .int y1_5)] → W p l e ({ frames := 6, cells := 0, slots := 0, locals := 135 }) s m ([.ref (h 0)] : List Value).toArray below meth cd H locs 0 0 Qz (F0 m 5 ls []) := by
    intro n_5
    induction n_5 with
    | zero => intro y1_5 fp_5 H locs ls hs hm_5 hg0_5 hg1_5 hg2_5 hI hF hP hS hl; have zb := (show 0 ≤ (fp_5 0 13).toInt ∧ (fp_5 0 13).toInt ≤ 120 from hI 0 13); exact absurd hm_5 (by omega)
    | succ n_5 ih_5 =>
      intro y1_5 fp_5 H locs ls hs hm_5 hg0_5 hg1_5 hg2_5 hI hF hP hS hl
      have hs : sp = sX12_either_6_h5 (sX12_either_6_l5 n_5) y1_5 fp_5 L := hs
      obtain ⟨v_10, ev_10⟩ : ∃ z : Int32, z = fp_5 0 13 := ⟨_, rfl⟩
      have q_11 : 0 ≤ v_10.toInt ∧ v_10.toInt ≤ 120 := by rw [ev_10]; exact hI 0 13
      have q_12 : (fp_5 0 13).toInt = v_10.toInt := by rw [ev_10]
      obtain ⟨v_13, ev_13⟩ : ∃ z : Int32, z = fp_5 0 16 := ⟨_, rfl⟩
      have q_14 : 0 ≤ v_13.toInt ∧ v_13.toInt ≤ 6 := by rw [ev_13]; exact hI 0 16
      have q_15 : (fp_5 0 16).toInt = v_13.toInt := by rw [ev_13]
      obtain ⟨v_16, ev_16⟩ : ∃ z : Int32, z = fp_5 0 15 := ⟨_, rfl⟩
      have q_17 : (-1) ≤ v_16.toInt ∧ v_16.toInt ≤ 120 := by rw [ev_16]; exact hI 0 15
      have q_18 : (fp_5 0 15).toInt = v_16.toInt := by rw [ev_16]
      refine lv_aload_n hx hb dX12_either_5 rfl (lv_at hl 0 rfl) ?_
      refine lv_bipush (v := 124) hx hb dX12_either_6 bp_124 ?_
      obtain ⟨v_21, ev_21⟩ : ∃ z : Int32, z = fp_5 0 14 := ⟨_, rfl⟩
      have q_22 : 0 ≤ v_21.toInt ∧ v_21.toInt ≤ 120 := by rw [ev_21]; exact hI 0 14
      have q_23 : (fp_5 0 14).toInt = v_21.toInt := (congrArg Int32.toInt (show fp_5 0 14 = v_21 from ev_21.symm))
      refine sg_calli (va_runV (As := [.int 124]) (rest := []) ⟨hx, hb, hml, hown, hts⟩ (kX12_takes_124 l D ca za h hh fp_5 L Q hI H.size) (sl_c12_takes_1_0_0_20_12 hts ⟨Nat.le_of_ble_eq_true rfl, Nat.le_of_ble_eq_true rfl⟩) (sl_vM_0 hA hK hP hS hZ) rfl rfl hl.1 rfl (lv_room (Nat.le_of_ble_eq_true rfl)) dX12_either_8 ⟨Nat.le_refl _, Nat.le_refl _⟩) hA hS (fun r_29 f_26 L_27 Q_28 H locs hq hP hS => ?_)
      obtain ⟨⟨hI, hk_f_26, eL9, eQ9⟩, hq, u_30⟩ := hq
      rw [eL9, eQ9] at hP; clear eL9 eQ9
      have hF : sgK WkX12_either_6 f f_26 := sgK.tr hF hk_f_26 (by decide +kernel)
      obtain ⟨v_31, ev_31⟩ : ∃ z : Int32, z = f_26 0 13 := ⟨_, rfl⟩
      replace hs := hs.trans (spl_e ev_10 (spl_e ev_13 (spl_e ev_16 (spl_e ev_21 (spl2_e u_30 (spl_e ev_31 rfl))))))
      have q_32 : 0 ≤ v_31.toInt ∧ v_31.toInt ≤ 120 := by rw [ev_31]; exact hI 0 13
      have q_33 : (f_26 0 13).toInt = v_31.toInt := (congrArg Int32.toInt (show f_26 0 13 = v_31 from ev_31.symm))
      have k_35 : (124 : Int32).toInt = 124 := by decide
      rcases hq with ⟨rfl, hq⟩ | ⟨rfl, hq⟩
      · skip
        have hc_36 := hq
        refine lv_if_eq (tgt := 36) hx hb dX12_either_11 (by decide) (fun c => absurd c (by decide)) (fun c => ?_)
        refine lv_aload_n hx hb dX12_either_14 rfl (lv_at hl 0 rfl) ?_
        have q_37 : (f_26 0 16).toInt = v_13.toInt := (congrArg Int32.toInt (show f_26 0 16 = v_13 from ((hk_f_26 0 16 (by decide)).trans ev_13.symm)))
        have q_38 : (f_26 0 15).toInt = v_16.toInt := (congrArg Int32.toInt (show f_26 0 15 = v_16 from ((hk_f_26 0 15 (by decide)).trans ev_16.symm)))
        refine sg_calli (va_runV (As := []) (rest := []) ⟨hx, hb, hml, hown, hts⟩ (kX12_both_6 l D ca za h hh f_26 L Q hI (by omega) (by omega) H.size) (sl_c12_both_5_0_0_113_12 hts ⟨Nat.le_of_ble_eq_true rfl, Nat.le_of_ble_eq_true rfl⟩) (sl_vM_0 hA hK hP hS hZ) rfl rfl hl.1 rfl (lv_room (Nat.le_of_ble_eq_true rfl)) dX12_either_15 ⟨Nat.le_refl _, Nat.le_refl _⟩) hA hS (fun r_44 f_41 L_42 Q_43 H locs hq hP hS => ?_)
        obtain ⟨⟨hI, hk_f_41, eL9, eQ9⟩, hq, p_45, p_46, p_47, u_48⟩ := hq
        rw [eL9, eQ9] at hP; clear eL9 eQ9
        have hF : sgK WkX12_either_6 f f_41 := sgK.tr hF hk_f_41 (by decide +kernel)
        obtain ⟨v_49, ev_49⟩ : ∃ z : Int32, z = f_41 0 13 := ⟨_, rfl⟩
        have q_50 : 0 ≤ v_49.toInt ∧ v_49.toInt ≤ 120 := by rw [ev_49]; exact hI 0 13
        have q_51 : (f_41 0 13).toInt = v_49.toInt := (congrArg Int32.toInt (show f_41 0 13 = v_49 from ev_49.symm))
        have q_52 : (f_41 0 16).toInt = v_13.toInt := (congrArg Int32.toInt (show f_41 0 16 = v_13 from ((hk_f_41 0 16 (by decide)).trans ((hk_f_26 0 16 (by decide)).trans ev_13.symm))))
        obtain ⟨v_53, ev_53⟩ : ∃ z : Int32, z = f_41 0 15 := ⟨_, rfl⟩
        replace hs := hs.trans ((if_pos rfl).trans (spl2_e u_48 (spl_e ev_49 (spl_e ev_53 rfl))))
        have q_54 : (-1) ≤ v_53.toInt ∧ v_53.toInt ≤ 120 := by rw [ev_53]; exact hI 0 15
        have q_55 : (f_41 0 15).toInt = v_53.toInt := (congrArg Int32.toInt (show f_41 0 15 = v_53 from ev_53.symm))
        refine lv_istore_n (lv' := [(2, .int r_44), (0, .ref (h 0)), (1, .int y1_5)]) hx hb dX12_either_18 rfl hl (by decide) rfl (fun ls hl => ?_)
        refine lv_iload_n hx hb dX12_either_19 rfl (lv_at hl 2 rfl) ?_
        refine lv_if_ne (tgt := 27) hx hb dX12_either_20 (by decide) (fun c => ?_) (fun c => ?_)
        · skip
          have c_57 : y1_5.toInt ≠ 0 := (by first | exact (cm_ne1 ti_0 c) | (have z := bn_ne c; have k1 : (0 : Int32).toInt = 0 := ti_0; omega))
          refine lv_iconst (v := 1) hx hb dX12_either_27 ic_1 ?_
          refine lv_goto (tgt := 32) hx hb dX12_either_28 (by decide) ?_
          refine lv_istore_n (lv' := [(1, .int 1), (2, .int r_44), (0, .ref (h 0))]) hx hb dX12_either_32 rfl hl (by decide) rfl (fun ls hl => ?_)
          refine lv_goto (tgt := 5) hx hb dX12_either_33 (by decide) ?_
          exact ih_5 1 f_41 _ _ _ (hs.trans ((if_neg c_57).trans rfl)) (by have kc0 : (1 : Int32).toInt = 1 := ti_1; have zz0_13 : (f_41 0 13).toInt = v_49.toInt := (congrArg Int32.toInt (show f_41 0 13 = v_49 from ev_49.symm)); omega) (by have kc0 : (1 : Int32).toInt = 1 := ti_1; have zz0_13 : (f_41 0 13).toInt = v_49.toInt := (congrArg Int32.toInt (show f_41 0 13 = v_49 from ev_49.symm)); omega) (by have kc0 : (1 : Int32).toInt = 1 := ti_1; have zz0_16 : (f_41 0 16).toInt = v_13.toInt := (congrArg Int32.toInt (show f_41 0 16 = v_13 from ((hk_f_41 0 16 (by decide)).trans ((hk_f_26 0 16 (by decide)).trans ev_13.symm)))); omega) (by have kc0 : (1 : Int32).toInt = 1 := ti_1; have zz0_15 : (f_41 0 15).toInt = v_53.toInt := (congrArg Int32.toInt (show f_41 0 15 = v_53 from ev_53.symm)); have zz0_16 : (f_41 0 16).toInt = v_13.toInt := (congrArg Int32.toInt (show f_41 0 16 = v_13 from ((hk_f_41 0 16 (by decide)).trans ((hk_f_26 0 16 (by decide)).trans ev_13.symm)))); omega) hI hF hP hS (lv_sub hl [2, 0] rfl)
        · skip
          have c_58 : y1_5.toInt = 0 := (by first | exact (cm_eq1 ti_0 c) | (have z := Int32.toInt_inj.mpr c; have k1 : (0 : Int32).toInt = 0 := ti_0; omega))
          replace hs := hs.trans ((if_pos c_58).trans rfl)
          refine lv_iload_n hx hb dX12_either_23 rfl (lv_at hl 0 rfl) ?_
          refine lv_if_eq (tgt := 31) hx hb dX12_either_24 (by decide) (fun c => ?_) (fun c => ?_)
          · skip
            have c_59 : r_44.toInt = 0 := (by first | exact (cm_eq1 ti_0 c) | (have z := Int32.toInt_inj.mpr c; have k1 : (0 : Int32).toInt = 0 := ti_0; omega))
            refine lv_iconst (v := 0) hx hb dX12_either_31 ic_0 ?_
            refine lv_istore_n (lv' := [(1, .int 0), (2, .int r_44), (0, .ref (h 0))]) hx hb dX12_either_32 rfl hl (by decide) rfl (fun ls hl => ?_)
            refine lv_goto (tgt := 5) hx hb dX12_either_33 (by decide) ?_
            exact ih_5 0 f_41 _ _ _ (hs.trans ((if_pos c_59).trans rfl)) (by have kc0 : (0 : Int32).toInt = 0 := ti_0; have zz0_13 : (f_41 0 13).toInt = v_49.toInt := (congrArg Int32.toInt (show f_41 0 13 = v_49 from ev_49.symm)); omega) (by have kc0 : (0 : Int32).toInt = 0 := ti_0; have zz0_13 : (f_41 0 13).toInt = v_49.toInt := (congrArg Int32.toInt (show f_41 0 13 = v_49 from ev_49.symm)); omega) (by have kc0 : (0 : Int32).toInt = 0 := ti_0; have zz0_16 : (f_41 0 16).toInt = v_13.toInt := (congrArg Int32.toInt (show f_41 0 16 = v_13 from ((hk_f_41 0 16 (by decide)).trans ((hk_f_26 0 16 (by decide)).trans ev_13.symm)))); omega) (by have kc0 : (0 : Int32).toInt = 0 := ti_0; have zz0_15 : (f_41 0 15).toInt = v_53.toInt := (congrArg Int32.toInt (show f_41 0 15 = v_53 from ev_53.symm)); have zz0_16 : (f_41 0 16).toInt = v_13.toInt := (congrArg Int32.toInt (show f_41 0 16 = v_13 from ((hk_f_41 0 16 (by decide)).trans ((hk_f_26 0 16 (by decide)).trans ev_13.symm)))); omega) hI hF hP hS (lv_sub hl [2, 0] rfl)
          · skip
            have c_60 : r_44.toInt ≠ 0 := (by first | exact (cm_ne1 ti_0 c) | (have z := bn_ne c; have k1 : (0 : Int32).toInt = 0 := ti_0; omega))
            refine lv_iconst (v := 1) hx hb dX12_either_27 ic_1 ?_
            refine lv_goto (tgt := 32) hx hb dX12_either_28 (by decide) ?_
            refine lv_istore_n (lv' := [(1, .int 1), (2, .int r_44), (0, .ref (h 0))]) hx hb dX12_either_32 rfl hl (by decide) rfl (fun ls hl => ?_)
            refine lv_goto (tgt := 5) hx hb dX12_either_33 (by decide) ?_
            exact ih_5 1 f_41 _ _ _ (hs.trans ((if_neg c_60).trans rfl)) (by have kc0 : (1 : Int32).toInt = 1 := ti_1; have zz0_13 : (f_41 0 13).toInt = v_49.toInt := (congrArg Int32.toInt (show f_41 0 13 = v_49 from ev_49.symm)); omega) (by have kc0 : (1 : Int32).toInt = 1 := ti_1; have zz0_13 : (f_41 0 13).toInt = v_49.toInt := (congrArg Int32.toInt (show f_41 0 13 = v_49 from ev_49.symm)); omega) (by have kc0 : (1 : Int32).toInt = 1 := ti_1; have zz0_16 : (f_41 0 16).toInt = v_13.toInt := (congrArg Int32.toInt (show f_41 0 16 = v_13 from ((hk_f_41 0 16 (by decide)).trans ((hk_f_26 0 16 (by decide)).trans ev_13.symm)))); omega) (by have kc0 : (1 : Int32).toInt = 1 := ti_1; have zz0_15 : (f_41 0 15).toInt = v_53.toInt := (congrArg Int32.toInt (show f_41 0 15 = v_53 from ev_53.symm)); have zz0_16 : (f_41 0 16).toInt = v_13.toInt := (congrArg Int32.toInt (show f_41 0 16 = v_13 from ((hk_f_41 0 16 (by decide)).trans ((hk_f_26 0 16 (by decide)).trans ev_13.symm)))); omega) hI hF hP hS (lv_sub hl [2, 0] rfl)
      · skip
        have hc_36 := hq
        refine lv_if_eq (tgt := 36) hx hb dX12_either_11 (by decide) (fun c => ?_) (fun c => absurd c (by decide))
        refine lv_iload_n hx hb dX12_either_36 rfl (lv_at hl 1 rfl) ?_
        have q_62 : (f_26 0 16).toInt = v_13.toInt := (congrArg Int32.toInt (show f_26 0 16 = v_13 from ((hk_f_26 0 16 (by decide)).trans ev_13.symm)))
        have q_63 : (f_26 0 15).toInt = v_16.toInt := (congrArg Int32.toInt (show f_26 0 15 = v_16 from ((hk_f_26 0 15 (by decide)).trans ev_16.symm)))
        exact hret _ _ _ _ (y1_5) f_26 L Q dX12_either_37 hP hS ⟨⟨hI, hF, rfl, rfl⟩, trivial, (by omega), (by omega), (by omega), (Eq.trans (Eq.symm (hs.trans ((if_neg (by decide)).trans rfl))) hsp)⟩
  refine lv_aload_n hx hb dX12_either_0 rfl (lv_at hl 0 rfl) ?_
  have q_65 : (f 0 16).toInt = v_1.toInt := (congrArg Int32.toInt (show f 0 16 = v_1 from ev_1.symm))
  have q_66 : (f 0 15).toInt = v_3.toInt := (congrArg Int32.toInt (show f 0 15 = v_3 from ev_3.symm))
  have q_68 : (f 0 13).toInt = v_5.toInt := (congrArg Int32.toInt (show f 0 13 = v_5 from ev_5.symm))
  refine sg_calli (va_runV (As := []) (rest := []) ⟨hx, hb, hml, hown, hts⟩ (kX12_both_6 l D ca za h hh f L Q hI (by omega) (by omega) H.size) (sl_c12_both_5_0_0_113_12 hts ⟨Nat.le_of_ble_eq_true rfl, Nat.le_of_ble_eq_true rfl⟩) (sl_vM_0 hA hK hP hS hZ) rfl rfl hl.1 rfl (lv_room (Nat.le_of_ble_eq_true rfl)) dX12_either_1 ⟨Nat.le_refl _, Nat.le_refl _⟩) hA hS (fun r_72 f_69 L_70 Q_71 H locs hq hP hS => ?_)
  obtain ⟨⟨hI, hk_f_69, eL9, eQ9⟩, hq, p_73, p_74, p_75, u_76⟩ := hq
  rw [eL9, eQ9] at hP; clear eL9 eQ9
  have hF : sgK WkX12_either_6 f f_69 := sgK.tr hF hk_f_69 (by decide +kernel)
  obtain ⟨v_77, ev_77⟩ : ∃ z : Int32, z = f_69 0 13 := ⟨_, rfl⟩
  have q_78 : 0 ≤ v_77.toInt ∧ v_77.toInt ≤ 120 := by rw [ev_77]; exact hI 0 13
  have q_79 : (f_69 0 13).toInt = v_77.toInt := (congrArg Int32.toInt (show f_69 0 13 = v_77 from ev_77.symm))
  have q_80 : (f_69 0 16).toInt = v_1.toInt := (congrArg Int32.toInt (show f_69 0 16 = v_1 from ((hk_f_69 0 16 (by decide)).trans ev_1.symm)))
  obtain ⟨v_81, ev_81⟩ : ∃ z : Int32, z = f_69 0 15 := ⟨_, rfl⟩
  have q_82 : (-1) ≤ v_81.toInt ∧ v_81.toInt ≤ 120 := by rw [ev_81]; exact hI 0 15
  have q_83 : (f_69 0 15).toInt = v_81.toInt := (congrArg Int32.toInt (show f_69 0 15 = v_81 from ev_81.symm))
  refine lv_istore_n (lv' := [(1, .int r_72), (0, .ref (h 0))]) hx hb dX12_either_4 rfl hl (by decide) rfl (fun ls hl => ?_)
  exact loop_5 121 r_72 f_69 _ _ _ (hs.trans ((spl_e ev_1 (spl_e ev_3 (spl_e ev_5 (spl2_e u_76 (spl_e ev_77 (spl_e ev_81 rfl)))))))) (by have zz0_13 : (f_69 0 13).toInt = v_77.toInt := (congrArg Int32.toInt (show f_69 0 13 = v_77 from ev_77.symm)); omega) (by have zz0_13 : (f_69 0 13).toInt = v_77.toInt := (congrArg Int32.toInt (show f_69 0 13 = v_77 from ev_77.symm)); omega) (by have zz0_16 : (f_69 0 16).toInt = v_1.toInt := (congrArg Int32.toInt (show f_69 0 16 = v_1 from ((hk_f_69 0 16 (by decide)).trans ev_1.symm))); omega) (by have zz0_15 : (f_69 0 15).toInt = v_81.toInt := (congrArg Int32.toInt (show f_69 0 15 = v_81 from ev_81.symm)); have zz0_16 : (f_69 0 16).toInt = v_1.toInt := (congrArg Int32.toInt (show f_69 0 16 = v_1 from ((hk_f_69 0 16 (by decide)).trans ev_1.symm))); omega) hI hF hP hS (lv_sub hl [1, 0] rfl)

abbrev WkX12_takes_41 : List (Nat × Nat × Option Nat) := [(0, 0, some 13)]
set_option maxHeartbeats 4000000 in
set_option maxRecDepth 100000 in
theorem kX12_takes_41 (l : Launch) (D : va_G) (ca : Nat → ClassId) (za h : Nat → Nat) (hh : sgH 26 h) (f : sg_F) (L : sg_L) (Q : sg_Q) (hI : sgI loM hiM f) (sz : Nat) : Met l yX12_takes gwX12_takes { frames := 1, cells := 0, slots := 0, locals := 20 } (sgP D vwCl (tyX ca) 26 h (eM ca h) zcM za f L Q sz [.ref (h 0), .int 41]) (sgQi D vwCl 26 h (eM ca h) sz (fun r f1 L1 Q1 => ((sgI loM hiM f1 ∧ sgK WkX12_takes_41 f f1 ∧ L1 = L ∧ Q1 = Q) ∧ ((r = 1 ∧ ((f 0 15).toInt < 0 ∧ (f 0 13).toInt < (f 0 14).toInt ∧ (f1 0 13).toInt = (f 0 13).toInt + 1)) ∨ (r = 0 ∧ ((f1 0 13).toInt = (f 0 13).toInt))) ∧ (r, f1) = sX12_takes_41 f L))) 0 0 (sgA 26 h sz) := by
  refine sg_ofWz (cc := cX12_takes) (maxL := 2) RX12 (by decide) rfl rfl (Nat.le_of_ble_eq_true rfl) ?_
  intro p e s m below meth cd Qz ls hx hb hml hown hts hK hZ hP hS hl hret
  have hA := sgY.self (n := 26) (h := h) (sz := s.heap.size)
  have hl : lv_has ls 2 [(0, .ref (h 0)), (1, .int 41)] := hl
  obtain ⟨H, hH⟩ : ∃ z : Heap, z = s.heap := ⟨_, rfl⟩
  obtain ⟨locs, hlo⟩ : ∃ z : List Loc, z = [] := ⟨_, rfl⟩
  have hP : va_P D vwCl (sgw 26 h (eM ca h) f L Q) H := by rw [hH]; exact hP
  have hS : va_S (sgA 26 h s.heap.size) s.heap H locs := by rw [hH, hlo]; exact hS
  suffices hgo : W p l e ({ frames := 1, cells := 0, slots := 0, locals := 20 }) s m ([.ref (h 0), .int 41] : List Value).toArray below meth cd H locs 0 0 Qz (F0 m 0 ls []) by rw [hH, hlo] at hgo; exact hgo
  clear hH hlo
  obtain ⟨sp, hsp⟩ : ∃ z : Int32 × sg_F, z = sX12_takes_41 f L := ⟨_, rfl⟩
  have hs : sp = sX12_takes_41 f L := hsp
  obtain ⟨v_1, ev_1⟩ : ∃ z : Int32, z = f 0 15 := ⟨_, rfl⟩
  have q_2 : (-1) ≤ v_1.toInt ∧ v_1.toInt ≤ 120 := by rw [ev_1]; exact hI 0 15
  obtain ⟨v_3, ev_3⟩ : ∃ z : Int32, z = f 0 13 := ⟨_, rfl⟩
  have q_4 : 0 ≤ v_3.toInt ∧ v_3.toInt ≤ 120 := by rw [ev_3]; exact hI 0 13
  obtain ⟨v_5, ev_5⟩ : ∃ z : Int32, z = f 0 14 := ⟨_, rfl⟩
  replace hs := hs.trans (spl_e ev_1 (spl_e ev_3 (spl_e ev_5 rfl)))
  have q_6 : 0 ≤ v_5.toInt ∧ v_5.toInt ≤ 120 := by rw [ev_5]; exact hI 0 14
  have o_7 : (f 0 15).toInt = v_1.toInt := (congrArg Int32.toInt (show f 0 15 = v_1 from ev_1.symm))
  have o_8 : (f 0 13).toInt = v_3.toInt := (congrArg Int32.toInt (show f 0 13 = v_3 from ev_3.symm))
  have o_9 : (f 0 14).toInt = v_5.toInt := (congrArg Int32.toInt (show f 0 14 = v_5 from ev_5.symm))
  have hF : sgK WkX12_takes_41 f f := sgK.rf
  refine lv_aload_n hx hb dX12_takes_0 rfl (lv_at hl 0 rfl) ?_
  refine sl_gM_0_15_12 (v := v_1) hx hb hts hown hK hP (show f 0 15 = v_1 from ev_1.symm) dX12_takes_1 ?_
  refine lv_if_ge (tgt := 15) hx hb dX12_takes_4 (by decide) (fun c => ?_) (fun c => ?_)
  · skip
    have c_10 : 0 ≤ v_1.toInt := (by first | exact (cm_le0 ti_0 c) | (have z := bn_le c; have k1 : (0 : Int32).toInt = 0 := ti_0; omega))
    refine lv_iconst (v := 0) hx hb dX12_takes_15 ic_0 ?_
    have q_12 : (f 0 13).toInt = v_3.toInt := (congrArg Int32.toInt (show f 0 13 = v_3 from ev_3.symm))
    have k99 : (0 : Int32).toInt = 0 := ti_0
    exact hret _ _ _ _ (0) f L Q dX12_takes_16 (by decide) hP hS ⟨⟨hI, hF, rfl, rfl⟩, Or.inr (⟨rfl, by omega⟩), (Eq.trans (Eq.symm (hs.trans ((if_neg (Int.not_lt.mpr c_10)).trans rfl))) hsp)⟩
  · skip
    have c_11 : v_1.toInt < 0 := (by first | exact (cm_nle0 ti_0 c) | (have z := bn_nle c; have k1 : (0 : Int32).toInt = 0 := ti_0; omega))
    refine lv_aload_n hx hb dX12_takes_7 rfl (lv_at hl 0 rfl) ?_
    have q_14 : (f 0 13).toInt = v_3.toInt := (congrArg Int32.toInt (show f 0 13 = v_3 from ev_3.symm))
    have q_15 : (f 0 14).toInt = v_5.toInt := (congrArg Int32.toInt (show f 0 14 = v_5 from ev_5.symm))
    refine sg_calli (va_runV (As := []) (rest := []) ⟨hx, hb, hml, hown, hts⟩ (kX12_byteAt l D ca za h hh f L Q hI H.size) (sl_c12_byteAt_0_0_0_0_12 hts ⟨Nat.le_of_ble_eq_true rfl, Nat.le_of_ble_eq_true rfl⟩) (sl_vM_0 hA hK hP hS hZ) rfl rfl hl.1 rfl (lv_room (Nat.le_of_ble_eq_true rfl)) dX12_takes_8 ⟨Nat.le_refl _, Nat.le_refl _⟩) hA hS (fun r_19 f_16 L_17 Q_18 H locs hq hP hS => ?_)
    obtain ⟨⟨ef9, eL9, eQ9⟩, hq, p_20, u_21⟩ := hq
    replace hs := hs.trans ((if_pos c_11).trans (spl_e u_21 rfl))
    rw [ef9, eL9, eQ9] at hP; clear ef9 eL9 eQ9
    refine lv_iload_n hx hb dX12_takes_11 rfl (lv_at hl 1 rfl) ?_
    refine lv_icmp_eq (tgt := 17) hx hb dX12_takes_12 (by decide) (fun c => ?_) (fun c => ?_)
    · skip
      have c_22 : r_19.toInt = 41 := (by first | exact (cm_eq1 ti_41 c) | (have z := Int32.toInt_inj.mpr c; have k1 : (41 : Int32).toInt = 41 := ti_41; omega))
      refine lv_aload_n hx hb dX12_takes_17 rfl (lv_at hl 0 rfl) ?_
      refine lv_dup hx hb dX12_takes_18 rfl ?_
      refine sl_gM_0_13_12 (v := v_3) hx hb hts hown hK hP (show f 0 13 = v_3 from ev_3.symm) dX12_takes_19 ?_
      refine lv_iconst (v := 1) hx hb dX12_takes_22 ic_1 ?_
      refine lv_iadd hx hb dX12_takes_23 ?_
      refine lv_topi (fun v_24 ev_24 => ?_)
      have q_25 : v_24.toInt = v_3.toInt + 1 := by rw [ev_24]; first | exact cm_add ti_1 (by omega) (by omega) | (have k1 : (1 : Int32).toInt = 1 := ti_1; exact (bn_addI (by omega) (by omega)).trans (by omega))
      refine sl_pM_0_13_12 (x := v_24) hx hb hts hown hh hA hK hP hS dX12_takes_24 (fun f_26 H locs ef_26 hP hS => ?_)
      have hI : sgI loM hiM f_26 := by rw [ef_26]; exact sgI.put hI 0 13 (show 0 ≤ (v_24 : Int32).toInt ∧ (v_24 : Int32).toInt ≤ 120 from ⟨by omega, by omega⟩)
      have hF : sgK WkX12_takes_41 f f_26 := sgK.put hF ef_26 (by rfl)
      refine lv_iconst (v := 1) hx hb dX12_takes_27 ic_1 ?_
      have q_27 : (f_26 0 13).toInt = v_24.toInt := (congrArg Int32.toInt (show f_26 0 13 = v_24 from (by rw [ef_26, sg_up_s, sgu_s])))
      have k99 : (1 : Int32).toInt = 1 := ti_1
      exact hret _ _ _ _ (1) f_26 L Q dX12_takes_28 (by decide) hP hS ⟨⟨hI, hF, rfl, rfl⟩, Or.inl ⟨rfl, by omega⟩, (Eq.trans (Eq.symm (hs.trans ((if_pos c_22).trans (spl_e ev_24 (spl_e ef_26 rfl))))) hsp)⟩
    · skip
      have c_23 : r_19.toInt ≠ 41 := (by first | exact (cm_ne1 ti_41 c) | (have z := bn_ne c; have k1 : (41 : Int32).toInt = 41 := ti_41; omega))
      refine lv_iconst (v := 0) hx hb dX12_takes_15 ic_0 ?_
      have k99 : (0 : Int32).toInt = 0 := ti_0
      exact hret _ _ _ _ (0) f L Q dX12_takes_16 (by decide) hP hS ⟨⟨hI, hF, rfl, rfl⟩, Or.inr (⟨rfl, by omega⟩), (Eq.trans (Eq.symm (hs.trans ((if_neg c_23).trans rfl))) hsp)⟩

abbrev WkX12_one_5 : List (Nat × Nat × Option Nat) := [(0, 0, some 13), (0, 0, some 15), (0, 0, some 16)]
set_option maxHeartbeats 4000000 in
set_option maxRecDepth 100000 in
theorem kX12_one_5 (l : Launch) (D : va_G) (ca : Nat → ClassId) (za h : Nat → Nat) (hh : sgH 26 h) (f : sg_F) (L : sg_L) (Q : sg_Q) (hI : sgI loM hiM f) (p0 : 5 ≤ (f 0 16).toInt) (p1 : 0 ≤ (f 0 15).toInt ∨ (f 0 16).toInt = 5) (sz : Nat) : Met l yX12_one gwX12_one { frames := 7, cells := 0, slots := 0, locals := 157 } (sgP D vwCl (tyX ca) 26 h (eM ca h) zcM za f L Q sz [.ref (h 0)]) (sgQi D vwCl 26 h (eM ca h) sz (fun r f1 L1 Q1 => ((sgI loM hiM f1 ∧ sgK WkX12_one_5 f f1 ∧ L1 = L ∧ Q1 = Q) ∧ True ∧ ((f 0 13).toInt ≤ (f1 0 13).toInt) ∧ (5 ≤ (f1 0 16).toInt) ∧ (0 ≤ (f1 0 15).toInt ∨ (f1 0 16).toInt = 5) ∧ (r, f1) = sX12_one_5 f L))) 0 0 (sgA 26 h sz) := by
  refine sg_ofWi (cc := cX12_one) (maxL := 5) RX12 (by decide) rfl rfl (Nat.le_of_ble_eq_true rfl) ?_
  intro p e s m below meth cd Qz ls hx hb hml hown hts hK hZ hP hS hl hret
  have hA := sgY.self (n := 26) (h := h) (sz := s.heap.size)
  have hl : lv_has ls 5 [(0, .ref (h 0))] := hl
  obtain ⟨H, hH⟩ : ∃ z : Heap, z = s.heap := ⟨_, rfl⟩
  obtain ⟨locs, hlo⟩ : ∃ z : List Loc, z = [] := ⟨_, rfl⟩
  have hP : va_P D vwCl (sgw 26 h (eM ca h) f L Q) H := by rw [hH]; exact hP
  have hS : va_S (sgA 26 h s.heap.size) s.heap H locs := by rw [hH, hlo]; exact hS
  suffices hgo : W p l e ({ frames := 7, cells := 0, slots := 0, locals := 157 }) s m ([.ref (h 0)] : List Value).toArray below meth cd H locs 0 0 Qz (F0 m 0 ls []) by rw [hH, hlo] at hgo; exact hgo
  clear hH hlo
  obtain ⟨sp, hsp⟩ : ∃ z : Int32 × sg_F, z = sX12_one_5 f L := ⟨_, rfl⟩
  have hs : sp = sX12_one_5 f L := hsp
  obtain ⟨v_1, ev_1⟩ : ∃ z : Int32, z = f 0 16 := ⟨_, rfl⟩
  have q_2 : 0 ≤ v_1.toInt ∧ v_1.toInt ≤ 6 := by rw [ev_1]; exact hI 0 16
  obtain ⟨v_3, ev_3⟩ : ∃ z : Int32, z = f 0 15 := ⟨_, rfl⟩
  have q_4 : (-1) ≤ v_3.toInt ∧ v_3.toInt ≤ 120 := by rw [ev_3]; exact hI 0 15
  obtain ⟨v_5, ev_5⟩ : ∃ z : Int32, z = f 0 13 := ⟨_, rfl⟩
  replace hs := hs.trans (spl_e ev_1 (spl_e ev_3 (spl_e ev_5 rfl)))
  have q_6 : 0 ≤ v_5.toInt ∧ v_5.toInt ≤ 120 := by rw [ev_5]; exact hI 0 13
  have o_7 : (f 0 16).toInt = v_1.toInt := (congrArg Int32.toInt (show f 0 16 = v_1 from ev_1.symm))
  have o_8 : (f 0 15).toInt = v_3.toInt := (congrArg Int32.toInt (show f 0 15 = v_3 from ev_3.symm))
  have o_9 : (f 0 13).toInt = v_5.toInt := (congrArg Int32.toInt (show f 0 13 = v_5 from ev_5.symm))
  have hF : sgK WkX12_one_5 f f := sgK.rf
  have blk_229 : ∀ (y3_229 : Int32) (y4_229 : Int32) (fp_229 : sg_F) (H : Heap) (locs : List Loc) (ls : Array Slot), sp = sX12_one_5_b229 y3_229 y4_229 fp_229 L → (-1) ≤ (fp_229 0 15).toInt ∧ (fp_229 0 15).toInt ≤ (-1) → 0 ≤ y4_229.toInt ∧ y4_229.toInt ≤ 4 → (f 0 13).toInt ≤ (fp_229 0 13).toInt → 5 ≤ (fp_229 0 16).toInt → 0 ≤ (fp_229 0 15).toInt ∨ (fp_229 0 16).toInt = 5 → sgI loM hiM fp_229 → sgK WkX12_one_5 f fp_229 → va_P D vwCl (sgw 26 h (eM ca h) fp_229 L Q) H → va_S (sgA 26 h s.heap.size) s.heap H locs → lv_has ls 5 [(0, .ref (h 0)), (3, .int y3_229), (4, .int y4_229)] → W p l e ({ frames := 7, cells := 0, slots := 0, locals := 157 }) s m ([.ref (h 0)] : List Value).toArray below meth cd H locs 0 0 Qz (F0 m 229 ls []) := by
    intro y3_229 y4_229 fp_229 H locs ls hs hy0_229 hy1_229 hg0_229 hg1_229 hg2_229 hI hF hP hS hl
    obtain ⟨v_10, ev_10⟩ : ∃ z : Int32, z = fp_229 0 15 := ⟨_, rfl⟩
    have q_11 : (-1) ≤ v_10.toInt ∧ v_10.toInt ≤ 120 := by rw [ev_10]; exact hI 0 15
    have q_12 : (fp_229 0 15).toInt = v_10.toInt := by rw [ev_10]
    obtain ⟨v_13, ev_13⟩ : ∃ z : Int32, z = fp_229 0 13 := ⟨_, rfl⟩
    have q_14 : 0 ≤ v_13.toInt ∧ v_13.toInt ≤ 120 := by rw [ev_13]; exact hI 0 13
    have q_15 : (fp_229 0 13).toInt = v_13.toInt := by rw [ev_13]
    obtain ⟨v_16, ev_16⟩ : ∃ z : Int32, z = fp_229 0 16 := ⟨_, rfl⟩
    replace hs := hs.trans (spl_e ev_10 (spl_e ev_13 (spl_e ev_16 rfl)))
    have q_17 : 0 ≤ v_16.toInt ∧ v_16.toInt ≤ 6 := by rw [ev_16]; exact hI 0 16
    have q_18 : (fp_229 0 16).toInt = v_16.toInt := by rw [ev_16]
    refine lv_iload hx hb dX12_one_229 (lv_at hl 2 rfl) ?_
    refine lv_if_ne (tgt := 241) hx hb dX12_one_231 (by decide) (fun c => ?_) (fun c => ?_)
    · skip
      have c_19 : y4_229.toInt ≠ 0 := (by first | exact (cm_ne1 ti_0 c) | (have z := bn_ne c; have k1 : (0 : Int32).toInt = 0 := ti_0; omega))
      refine lv_iload_n hx hb dX12_one_241 rfl (lv_at hl 1 rfl) ?_
      exact hret _ _ _ _ (y3_229) fp_229 L Q dX12_one_242 hP hS ⟨⟨hI, hF, rfl, rfl⟩, trivial, (by omega), (by omega), (by omega), (Eq.trans (Eq.symm (hs.trans ((if_neg c_19).trans rfl))) hsp)⟩
    · skip
      have c_20 : y4_229.toInt = 0 := (by first | exact (cm_eq1 ti_0 c) | (have z := Int32.toInt_inj.mpr c; have k1 : (0 : Int32).toInt = 0 := ti_0; omega))
      refine lv_aload_n hx hb dX12_one_234 rfl (lv_at hl 0 rfl) ?_
      refine sg_calli (va_runV (As := []) (rest := []) ⟨hx, hb, hml, hown, hts⟩ (kX12_wrong l D ca za h hh fp_229 L Q hI H.size) (sl_c12_wrong_0_0_0_0_12 hts ⟨Nat.le_of_ble_eq_true rfl, Nat.le_of_ble_eq_true rfl⟩) (sl_vM_0 hA hK hP hS hZ) rfl rfl hl.1 rfl (lv_room (Nat.le_of_ble_eq_true rfl)) dX12_one_235 ⟨Nat.le_refl _, Nat.le_refl _⟩) hA hS (fun r_28 f_25 L_26 Q_27 H locs hq hP hS => ?_)
      obtain ⟨⟨hI, hk_f_25, eL9, eQ9⟩, hq, p_29, u_30⟩ := hq
      rw [eL9, eQ9] at hP; clear eL9 eQ9
      have hF : sgK WkX12_one_5 f f_25 := sgK.tr hF hk_f_25 (by decide +kernel)
      obtain ⟨v_31, ev_31⟩ : ∃ z : Int32, z = f_25 0 15 := ⟨_, rfl⟩
      have q_32 : (-1) ≤ v_31.toInt ∧ v_31.toInt ≤ 120 := by rw [ev_31]; exact hI 0 15
      have q_33 : (f_25 0 15).toInt = v_31.toInt := (congrArg Int32.toInt (show f_25 0 15 = v_31 from ev_31.symm))
      obtain rfl : r_28 = 0 := Int32.toInt_inj.mp (by have k9 : (0 : Int32).toInt = 0 := ti_0; omega)
      refine lv_goto (tgt := 242) hx hb dX12_one_238 (by decide) ?_
      have q_34 : (f_25 0 13).toInt = v_13.toInt := (congrArg Int32.toInt (show f_25 0 13 = v_13 from ((hk_f_25 0 13 (by decide)).trans ev_13.symm)))
      have q_35 : (f_25 0 16).toInt = v_16.toInt := (congrArg Int32.toInt (show f_25 0 16 = v_16 from ((hk_f_25 0 16 (by decide)).trans ev_16.symm)))
      have k99 : (0 : Int32).toInt = 0 := ti_0
      exact hret _ _ _ _ (0) f_25 L Q dX12_one_242 hP hS ⟨⟨hI, hF, rfl, rfl⟩, trivial, (by omega), (by omega), (by omega), (Eq.trans (Eq.symm (hs.trans ((if_pos c_20).trans (spl2_e u_30 (spl_e ev_31 rfl))))) hsp)⟩
  have loop_176 : ∀ (n_176 : Nat) (y3_176 : Int32) (y4_176 : Int32) (fp_176 : sg_F) (H : Heap) (locs : List Loc) (ls : Array Slot), sp = sX12_one_5_l176 n_176 y3_176 y4_176 fp_176 L → 4 - y4_176.toInt < (n_176 : Int) → (-1) ≤ (fp_176 0 15).toInt ∧ (fp_176 0 15).toInt ≤ (-1) → 0 ≤ y4_176.toInt ∧ y4_176.toInt ≤ 4 → (f 0 13).toInt ≤ (fp_176 0 13).toInt → 5 ≤ (fp_176 0 16).toInt → 0 ≤ (fp_176 0 15).toInt ∨ (fp_176 0 16).toInt = 5 → sgI loM hiM fp_176 → sgK WkX12_one_5 f fp_176 → va_P D vwCl (sgw 26 h (eM ca h) fp_176 L Q) H → va_S (sgA 26 h s.heap.size) s.heap H locs → lv_has ls 5 [(0, .ref (h 0)), (3, .int y3_176), (4, .int y4_176)] → W p l e ({ frames := 7, cells := 0, slots := 0, locals := 157 }) s m ([.ref (h 0)] : List Value).toArray below meth cd H locs 0 0 Qz (F0 m 176 ls []) := by
    intro n_176
    induction n_176 with
    | zero => intro y3_176 y4_176 fp_176 H locs ls hs hm_176 hy0_176 hy1_176 hg0_176 hg1_176 hg2_176 hI hF hP hS hl; exact absurd hm_176 (by omega)
    | succ n_176 ih_176 =>
      intro y3_176 y4_176 fp_176 H locs ls hs hm_176 hy0_176 hy1_176 hg0_176 hg1_176 hg2_176 hI hF hP hS hl
      have hs : sp = sX12_one_5_h176 (sX12_one_5_l176 n_176) y3_176 y4_176 fp_176 L := hs
      obtain ⟨v_38, ev_38⟩ : ∃ z : Int32, z = fp_176 0 15 := ⟨_, rfl⟩
      have q_39 : (-1) ≤ v_38.toInt ∧ v_38.toInt ≤ 120 := by rw [ev_38]; exact hI 0 15
      have q_40 : (fp_176 0 15).toInt = v_38.toInt := by rw [ev_38]
      obtain ⟨v_41, ev_41⟩ : ∃ z : Int32, z = fp_176 0 13 := ⟨_, rfl⟩
      have q_42 : 0 ≤ v_41.toInt ∧ v_41.toInt ≤ 120 := by rw [ev_41]; exact hI 0 13
      have q_43 : (fp_176 0 13).toInt = v_41.toInt := by rw [ev_41]
      obtain ⟨v_44, ev_44⟩ : ∃ z : Int32, z = fp_176 0 16 := ⟨_, rfl⟩
      replace hs := hs.trans (spl_e ev_38 (spl_e ev_41 (spl_e ev_44 rfl)))
      have q_45 : 0 ≤ v_44.toInt ∧ v_44.toInt ≤ 6 := by rw [ev_44]; exact hI 0 16
      have q_46 : (fp_176 0 16).toInt = v_44.toInt := by rw [ev_44]
      refine lv_iload hx hb dX12_one_176 (lv_at hl 2 rfl) ?_
      refine lv_iconst (v := 4) hx hb dX12_one_178 ic_4 ?_
      refine lv_icmp_ge (tgt := 229) hx hb dX12_one_179 (by decide) (fun c => ?_) (fun c => ?_)
      · skip
        have c_47 : 4 ≤ y4_176.toInt := (by first | exact (cm_le0 ti_4 c) | (have z := bn_le c; have k1 : (4 : Int32).toInt = 4 := ti_4; omega))
        exact blk_229 y3_176 y4_176 fp_176 _ _ _ (hs.trans ((if_neg (Int.not_lt.mpr c_47)).trans rfl)) (by have zz0_15 : (fp_176 0 15).toInt = v_38.toInt := (congrArg Int32.toInt (show fp_176 0 15 = v_38 from ev_38.symm)); exact ⟨by omega, by omega⟩) hy1_176 (by have zz0_13 : (fp_176 0 13).toInt = v_41.toInt := (congrArg Int32.toInt (show fp_176 0 13 = v_41 from ev_41.symm)); omega) (by have zz0_16 : (fp_176 0 16).toInt = v_44.toInt := (congrArg Int32.toInt (show fp_176 0 16 = v_44 from ev_44.symm)); omega) (by have zz0_15 : (fp_176 0 15).toInt = v_38.toInt := (congrArg Int32.toInt (show fp_176 0 15 = v_38 from ev_38.symm)); have zz0_16 : (fp_176 0 16).toInt = v_44.toInt := (congrArg Int32.toInt (show fp_176 0 16 = v_44 from ev_44.symm)); omega) hI hF hP hS (lv_sub hl [0, 1, 2] rfl)
      · skip
        have c_48 : y4_176.toInt < 4 := (by first | exact (cm_nle0 ti_4 c) | (have z := bn_nle c; have k1 : (4 : Int32).toInt = 4 := ti_4; omega))
        refine lv_aload_n hx hb dX12_one_182 rfl (lv_at hl 0 rfl) ?_
        obtain ⟨v_50, ev_50⟩ : ∃ z : Int32, z = fp_176 0 14 := ⟨_, rfl⟩
        have q_51 : 0 ≤ v_50.toInt ∧ v_50.toInt ≤ 120 := by rw [ev_50]; exact hI 0 14
        have q_52 : (fp_176 0 14).toInt = v_50.toInt := (congrArg Int32.toInt (show fp_176 0 14 = v_50 from ev_50.symm))
        refine sg_calli (va_runV (As := []) (rest := []) ⟨hx, hb, hml, hown, hts⟩ (kX12_byteAt l D ca za h hh fp_176 L Q hI H.size) (sl_c12_byteAt_0_0_0_0_12 hts ⟨Nat.le_of_ble_eq_true rfl, Nat.le_of_ble_eq_true rfl⟩) (sl_vM_0 hA hK hP hS hZ) rfl rfl hl.1 rfl (lv_room (Nat.le_of_ble_eq_true rfl)) dX12_one_183 ⟨Nat.le_refl _, Nat.le_refl _⟩) hA hS (fun r_56 f_53 L_54 Q_55 H locs hq hP hS => ?_)
        obtain ⟨⟨ef9, eL9, eQ9⟩, hq, p_57, u_58⟩ := hq
        replace hs := hs.trans ((if_pos c_48).trans (spl_e ev_50 (spl_e u_58 rfl)))
        rw [ef9, eL9, eQ9] at hP; clear ef9 eL9 eQ9
        refine lv_bipush (v := 48) hx hb dX12_one_186 bp_48 ?_
        refine lv_icmp_lt (tgt := 229) hx hb dX12_one_188 (by decide) (fun c => ?_) (fun c => ?_)
        · skip
          have c_59 : r_56.toInt < 48 := (by first | exact (cm_lt1 ti_48 c) | (have z := bn_lt c; have k1 : (48 : Int32).toInt = 48 := ti_48; omega))
          exact blk_229 y3_176 y4_176 fp_176 _ _ _ (hs.trans ((if_pos c_59).trans rfl)) (by have zz0_15 : (fp_176 0 15).toInt = v_38.toInt := (congrArg Int32.toInt (show fp_176 0 15 = v_38 from ev_38.symm)); exact ⟨by omega, by omega⟩) hy1_176 (by have zz0_13 : (fp_176 0 13).toInt = v_41.toInt := (congrArg Int32.toInt (show fp_176 0 13 = v_41 from ev_41.symm)); omega) (by have zz0_16 : (fp_176 0 16).toInt = v_44.toInt := (congrArg Int32.toInt (show fp_176 0 16 = v_44 from ev_44.symm)); omega) (by have zz0_15 : (fp_176 0 15).toInt = v_38.toInt := (congrArg Int32.toInt (show fp_176 0 15 = v_38 from ev_38.symm)); have zz0_16 : (fp_176 0 16).toInt = v_44.toInt := (congrArg Int32.toInt (show fp_176 0 16 = v_44 from ev_44.symm)); omega) hI hF hP hS (lv_sub hl [0, 1, 2] rfl)
        · skip
          have c_60 : 48 ≤ r_56.toInt := (by first | exact (cm_nlt1 ti_48 c) | (have z := bn_nlt c; have k1 : (48 : Int32).toInt = 48 := ti_48; omega))
          replace hs := hs.trans ((if_neg (Int.not_lt.mpr c_60)).trans rfl)
          refine lv_aload_n hx hb dX12_one_191 rfl (lv_at hl 0 rfl) ?_
          refine sg_calli (va_runV (As := []) (rest := []) ⟨hx, hb, hml, hown, hts⟩ (kX12_byteAt l D ca za h hh fp_176 L Q hI H.size) (sl_c12_byteAt_0_0_0_0_12 hts ⟨Nat.le_of_ble_eq_true rfl, Nat.le_of_ble_eq_true rfl⟩) (sl_vM_0 hA hK hP hS hZ) rfl rfl hl.1 rfl (lv_room (Nat.le_of_ble_eq_true rfl)) dX12_one_192 ⟨Nat.le_refl _, Nat.le_refl _⟩) hA hS (fun r_66 f_63 L_64 Q_65 H locs hq hP hS => ?_)
          obtain ⟨⟨ef9, eL9, eQ9⟩, hq, p_67, u_68⟩ := hq
          rw [ef9, eL9, eQ9] at hP; clear ef9 eL9 eQ9
          rw [show r_66 = r_56 from u_68.trans u_58.symm]
          refine lv_bipush (v := 57) hx hb dX12_one_195 bp_57 ?_
          refine lv_icmp_gt (tgt := 229) hx hb dX12_one_197 (by decide) (fun c => ?_) (fun c => ?_)
          · skip
            have c_69 : 57 < r_56.toInt := (by first | exact (cm_lt0 ti_57 c) | (have z := bn_lt c; have k1 : (57 : Int32).toInt = 57 := ti_57; omega))
            exact blk_229 y3_176 y4_176 fp_176 _ _ _ (hs.trans ((if_pos c_69).trans rfl)) (by have zz0_15 : (fp_176 0 15).toInt = v_38.toInt := (congrArg Int32.toInt (show fp_176 0 15 = v_38 from ev_38.symm)); exact ⟨by omega, by omega⟩) hy1_176 (by have zz0_13 : (fp_176 0 13).toInt = v_41.toInt := (congrArg Int32.toInt (show fp_176 0 13 = v_41 from ev_41.symm)); omega) (by have zz0_16 : (fp_176 0 16).toInt = v_44.toInt := (congrArg Int32.toInt (show fp_176 0 16 = v_44 from ev_44.symm)); omega) (by have zz0_15 : (fp_176 0 15).toInt = v_38.toInt := (congrArg Int32.toInt (show fp_176 0 15 = v_38 from ev_38.symm)); have zz0_16 : (fp_176 0 16).toInt = v_44.toInt := (congrArg Int32.toInt (show fp_176 0 16 = v_44 from ev_44.symm)); omega) hI hF hP hS (lv_sub hl [0, 1, 2] rfl)
          · skip
            have c_70 : r_56.toInt ≤ 57 := (by first | exact (cm_nlt0 ti_57 c) | (have z := bn_nlt c; have k1 : (57 : Int32).toInt = 57 := ti_57; omega))
            refine lv_bipush (v := 10) hx hb dX12_one_200 bp_10 ?_
            refine lv_iload_n hx hb dX12_one_202 rfl (lv_at hl 1 rfl) ?_
            refine lv_imul hx hb dX12_one_203 ?_
            refine lv_topi (fun v_71 ev_71 => ?_)
            refine lv_aload_n hx hb dX12_one_204 rfl (lv_at hl 0 rfl) ?_
            refine sg_calli (va_runV (As := []) (rest := [.int v_71]) ⟨hx, hb, hml, hown, hts⟩ (kX12_byteAt l D ca za h hh fp_176 L Q hI H.size) (sl_c12_byteAt_0_0_0_0_12 hts ⟨Nat.le_of_ble_eq_true rfl, Nat.le_of_ble_eq_true rfl⟩) (sl_vM_0 hA hK hP hS hZ) rfl rfl hl.1 rfl (lv_room (Nat.le_of_ble_eq_true rfl)) dX12_one_205 ⟨Nat.le_refl _, Nat.le_refl _⟩) hA hS (fun r_77 f_74 L_75 Q_76 H locs hq hP hS => ?_)
            obtain ⟨⟨ef9, eL9, eQ9⟩, hq, p_78, u_79⟩ := hq
            rw [ef9, eL9, eQ9] at hP; clear ef9 eL9 eQ9
            rw [show r_77 = r_56 from u_79.trans u_58.symm]
            refine lv_iadd hx hb dX12_one_208 ?_
            refine lv_topi (fun v_80 ev_80 => ?_)
            refine lv_bipush (v := 48) hx hb dX12_one_209 bp_48 ?_
            refine lv_isub hx hb dX12_one_211 ?_
            refine lv_topi (fun v_81 ev_81 => ?_)
            refine lv_istore_n (lv' := [(3, .int v_81), (0, .ref (h 0)), (4, .int y4_176)]) hx hb dX12_one_212 rfl hl (by decide) rfl (fun ls hl => ?_)
            obtain ⟨v_82, ev_82⟩ : ∃ z : Int32, z = y4_176 + 1 := ⟨_, rfl⟩
            have q_83 : v_82.toInt = y4_176.toInt + 1 := by rw [ev_82]; exact (bn_addc y4_176 1 (by decide) (by omega) (by omega))
            refine lv_iinc (v := v_82) (lv' := [(4, .int v_82), (3, .int v_81), (0, .ref (h 0))]) hx hb dX12_one_213 hl (k := 2) rfl (by rw [ev_82]; rfl) (by decide) rfl (fun ls hl => ?_)
            refine lv_aload_n hx hb dX12_one_216 rfl (lv_at hl 2 rfl) ?_
            refine lv_dup hx hb dX12_one_217 rfl ?_
            refine sl_gM_0_13_12 (v := v_41) hx hb hts hown hK hP (show fp_176 0 13 = v_41 from ev_41.symm) dX12_one_218 ?_
            refine lv_iconst (v := 1) hx hb dX12_one_221 ic_1 ?_
            refine lv_iadd hx hb dX12_one_222 ?_
            refine lv_topi (fun v_84 ev_84 => ?_)
            have q_85 : v_84.toInt = v_41.toInt + 1 := by rw [ev_84]; first | exact cm_add ti_1 (by omega) (by omega) | (have k1 : (1 : Int32).toInt = 1 := ti_1; exact (bn_addI (by omega) (by omega)).trans (by omega))
            refine sl_pM_0_13_12 (x := v_84) hx hb hts hown hh hA hK hP hS dX12_one_223 (fun f_86 H locs ef_86 hP hS => ?_)
            have hI : sgI loM hiM f_86 := by rw [ef_86]; exact sgI.put hI 0 13 (show 0 ≤ (v_84 : Int32).toInt ∧ (v_84 : Int32).toInt ≤ 120 from ⟨by omega, by omega⟩)
            have hF : sgK WkX12_one_5 f f_86 := sgK.put hF ef_86 (by rfl)
            refine lv_goto (tgt := 176) hx hb dX12_one_226 (by decide) ?_
            exact ih_176 v_81 v_82 f_86 _ _ _ (hs.trans ((if_neg (Int.not_lt.mpr c_70)).trans (spl_e ev_71 (spl_e ev_80 (spl_e ev_81 (spl_e ev_82 (spl_e ev_84 (spl_e ef_86 rfl)))))))) (by omega) (by have zz0_15 : (f_86 0 15).toInt = v_38.toInt := (congrArg Int32.toInt (show f_86 0 15 = v_38 from (by rw [ef_86, sg_up_s, sgu_n (by decide)]; exact ev_38.symm))); exact ⟨by omega, by omega⟩) ⟨by omega, by omega⟩ (by have zz0_13 : (f_86 0 13).toInt = v_84.toInt := (congrArg Int32.toInt (show f_86 0 13 = v_84 from (by rw [ef_86, sg_up_s, sgu_s]))); omega) (by have zz0_16 : (f_86 0 16).toInt = v_44.toInt := (congrArg Int32.toInt (show f_86 0 16 = v_44 from (by rw [ef_86, sg_up_s, sgu_n (by decide)]; exact ev_44.symm))); omega) (by have zz0_15 : (f_86 0 15).toInt = v_38.toInt := (congrArg Int32.toInt (show f_86 0 15 = v_38 from (by rw [ef_86, sg_up_s, sgu_n (by decide)]; exact ev_38.symm))); have zz0_16 : (f_86 0 16).toInt = v_44.toInt := (congrArg Int32.toInt (show f_86 0 16 = v_44 from (by rw [ef_86, sg_up_s, sgu_n (by decide)]; exact ev_44.symm))); omega) hI hF hP hS (lv_sub hl [2, 1, 0] rfl)
  refine lv_aload_n hx hb dX12_one_0 rfl (lv_at hl 0 rfl) ?_
  refine sl_gM_0_15_12 (v := v_3) hx hb hts hown hK hP (show f 0 15 = v_3 from ev_3.symm) dX12_one_1 ?_
  refine lv_if_lt (tgt := 9) hx hb dX12_one_4 (by decide) (fun c => ?_) (fun c => ?_)
  · skip
    have c_87 : v_3.toInt < 0 := (by first | exact (cm_lt1 ti_0 c) | (have z := bn_lt c; have k1 : (0 : Int32).toInt = 0 := ti_0; omega))
    refine lv_aload_n hx hb dX12_one_9 rfl (lv_at hl 0 rfl) ?_
    have q_89 : (f 0 13).toInt = v_5.toInt := (congrArg Int32.toInt (show f 0 13 = v_5 from ev_5.symm))
    obtain ⟨v_90, ev_90⟩ : ∃ z : Int32, z = f 0 14 := ⟨_, rfl⟩
    have q_91 : 0 ≤ v_90.toInt ∧ v_90.toInt ≤ 120 := by rw [ev_90]; exact hI 0 14
    have q_92 : (f 0 14).toInt = v_90.toInt := (congrArg Int32.toInt (show f 0 14 = v_90 from ev_90.symm))
    refine sg_calli (va_runV (As := []) (rest := []) ⟨hx, hb, hml, hown, hts⟩ (kX12_byteAt l D ca za h hh f L Q hI H.size) (sl_c12_byteAt_0_0_0_0_12 hts ⟨Nat.le_of_ble_eq_true rfl, Nat.le_of_ble_eq_true rfl⟩) (sl_vM_0 hA hK hP hS hZ) rfl rfl hl.1 rfl (lv_room (Nat.le_of_ble_eq_true rfl)) dX12_one_10 ⟨Nat.le_refl _, Nat.le_refl _⟩) hA hS (fun r_96 f_93 L_94 Q_95 H locs hq hP hS => ?_)
    obtain ⟨⟨ef9, eL9, eQ9⟩, hq, p_97, u_98⟩ := hq
    replace hs := hs.trans ((if_pos c_87).trans (spl_e ev_90 (spl_e u_98 rfl)))
    rw [ef9, eL9, eQ9] at hP; clear ef9 eL9 eQ9
    refine lv_istore_n (lv' := [(1, .int r_96), (0, .ref (h 0))]) hx hb dX12_one_13 rfl hl (by decide) rfl (fun ls hl => ?_)
    refine lv_iload_n hx hb dX12_one_14 rfl (lv_at hl 0 rfl) ?_
    refine lv_bipush (v := 33) hx hb dX12_one_15 bp_33 ?_
    refine lv_icmp_eq (tgt := 32) hx hb dX12_one_17 (by decide) (fun c => ?_) (fun c => ?_)
    · skip
      have c_99 : r_96.toInt = 33 := (by first | exact (cm_eq1 ti_33 c) | (have z := Int32.toInt_inj.mpr c; have k1 : (33 : Int32).toInt = 33 := ti_33; omega))
      refine lv_aload_n hx hb dX12_one_32 rfl (lv_at hl 1 rfl) ?_
      have c_101 : v_1 = 5 := Int32.toInt_inj.mp (by have k9 : (5 : Int32).toInt = 5 := ti_5; omega)
      refine sl_gM_0_16_12 (v := 5) hx hb hts hown hK hP (show f 0 16 = 5 from (Eq.trans ev_1.symm c_101)) dX12_one_33 ?_
      refine lv_bipush (v := 6) hx hb dX12_one_36 bp_6 ?_
      refine lv_icmp_ne (tgt := 46) hx hb dX12_one_38 (by decide) (fun c => ?_) (fun c => absurd c (by decide))
      refine lv_aload_n hx hb dX12_one_46 rfl (lv_at hl 1 rfl) ?_
      refine lv_dup hx hb dX12_one_47 rfl ?_
      refine sl_gM_0_16_12 (v := 5) hx hb hts hown hK hP (show f 0 16 = 5 from (Eq.trans ev_1.symm c_101)) dX12_one_48 ?_
      refine lv_iconst (v := 1) hx hb dX12_one_51 ic_1 ?_
      refine lv_iadd hx hb dX12_one_52 ?_
      refine W.eq (g2 := F0 m 53 ls [.int 6, .ref (h 0)]) (by rw [show (5 + 1 : Int32) = 6 from by decide]) ?_
      refine sl_pM_0_16_12 (x := 6) hx hb hts hown hh hA hK hP hS dX12_one_53 (fun f_102 H locs ef_102 hP hS => ?_)
      have hI : sgI loM hiM f_102 := by rw [ef_102]; exact sgI.put hI 0 16 (show 0 ≤ (6 : Int32).toInt ∧ (6 : Int32).toInt ≤ 6 from by decide)
      have hF : sgK WkX12_one_5 f f_102 := sgK.put hF ef_102 (by rfl)
      refine lv_aload_n hx hb dX12_one_56 rfl (lv_at hl 1 rfl) ?_
      refine lv_dup hx hb dX12_one_57 rfl ?_
      refine sl_gM_0_13_12 (v := v_5) hx hb hts hown hK hP (show f_102 0 13 = v_5 from (by rw [ef_102, sg_up_s, sgu_n (by decide)]; exact ev_5.symm)) dX12_one_58 ?_
      refine lv_iconst (v := 1) hx hb dX12_one_61 ic_1 ?_
      refine lv_iadd hx hb dX12_one_62 ?_
      refine lv_topi (fun v_103 ev_103 => ?_)
      have q_104 : v_103.toInt = v_5.toInt + 1 := by rw [ev_103]; first | exact cm_add ti_1 (by omega) (by omega) | (have k1 : (1 : Int32).toInt = 1 := ti_1; exact (bn_addI (by omega) (by omega)).trans (by omega))
      refine sl_pM_0_13_12 (x := v_103) hx hb hts hown hh hA hK hP hS dX12_one_63 (fun f_105 H locs ef_105 hP hS => ?_)
      have hI : sgI loM hiM f_105 := by rw [ef_105]; exact sgI.put hI 0 13 (show 0 ≤ (v_103 : Int32).toInt ∧ (v_103 : Int32).toInt ≤ 120 from ⟨by omega, by omega⟩)
      have hF : sgK WkX12_one_5 f f_105 := sgK.put hF ef_105 (by rfl)
      refine lv_iload_n hx hb dX12_one_66 rfl (lv_at hl 0 rfl) ?_
      refine lv_bipush (v := 40) hx hb dX12_one_67 bp_40 ?_
      refine lv_icmp_ne (tgt := 79) hx hb dX12_one_69 (by decide) (fun c => ?_) (fun c => ?_)
      · skip
        have c_106 : r_96.toInt ≠ 40 := (by first | exact (cm_ne1 ti_40 c) | (have z := bn_ne c; have k1 : (40 : Int32).toInt = 40 := ti_40; omega))
        refine lv_aload_n hx hb dX12_one_79 rfl (lv_at hl 1 rfl) ?_
        have q_108 : (f_105 0 16).toInt = 6 := (congrArg Int32.toInt (show f_105 0 16 = 6 from (by rw [ef_105, sg_up_s, sgu_n (by decide)]; exact (by rw [ef_102, sg_up_s, sgu_s])))).trans (by decide)
        have q_109 : (f_105 0 15).toInt = v_3.toInt := (congrArg Int32.toInt (show f_105 0 15 = v_3 from (by rw [ef_105, sg_up_s, sgu_n (by decide)]; exact (by rw [ef_102, sg_up_s, sgu_n (by decide)]; exact ev_3.symm))))
        have q_111 : (f_105 0 13).toInt = v_103.toInt := (congrArg Int32.toInt (show f_105 0 13 = v_103 from (by rw [ef_105, sg_up_s, sgu_s])))
        refine sg_calli (va_runV (As := []) (rest := []) ⟨hx, hb, hml, hown, hts⟩ (kX12_one_6 l D ca za h hh f_105 L Q hI (by omega) (by omega) H.size) (sl_c12_one_1_0_0_20_12 hts ⟨Nat.le_of_ble_eq_true rfl, Nat.le_of_ble_eq_true rfl⟩) (sl_vM_0 hA hK hP hS hZ) rfl rfl hl.1 rfl (lv_room (Nat.le_of_ble_eq_true rfl)) dX12_one_80 ⟨Nat.le_refl _, Nat.le_refl _⟩) hA hS (fun r_115 f_112 L_113 Q_114 H locs hq hP hS => ?_)
        obtain ⟨⟨hI, hk_f_112, eL9, eQ9⟩, hq, p_116, p_117, p_118, u_119⟩ := hq
        rw [eL9, eQ9] at hP; clear eL9 eQ9
        have hF : sgK WkX12_one_5 f f_112 := sgK.tr hF hk_f_112 (by decide +kernel)
        obtain ⟨v_120, ev_120⟩ : ∃ z : Int32, z = f_112 0 13 := ⟨_, rfl⟩
        have q_121 : 0 ≤ v_120.toInt ∧ v_120.toInt ≤ 120 := by rw [ev_120]; exact hI 0 13
        have q_122 : (f_112 0 13).toInt = v_120.toInt := (congrArg Int32.toInt (show f_112 0 13 = v_120 from ev_120.symm))
        have q_123 : (f_112 0 16).toInt = 6 := (congrArg Int32.toInt (show f_112 0 16 = 6 from ((hk_f_112 0 16 (by decide)).trans (by rw [ef_105, sg_up_s, sgu_n (by decide)]; exact (by rw [ef_102, sg_up_s, sgu_s]))))).trans (by decide)
        obtain ⟨v_124, ev_124⟩ : ∃ z : Int32, z = f_112 0 15 := ⟨_, rfl⟩
        have q_125 : (-1) ≤ v_124.toInt ∧ v_124.toInt ≤ 120 := by rw [ev_124]; exact hI 0 15
        have q_126 : (f_112 0 15).toInt = v_124.toInt := (congrArg Int32.toInt (show f_112 0 15 = v_124 from ev_124.symm))
        refine lv_istore_n (lv' := [(2, .int r_115), (1, .int r_96), (0, .ref (h 0))]) hx hb dX12_one_83 rfl hl (by decide) rfl (fun ls hl => ?_)
        refine lv_iload_n hx hb dX12_one_84 rfl (lv_at hl 1 rfl) ?_
        refine lv_bipush (v := 40) hx hb dX12_one_85 bp_40 ?_
        refine lv_icmp_ne (tgt := 104) hx hb dX12_one_87 (by decide) (fun c => ?_) (fun c => ?_)
        · skip
          have c_128 : r_96.toInt ≠ 40 := (by first | exact (cm_ne1 ti_40 c) | (have z := bn_ne c; have k1 : (40 : Int32).toInt = 40 := ti_40; omega))
          refine lv_aload_n hx hb dX12_one_104 rfl (lv_at hl 2 rfl) ?_
          refine lv_dup hx hb dX12_one_105 rfl ?_
          refine sl_gM_0_16_12 (v := 6) hx hb hts hown hK hP (show f_112 0 16 = 6 from ((hk_f_112 0 16 (by decide)).trans (by rw [ef_105, sg_up_s, sgu_n (by decide)]; exact (by rw [ef_102, sg_up_s, sgu_s])))) dX12_one_106 ?_
          refine lv_iconst (v := 1) hx hb dX12_one_109 ic_1 ?_
          refine lv_isub hx hb dX12_one_110 ?_
          refine W.eq (g2 := F0 m 111 ls [.int 5, .ref (h 0)]) (by rw [show (6 - 1 : Int32) = 5 from by decide]) ?_
          refine sl_pM_0_16_12 (x := 5) hx hb hts hown hh hA hK hP hS dX12_one_111 (fun f_130 H locs ef_130 hP hS => ?_)
          replace hs := hs.trans ((if_pos c_99).trans (spl_e ef_102 (spl_e ev_103 (spl_e ef_105 (spl2_e u_119 (spl_e ev_120 (spl_e ev_124 (spl_e ef_130 rfl))))))))
          have hI : sgI loM hiM f_130 := by rw [ef_130]; exact sgI.put hI 0 16 (show 0 ≤ (5 : Int32).toInt ∧ (5 : Int32).toInt ≤ 6 from by decide)
          have hF : sgK WkX12_one_5 f f_130 := sgK.put hF ef_130 (by rfl)
          refine lv_iload_n hx hb dX12_one_114 rfl (lv_at hl 1 rfl) ?_
          refine lv_bipush (v := 40) hx hb dX12_one_115 bp_40 ?_
          refine lv_icmp_ne (tgt := 124) hx hb dX12_one_117 (by decide) (fun c => ?_) (fun c => ?_)
          · skip
            have c_131 : r_96.toInt ≠ 40 := (by first | exact (cm_ne1 ti_40 c) | (have z := bn_ne c; have k1 : (40 : Int32).toInt = 40 := ti_40; omega))
            refine lv_iload_n hx hb dX12_one_124 rfl (lv_at hl 1 rfl) ?_
            refine lv_bipush (v := 45) hx hb dX12_one_125 bp_45 ?_
            refine lv_icmp_ne (tgt := 135) hx hb dX12_one_127 (by decide) (fun c => ?_) (fun c => ?_)
            · skip
              have c_133 : r_96.toInt ≠ 45 := (by first | exact (cm_ne1 ti_45 c) | (have z := bn_ne c; have k1 : (45 : Int32).toInt = 45 := ti_45; omega))
              refine lv_iload_n hx hb dX12_one_135 rfl (lv_at hl 0 rfl) ?_
              refine lv_if_ne (tgt := 143) hx hb dX12_one_136 (by decide) (fun c => ?_) (fun c => ?_)
              · skip
                have c_135 : r_115.toInt ≠ 0 := (by first | exact (cm_ne1 ti_0 c) | (have z := bn_ne c; have k1 : (0 : Int32).toInt = 0 := ti_0; omega))
                refine lv_iconst (v := 0) hx hb dX12_one_143 ic_0 ?_
                have q_137 : (f_130 0 13).toInt = v_120.toInt := (congrArg Int32.toInt (show f_130 0 13 = v_120 from (by rw [ef_130, sg_up_s, sgu_n (by decide)]; exact ev_120.symm)))
                have q_138 : (f_130 0 16).toInt = 5 := (congrArg Int32.toInt (show f_130 0 16 = 5 from (by rw [ef_130, sg_up_s, sgu_s]))).trans (by decide)
                have q_139 : (f_130 0 15).toInt = v_124.toInt := (congrArg Int32.toInt (show f_130 0 15 = v_124 from (by rw [ef_130, sg_up_s, sgu_n (by decide)]; exact ev_124.symm)))
                have k99 : (0 : Int32).toInt = 0 := ti_0
                exact hret _ _ _ _ (0) f_130 L Q dX12_one_144 hP hS ⟨⟨hI, hF, rfl, rfl⟩, trivial, (by omega), (by omega), (by omega), (Eq.trans (Eq.symm (hs.trans ((if_neg c_135).trans rfl))) hsp)⟩
              · skip
                have c_136 : r_115.toInt = 0 := (by first | exact (cm_eq1 ti_0 c) | (have z := Int32.toInt_inj.mpr c; have k1 : (0 : Int32).toInt = 0 := ti_0; omega))
                refine lv_iconst (v := 1) hx hb dX12_one_139 ic_1 ?_
                refine lv_goto (tgt := 144) hx hb dX12_one_140 (by decide) ?_
                have q_141 : (f_130 0 13).toInt = v_120.toInt := (congrArg Int32.toInt (show f_130 0 13 = v_120 from (by rw [ef_130, sg_up_s, sgu_n (by decide)]; exact ev_120.symm)))
                have q_142 : (f_130 0 16).toInt = 5 := (congrArg Int32.toInt (show f_130 0 16 = 5 from (by rw [ef_130, sg_up_s, sgu_s]))).trans (by decide)
                have q_143 : (f_130 0 15).toInt = v_124.toInt := (congrArg Int32.toInt (show f_130 0 15 = v_124 from (by rw [ef_130, sg_up_s, sgu_n (by decide)]; exact ev_124.symm)))
                have k99 : (1 : Int32).toInt = 1 := ti_1
                exact hret _ _ _ _ (1) f_130 L Q dX12_one_144 hP hS ⟨⟨hI, hF, rfl, rfl⟩, trivial, (by omega), (by omega), (by omega), (Eq.trans (Eq.symm (hs.trans ((if_pos c_136).trans rfl))) hsp)⟩
            · skip
              exfalso; have c_134 : r_96.toInt = 45 := (by first | exact (cm_eq1 ti_45 c) | (have z := Int32.toInt_inj.mpr c; have k1 : (45 : Int32).toInt = 45 := ti_45; omega)); first | exact absurd c_134 (by assumption) | omega
          · skip
            exfalso; have c_132 : r_96.toInt = 40 := (by first | exact (cm_eq1 ti_40 c) | (have z := Int32.toInt_inj.mpr c; have k1 : (40 : Int32).toInt = 40 := ti_40; omega)); first | exact absurd c_132 (by assumption) | omega
        · skip
          exfalso; have c_129 : r_96.toInt = 40 := (by first | exact (cm_eq1 ti_40 c) | (have z := Int32.toInt_inj.mpr c; have k1 : (40 : Int32).toInt = 40 := ti_40; omega)); first | exact absurd c_129 (by assumption) | omega
      · skip
        exfalso; have c_107 : r_96.toInt = 40 := (by first | exact (cm_eq1 ti_40 c) | (have z := Int32.toInt_inj.mpr c; have k1 : (40 : Int32).toInt = 40 := ti_40; omega)); first | exact absurd c_107 (by assumption) | omega
    · skip
      have c_100 : r_96.toInt ≠ 33 := (by first | exact (cm_ne1 ti_33 c) | (have z := bn_ne c; have k1 : (33 : Int32).toInt = 33 := ti_33; omega))
      replace hs := hs.trans ((if_neg c_100).trans rfl)
      refine lv_iload_n hx hb dX12_one_20 rfl (lv_at hl 0 rfl) ?_
      refine lv_bipush (v := 45) hx hb dX12_one_21 bp_45 ?_
      refine lv_icmp_eq (tgt := 32) hx hb dX12_one_23 (by decide) (fun c => ?_) (fun c => ?_)
      · skip
        have c_145 : r_96.toInt = 45 := (by first | exact (cm_eq1 ti_45 c) | (have z := Int32.toInt_inj.mpr c; have k1 : (45 : Int32).toInt = 45 := ti_45; omega))
        refine lv_aload_n hx hb dX12_one_32 rfl (lv_at hl 1 rfl) ?_
        have c_147 : v_1 = 5 := Int32.toInt_inj.mp (by have k9 : (5 : Int32).toInt = 5 := ti_5; omega)
        refine sl_gM_0_16_12 (v := 5) hx hb hts hown hK hP (show f 0 16 = 5 from (Eq.trans ev_1.symm c_147)) dX12_one_33 ?_
        refine lv_bipush (v := 6) hx hb dX12_one_36 bp_6 ?_
        refine lv_icmp_ne (tgt := 46) hx hb dX12_one_38 (by decide) (fun c => ?_) (fun c => absurd c (by decide))
        refine lv_aload_n hx hb dX12_one_46 rfl (lv_at hl 1 rfl) ?_
        refine lv_dup hx hb dX12_one_47 rfl ?_
        refine sl_gM_0_16_12 (v := 5) hx hb hts hown hK hP (show f 0 16 = 5 from (Eq.trans ev_1.symm c_147)) dX12_one_48 ?_
        refine lv_iconst (v := 1) hx hb dX12_one_51 ic_1 ?_
        refine lv_iadd hx hb dX12_one_52 ?_
        refine W.eq (g2 := F0 m 53 ls [.int 6, .ref (h 0)]) (by rw [show (5 + 1 : Int32) = 6 from by decide]) ?_
        refine sl_pM_0_16_12 (x := 6) hx hb hts hown hh hA hK hP hS dX12_one_53 (fun f_148 H locs ef_148 hP hS => ?_)
        have hI : sgI loM hiM f_148 := by rw [ef_148]; exact sgI.put hI 0 16 (show 0 ≤ (6 : Int32).toInt ∧ (6 : Int32).toInt ≤ 6 from by decide)
        have hF : sgK WkX12_one_5 f f_148 := sgK.put hF ef_148 (by rfl)
        refine lv_aload_n hx hb dX12_one_56 rfl (lv_at hl 1 rfl) ?_
        refine lv_dup hx hb dX12_one_57 rfl ?_
        refine sl_gM_0_13_12 (v := v_5) hx hb hts hown hK hP (show f_148 0 13 = v_5 from (by rw [ef_148, sg_up_s, sgu_n (by decide)]; exact ev_5.symm)) dX12_one_58 ?_
        refine lv_iconst (v := 1) hx hb dX12_one_61 ic_1 ?_
        refine lv_iadd hx hb dX12_one_62 ?_
        refine lv_topi (fun v_149 ev_149 => ?_)
        have q_150 : v_149.toInt = v_5.toInt + 1 := by rw [ev_149]; first | exact cm_add ti_1 (by omega) (by omega) | (have k1 : (1 : Int32).toInt = 1 := ti_1; exact (bn_addI (by omega) (by omega)).trans (by omega))
        refine sl_pM_0_13_12 (x := v_149) hx hb hts hown hh hA hK hP hS dX12_one_63 (fun f_151 H locs ef_151 hP hS => ?_)
        have hI : sgI loM hiM f_151 := by rw [ef_151]; exact sgI.put hI 0 13 (show 0 ≤ (v_149 : Int32).toInt ∧ (v_149 : Int32).toInt ≤ 120 from ⟨by omega, by omega⟩)
        have hF : sgK WkX12_one_5 f f_151 := sgK.put hF ef_151 (by rfl)
        refine lv_iload_n hx hb dX12_one_66 rfl (lv_at hl 0 rfl) ?_
        refine lv_bipush (v := 40) hx hb dX12_one_67 bp_40 ?_
        refine lv_icmp_ne (tgt := 79) hx hb dX12_one_69 (by decide) (fun c => ?_) (fun c => ?_)
        · skip
          have c_152 : r_96.toInt ≠ 40 := (by first | exact (cm_ne1 ti_40 c) | (have z := bn_ne c; have k1 : (40 : Int32).toInt = 40 := ti_40; omega))
          refine lv_aload_n hx hb dX12_one_79 rfl (lv_at hl 1 rfl) ?_
          have q_154 : (f_151 0 16).toInt = 6 := (congrArg Int32.toInt (show f_151 0 16 = 6 from (by rw [ef_151, sg_up_s, sgu_n (by decide)]; exact (by rw [ef_148, sg_up_s, sgu_s])))).trans (by decide)
          have q_155 : (f_151 0 15).toInt = v_3.toInt := (congrArg Int32.toInt (show f_151 0 15 = v_3 from (by rw [ef_151, sg_up_s, sgu_n (by decide)]; exact (by rw [ef_148, sg_up_s, sgu_n (by decide)]; exact ev_3.symm))))
          have q_157 : (f_151 0 13).toInt = v_149.toInt := (congrArg Int32.toInt (show f_151 0 13 = v_149 from (by rw [ef_151, sg_up_s, sgu_s])))
          refine sg_calli (va_runV (As := []) (rest := []) ⟨hx, hb, hml, hown, hts⟩ (kX12_one_6 l D ca za h hh f_151 L Q hI (by omega) (by omega) H.size) (sl_c12_one_1_0_0_20_12 hts ⟨Nat.le_of_ble_eq_true rfl, Nat.le_of_ble_eq_true rfl⟩) (sl_vM_0 hA hK hP hS hZ) rfl rfl hl.1 rfl (lv_room (Nat.le_of_ble_eq_true rfl)) dX12_one_80 ⟨Nat.le_refl _, Nat.le_refl _⟩) hA hS (fun r_161 f_158 L_159 Q_160 H locs hq hP hS => ?_)
          obtain ⟨⟨hI, hk_f_158, eL9, eQ9⟩, hq, p_162, p_163, p_164, u_165⟩ := hq
          rw [eL9, eQ9] at hP; clear eL9 eQ9
          have hF : sgK WkX12_one_5 f f_158 := sgK.tr hF hk_f_158 (by decide +kernel)
          obtain ⟨v_166, ev_166⟩ : ∃ z : Int32, z = f_158 0 13 := ⟨_, rfl⟩
          have q_167 : 0 ≤ v_166.toInt ∧ v_166.toInt ≤ 120 := by rw [ev_166]; exact hI 0 13
          have q_168 : (f_158 0 13).toInt = v_166.toInt := (congrArg Int32.toInt (show f_158 0 13 = v_166 from ev_166.symm))
          have q_169 : (f_158 0 16).toInt = 6 := (congrArg Int32.toInt (show f_158 0 16 = 6 from ((hk_f_158 0 16 (by decide)).trans (by rw [ef_151, sg_up_s, sgu_n (by decide)]; exact (by rw [ef_148, sg_up_s, sgu_s]))))).trans (by decide)
          obtain ⟨v_170, ev_170⟩ : ∃ z : Int32, z = f_158 0 15 := ⟨_, rfl⟩
          have q_171 : (-1) ≤ v_170.toInt ∧ v_170.toInt ≤ 120 := by rw [ev_170]; exact hI 0 15
          have q_172 : (f_158 0 15).toInt = v_170.toInt := (congrArg Int32.toInt (show f_158 0 15 = v_170 from ev_170.symm))
          refine lv_istore_n (lv' := [(2, .int r_161), (1, .int r_96), (0, .ref (h 0))]) hx hb dX12_one_83 rfl hl (by decide) rfl (fun ls hl => ?_)
          refine lv_iload_n hx hb dX12_one_84 rfl (lv_at hl 1 rfl) ?_
          refine lv_bipush (v := 40) hx hb dX12_one_85 bp_40 ?_
          refine lv_icmp_ne (tgt := 104) hx hb dX12_one_87 (by decide) (fun c => ?_) (fun c => ?_)
          · skip
            have c_174 : r_96.toInt ≠ 40 := (by first | exact (cm_ne1 ti_40 c) | (have z := bn_ne c; have k1 : (40 : Int32).toInt = 40 := ti_40; omega))
            refine lv_aload_n hx hb dX12_one_104 rfl (lv_at hl 2 rfl) ?_
            refine lv_dup hx hb dX12_one_105 rfl ?_
            refine sl_gM_0_16_12 (v := 6) hx hb hts hown hK hP (show f_158 0 16 = 6 from ((hk_f_158 0 16 (by decide)).trans (by rw [ef_151, sg_up_s, sgu_n (by decide)]; exact (by rw [ef_148, sg_up_s, sgu_s])))) dX12_one_106 ?_
            refine lv_iconst (v := 1) hx hb dX12_one_109 ic_1 ?_
            refine lv_isub hx hb dX12_one_110 ?_
            refine W.eq (g2 := F0 m 111 ls [.int 5, .ref (h 0)]) (by rw [show (6 - 1 : Int32) = 5 from by decide]) ?_
            refine sl_pM_0_16_12 (x := 5) hx hb hts hown hh hA hK hP hS dX12_one_111 (fun f_176 H locs ef_176 hP hS => ?_)
            have hI : sgI loM hiM f_176 := by rw [ef_176]; exact sgI.put hI 0 16 (show 0 ≤ (5 : Int32).toInt ∧ (5 : Int32).toInt ≤ 6 from by decide)
            have hF : sgK WkX12_one_5 f f_176 := sgK.put hF ef_176 (by rfl)
            refine lv_iload_n hx hb dX12_one_114 rfl (lv_at hl 1 rfl) ?_
            refine lv_bipush (v := 40) hx hb dX12_one_115 bp_40 ?_
            refine lv_icmp_ne (tgt := 124) hx hb dX12_one_117 (by decide) (fun c => ?_) (fun c => ?_)
            · skip
              have c_177 : r_96.toInt ≠ 40 := (by first | exact (cm_ne1 ti_40 c) | (have z := bn_ne c; have k1 : (40 : Int32).toInt = 40 := ti_40; omega))
              refine lv_iload_n hx hb dX12_one_124 rfl (lv_at hl 1 rfl) ?_
              refine lv_bipush (v := 45) hx hb dX12_one_125 bp_45 ?_
              refine lv_icmp_ne (tgt := 135) hx hb dX12_one_127 (by decide) (fun c => ?_) (fun c => ?_)
              · skip
                exfalso; have c_179 : r_96.toInt ≠ 45 := (by first | exact (cm_ne1 ti_45 c) | (have z := bn_ne c; have k1 : (45 : Int32).toInt = 45 := ti_45; omega)); first | exact absurd (by assumption) c_179 | omega
              · skip
                have c_180 : r_96.toInt = 45 := (by first | exact (cm_eq1 ti_45 c) | (have z := Int32.toInt_inj.mpr c; have k1 : (45 : Int32).toInt = 45 := ti_45; omega))
                refine lv_iload_n hx hb dX12_one_130 rfl (lv_at hl 0 rfl) ?_
                refine lv_ineg hx hb dX12_one_131 ?_
                refine lv_topi (fun v_181 ev_181 => ?_)
                refine lv_goto (tgt := 144) hx hb dX12_one_132 (by decide) ?_
                have q_182 : (f_176 0 13).toInt = v_166.toInt := (congrArg Int32.toInt (show f_176 0 13 = v_166 from (by rw [ef_176, sg_up_s, sgu_n (by decide)]; exact ev_166.symm)))
                have q_183 : (f_176 0 16).toInt = 5 := (congrArg Int32.toInt (show f_176 0 16 = 5 from (by rw [ef_176, sg_up_s, sgu_s]))).trans (by decide)
                have q_184 : (f_176 0 15).toInt = v_170.toInt := (congrArg Int32.toInt (show f_176 0 15 = v_170 from (by rw [ef_176, sg_up_s, sgu_n (by decide)]; exact ev_170.symm)))
                exact hret _ _ _ _ (v_181) f_176 L Q dX12_one_144 hP hS ⟨⟨hI, hF, rfl, rfl⟩, trivial, (by omega), (by omega), (by omega), (Eq.trans (Eq.symm (hs.trans ((if_pos c_145).trans (spl_e ef_148 (spl_e ev_149 (spl_e ef_151 (spl2_e u_165 (spl_e ev_166 (spl_e ev_170 (spl_e ef_176 (spl_e ev_181 rfl))))))))))) hsp)⟩
            · skip
              exfalso; have c_178 : r_96.toInt = 40 := (by first | exact (cm_eq1 ti_40 c) | (have z := Int32.toInt_inj.mpr c; have k1 : (40 : Int32).toInt = 40 := ti_40; omega)); first | exact absurd c_178 (by assumption) | omega
          · skip
            exfalso; have c_175 : r_96.toInt = 40 := (by first | exact (cm_eq1 ti_40 c) | (have z := Int32.toInt_inj.mpr c; have k1 : (40 : Int32).toInt = 40 := ti_40; omega)); first | exact absurd c_175 (by assumption) | omega
        · skip
          exfalso; have c_153 : r_96.toInt = 40 := (by first | exact (cm_eq1 ti_40 c) | (have z := Int32.toInt_inj.mpr c; have k1 : (40 : Int32).toInt = 40 := ti_40; omega)); first | exact absurd c_153 (by assumption) | omega
      · skip
        have c_146 : r_96.toInt ≠ 45 := (by first | exact (cm_ne1 ti_45 c) | (have z := bn_ne c; have k1 : (45 : Int32).toInt = 45 := ti_45; omega))
        replace hs := hs.trans ((if_neg c_146).trans rfl)
        refine lv_iload_n hx hb dX12_one_26 rfl (lv_at hl 0 rfl) ?_
        refine lv_bipush (v := 40) hx hb dX12_one_27 bp_40 ?_
        refine lv_icmp_ne (tgt := 145) hx hb dX12_one_29 (by decide) (fun c => ?_) (fun c => ?_)
        · skip
          have c_186 : r_96.toInt ≠ 40 := (by first | exact (cm_ne1 ti_40 c) | (have z := bn_ne c; have k1 : (40 : Int32).toInt = 40 := ti_40; omega))
          refine lv_iload_n hx hb dX12_one_145 rfl (lv_at hl 0 rfl) ?_
          refine sg_calli (va_runS (As := [.int r_96]) (rest := []) ⟨hx, hb, hml, hown, hts⟩ (kX12_nameOf l D ca za h hh f L Q hI r_96 ⟨by omega, by omega⟩ H.size) (va_cwS 1 hts (gw_S (fun _ h => List.mem_cons_of_mem _ h) mw_869 mw_870 mw_619 mw_868) rfl rfl rfl hd_yX12_nameOf.2 ⟨Nat.le_of_ble_eq_true rfl, Nat.le_of_ble_eq_true rfl⟩) (sg_preS hA hK hP hS hZ) rfl rfl hl.1 rfl (lv_room (Nat.le_of_ble_eq_true rfl)) dX12_one_146 ⟨Nat.le_refl _, Nat.le_refl _⟩) hA hS (fun r_191 f_188 L_189 Q_190 H locs hq hP hS => ?_)
          obtain ⟨⟨ef9, eL9, eQ9⟩, hq, p_192, u_193⟩ := hq
          replace hs := hs.trans ((if_neg c_186).trans (spl_e u_193 rfl))
          rw [ef9, eL9, eQ9] at hP; clear ef9 eL9 eQ9
          refine lv_istore_n (lv' := [(2, .int r_191), (1, .int r_96), (0, .ref (h 0))]) hx hb dX12_one_149 rfl hl (by decide) rfl (fun ls hl => ?_)
          refine lv_iload_n hx hb dX12_one_150 rfl (lv_at hl 0 rfl) ?_
          refine lv_if_lt (tgt := 171) hx hb dX12_one_151 (by decide) (fun c => ?_) (fun c => ?_)
          · skip
            have c_194 : r_191.toInt < 0 := (by first | exact (cm_lt1 ti_0 c) | (have z := bn_lt c; have k1 : (0 : Int32).toInt = 0 := ti_0; omega))
            refine lv_iconst (v := 0) hx hb dX12_one_171 ic_0 ?_
            refine lv_istore_n (lv' := [(3, .int 0), (2, .int r_191), (1, .int r_96), (0, .ref (h 0))]) hx hb dX12_one_172 rfl hl (by decide) rfl (fun ls hl => ?_)
            refine lv_iconst (v := 0) hx hb dX12_one_173 ic_0 ?_
            refine lv_istore (lv' := [(4, .int 0), (3, .int 0), (2, .int r_191), (1, .int r_96), (0, .ref (h 0))]) hx hb dX12_one_174 hl (by decide) rfl (fun ls hl => ?_)
            exact loop_176 5 0 0 f _ _ _ (hs.trans ((if_pos c_194).trans rfl)) (by have kc0 : (0 : Int32).toInt = 0 := ti_0; have kc1 : (0 : Int32).toInt = 0 := ti_0; omega) (by have zz0_15 : (f 0 15).toInt = v_3.toInt := (congrArg Int32.toInt (show f 0 15 = v_3 from ev_3.symm)); exact ⟨by omega, by omega⟩) (by decide) (by have kc0 : (0 : Int32).toInt = 0 := ti_0; have kc1 : (0 : Int32).toInt = 0 := ti_0; have zz0_13 : (f 0 13).toInt = v_5.toInt := (congrArg Int32.toInt (show f 0 13 = v_5 from ev_5.symm)); omega) (by have kc0 : (0 : Int32).toInt = 0 := ti_0; have kc1 : (0 : Int32).toInt = 0 := ti_0; have zz0_16 : (f 0 16).toInt = v_1.toInt := (congrArg Int32.toInt (show f 0 16 = v_1 from ev_1.symm)); omega) (by have kc0 : (0 : Int32).toInt = 0 := ti_0; have kc1 : (0 : Int32).toInt = 0 := ti_0; have zz0_15 : (f 0 15).toInt = v_3.toInt := (congrArg Int32.toInt (show f 0 15 = v_3 from ev_3.symm)); have zz0_16 : (f 0 16).toInt = v_1.toInt := (congrArg Int32.toInt (show f 0 16 = v_1 from ev_1.symm)); omega) hI hF hP hS (lv_sub hl [4, 1, 0] rfl)
          · skip
            have c_195 : 0 ≤ r_191.toInt := (by first | exact (cm_nlt1 ti_0 c) | (have z := bn_nlt c; have k1 : (0 : Int32).toInt = 0 := ti_0; omega))
            refine lv_aload_n hx hb dX12_one_154 rfl (lv_at hl 2 rfl) ?_
            refine lv_dup hx hb dX12_one_155 rfl ?_
            refine sl_gM_0_13_12 (v := v_5) hx hb hts hown hK hP (show f 0 13 = v_5 from ev_5.symm) dX12_one_156 ?_
            refine lv_iconst (v := 1) hx hb dX12_one_159 ic_1 ?_
            refine lv_iadd hx hb dX12_one_160 ?_
            refine lv_topi (fun v_196 ev_196 => ?_)
            have q_197 : v_196.toInt = v_5.toInt + 1 := by rw [ev_196]; first | exact cm_add ti_1 (by omega) (by omega) | (have k1 : (1 : Int32).toInt = 1 := ti_1; exact (bn_addI (by omega) (by omega)).trans (by omega))
            refine sl_pM_0_13_12 (x := v_196) hx hb hts hown hh hA hK hP hS dX12_one_161 (fun f_198 H locs ef_198 hP hS => ?_)
            have hI : sgI loM hiM f_198 := by rw [ef_198]; exact sgI.put hI 0 13 (show 0 ≤ (v_196 : Int32).toInt ∧ (v_196 : Int32).toInt ≤ 120 from ⟨by omega, by omega⟩)
            have hF : sgK WkX12_one_5 f f_198 := sgK.put hF ef_198 (by rfl)
            refine lv_aload_n hx hb dX12_one_164 rfl (lv_at hl 2 rfl) ?_
            refine sl_gM_0_17_12 hx hb hts hown hK hP dX12_one_165 ?_
            refine lv_iload_n hx hb dX12_one_168 rfl (lv_at hl 0 rfl) ?_
            refine sg_iald hx hb hK hP 8 (by decide) 0 rfl rfl (i := r_191) (vp_in_iff.mpr ⟨by omega, by omega⟩) dX12_one_169 ?_
            refine lv_topi (fun v_199 ev_199 => ?_)
            have q_200 : 0 ≤ v_199.toInt ∧ v_199.toInt ≤ 60 := by rw [ev_199]; exact hI 8 _
            have q_201 : (f_198 0 13).toInt = v_196.toInt := (congrArg Int32.toInt (show f_198 0 13 = v_196 from (by rw [ef_198, sg_up_s, sgu_s])))
            have q_202 : (f_198 0 16).toInt = v_1.toInt := (congrArg Int32.toInt (show f_198 0 16 = v_1 from (by rw [ef_198, sg_up_s, sgu_n (by decide)]; exact ev_1.symm)))
            have q_203 : (f_198 0 15).toInt = v_3.toInt := (congrArg Int32.toInt (show f_198 0 15 = v_3 from (by rw [ef_198, sg_up_s, sgu_n (by decide)]; exact ev_3.symm)))
            exact hret _ _ _ _ (v_199) f_198 L Q dX12_one_170 hP hS ⟨⟨hI, hF, rfl, rfl⟩, trivial, (by omega), (by omega), (by omega), (Eq.trans (Eq.symm (hs.trans ((if_neg (Int.not_lt.mpr c_195)).trans (spl_e ev_196 (spl_e ef_198 (spl_e ev_199 rfl)))))) hsp)⟩
        · skip
          have c_187 : r_96.toInt = 40 := (by first | exact (cm_eq1 ti_40 c) | (have z := Int32.toInt_inj.mpr c; have k1 : (40 : Int32).toInt = 40 := ti_40; omega))
          refine lv_aload_n hx hb dX12_one_32 rfl (lv_at hl 1 rfl) ?_
          have c_205 : v_1 = 5 := Int32.toInt_inj.mp (by have k9 : (5 : Int32).toInt = 5 := ti_5; omega)
          refine sl_gM_0_16_12 (v := 5) hx hb hts hown hK hP (show f 0 16 = 5 from (Eq.trans ev_1.symm c_205)) dX12_one_33 ?_
          refine lv_bipush (v := 6) hx hb dX12_one_36 bp_6 ?_
          refine lv_icmp_ne (tgt := 46) hx hb dX12_one_38 (by decide) (fun c => ?_) (fun c => absurd c (by decide))
          refine lv_aload_n hx hb dX12_one_46 rfl (lv_at hl 1 rfl) ?_
          refine lv_dup hx hb dX12_one_47 rfl ?_
          refine sl_gM_0_16_12 (v := 5) hx hb hts hown hK hP (show f 0 16 = 5 from (Eq.trans ev_1.symm c_205)) dX12_one_48 ?_
          refine lv_iconst (v := 1) hx hb dX12_one_51 ic_1 ?_
          refine lv_iadd hx hb dX12_one_52 ?_
          refine W.eq (g2 := F0 m 53 ls [.int 6, .ref (h 0)]) (by rw [show (5 + 1 : Int32) = 6 from by decide]) ?_
          refine sl_pM_0_16_12 (x := 6) hx hb hts hown hh hA hK hP hS dX12_one_53 (fun f_206 H locs ef_206 hP hS => ?_)
          have hI : sgI loM hiM f_206 := by rw [ef_206]; exact sgI.put hI 0 16 (show 0 ≤ (6 : Int32).toInt ∧ (6 : Int32).toInt ≤ 6 from by decide)
          have hF : sgK WkX12_one_5 f f_206 := sgK.put hF ef_206 (by rfl)
          refine lv_aload_n hx hb dX12_one_56 rfl (lv_at hl 1 rfl) ?_
          refine lv_dup hx hb dX12_one_57 rfl ?_
          refine sl_gM_0_13_12 (v := v_5) hx hb hts hown hK hP (show f_206 0 13 = v_5 from (by rw [ef_206, sg_up_s, sgu_n (by decide)]; exact ev_5.symm)) dX12_one_58 ?_
          refine lv_iconst (v := 1) hx hb dX12_one_61 ic_1 ?_
          refine lv_iadd hx hb dX12_one_62 ?_
          refine lv_topi (fun v_207 ev_207 => ?_)
          have q_208 : v_207.toInt = v_5.toInt + 1 := by rw [ev_207]; first | exact cm_add ti_1 (by omega) (by omega) | (have k1 : (1 : Int32).toInt = 1 := ti_1; exact (bn_addI (by omega) (by omega)).trans (by omega))
          refine sl_pM_0_13_12 (x := v_207) hx hb hts hown hh hA hK hP hS dX12_one_63 (fun f_209 H locs ef_209 hP hS => ?_)
          have hI : sgI loM hiM f_209 := by rw [ef_209]; exact sgI.put hI 0 13 (show 0 ≤ (v_207 : Int32).toInt ∧ (v_207 : Int32).toInt ≤ 120 from ⟨by omega, by omega⟩)
          have hF : sgK WkX12_one_5 f f_209 := sgK.put hF ef_209 (by rfl)
          refine lv_iload_n hx hb dX12_one_66 rfl (lv_at hl 0 rfl) ?_
          refine lv_bipush (v := 40) hx hb dX12_one_67 bp_40 ?_
          refine lv_icmp_ne (tgt := 79) hx hb dX12_one_69 (by decide) (fun c => ?_) (fun c => ?_)
          · skip
            exfalso; have c_210 : r_96.toInt ≠ 40 := (by first | exact (cm_ne1 ti_40 c) | (have z := bn_ne c; have k1 : (40 : Int32).toInt = 40 := ti_40; omega)); first | exact absurd (by assumption) c_210 | omega
          · skip
            have c_211 : r_96.toInt = 40 := (by first | exact (cm_eq1 ti_40 c) | (have z := Int32.toInt_inj.mpr c; have k1 : (40 : Int32).toInt = 40 := ti_40; omega))
            refine lv_aload_n hx hb dX12_one_72 rfl (lv_at hl 1 rfl) ?_
            have q_212 : (f_209 0 16).toInt = 6 := (congrArg Int32.toInt (show f_209 0 16 = 6 from (by rw [ef_209, sg_up_s, sgu_n (by decide)]; exact (by rw [ef_206, sg_up_s, sgu_s])))).trans (by decide)
            have q_213 : (f_209 0 15).toInt = v_3.toInt := (congrArg Int32.toInt (show f_209 0 15 = v_3 from (by rw [ef_209, sg_up_s, sgu_n (by decide)]; exact (by rw [ef_206, sg_up_s, sgu_n (by decide)]; exact ev_3.symm))))
            have q_215 : (f_209 0 13).toInt = v_207.toInt := (congrArg Int32.toInt (show f_209 0 13 = v_207 from (by rw [ef_209, sg_up_s, sgu_s])))
            refine sg_calli (va_runV (As := []) (rest := []) ⟨hx, hb, hml, hown, hts⟩ (kX12_either_6 l D ca za h hh f_209 L Q hI (by omega) (by omega) H.size) (sl_c12_either_6_0_0_135_12 hts ⟨Nat.le_of_ble_eq_true rfl, Nat.le_of_ble_eq_true rfl⟩) (sl_vM_0 hA hK hP hS hZ) rfl rfl hl.1 rfl (lv_room (Nat.le_of_ble_eq_true rfl)) dX12_one_73 ⟨Nat.le_refl _, Nat.le_refl _⟩) hA hS (fun r_219 f_216 L_217 Q_218 H locs hq hP hS => ?_)
            obtain ⟨⟨hI, hk_f_216, eL9, eQ9⟩, hq, p_220, p_221, p_222, u_223⟩ := hq
            rw [eL9, eQ9] at hP; clear eL9 eQ9
            have hF : sgK WkX12_one_5 f f_216 := sgK.tr hF hk_f_216 (by decide +kernel)
            obtain ⟨v_224, ev_224⟩ : ∃ z : Int32, z = f_216 0 13 := ⟨_, rfl⟩
            have q_225 : 0 ≤ v_224.toInt ∧ v_224.toInt ≤ 120 := by rw [ev_224]; exact hI 0 13
            have q_226 : (f_216 0 13).toInt = v_224.toInt := (congrArg Int32.toInt (show f_216 0 13 = v_224 from ev_224.symm))
            have q_227 : (f_216 0 16).toInt = 6 := (congrArg Int32.toInt (show f_216 0 16 = 6 from ((hk_f_216 0 16 (by decide)).trans (by rw [ef_209, sg_up_s, sgu_n (by decide)]; exact (by rw [ef_206, sg_up_s, sgu_s]))))).trans (by decide)
            obtain ⟨v_228, ev_228⟩ : ∃ z : Int32, z = f_216 0 15 := ⟨_, rfl⟩
            have q_229 : (-1) ≤ v_228.toInt ∧ v_228.toInt ≤ 120 := by rw [ev_228]; exact hI 0 15
            have q_230 : (f_216 0 15).toInt = v_228.toInt := (congrArg Int32.toInt (show f_216 0 15 = v_228 from ev_228.symm))
            refine lv_goto (tgt := 83) hx hb dX12_one_76 (by decide) ?_
            refine lv_istore_n (lv' := [(2, .int r_219), (1, .int r_96), (0, .ref (h 0))]) hx hb dX12_one_83 rfl hl (by decide) rfl (fun ls hl => ?_)
            refine lv_iload_n hx hb dX12_one_84 rfl (lv_at hl 1 rfl) ?_
            refine lv_bipush (v := 40) hx hb dX12_one_85 bp_40 ?_
            refine lv_icmp_ne (tgt := 104) hx hb dX12_one_87 (by decide) (fun c => ?_) (fun c => ?_)
            · skip
              exfalso; have c_232 : r_96.toInt ≠ 40 := (by first | exact (cm_ne1 ti_40 c) | (have z := bn_ne c; have k1 : (40 : Int32).toInt = 40 := ti_40; omega)); first | exact absurd (by assumption) c_232 | omega
            · skip
              have c_233 : r_96.toInt = 40 := (by first | exact (cm_eq1 ti_40 c) | (have z := Int32.toInt_inj.mpr c; have k1 : (40 : Int32).toInt = 40 := ti_40; omega))
              refine lv_aload_n hx hb dX12_one_90 rfl (lv_at hl 2 rfl) ?_
              refine lv_bipush (v := 41) hx hb dX12_one_91 bp_41 ?_
              have q_236 : (f_216 0 14).toInt = v_90.toInt := (congrArg Int32.toInt (show f_216 0 14 = v_90 from ((hk_f_216 0 14 (by decide)).trans (by rw [ef_209, sg_up_s, sgu_n (by decide)]; exact (by rw [ef_206, sg_up_s, sgu_n (by decide)]; exact ev_90.symm)))))
              refine sg_calli (va_runV (As := [.int 41]) (rest := []) ⟨hx, hb, hml, hown, hts⟩ (kX12_takes_41 l D ca za h hh f_216 L Q hI H.size) (sl_c12_takes_1_0_0_20_12 hts ⟨Nat.le_of_ble_eq_true rfl, Nat.le_of_ble_eq_true rfl⟩) (sl_vM_0 hA hK hP hS hZ) rfl rfl hl.1 rfl (lv_room (Nat.le_of_ble_eq_true rfl)) dX12_one_93 ⟨Nat.le_refl _, Nat.le_refl _⟩) hA hS (fun r_242 f_239 L_240 Q_241 H locs hq hP hS => ?_)
              obtain ⟨⟨hI, hk_f_239, eL9, eQ9⟩, hq, u_243⟩ := hq
              rw [eL9, eQ9] at hP; clear eL9 eQ9
              have hF : sgK WkX12_one_5 f f_239 := sgK.tr hF hk_f_239 (by decide +kernel)
              obtain ⟨v_244, ev_244⟩ : ∃ z : Int32, z = f_239 0 13 := ⟨_, rfl⟩
              replace hs := hs.trans ((if_pos c_187).trans (spl_e ef_206 (spl_e ev_207 (spl_e ef_209 (spl2_e u_223 (spl_e ev_224 (spl_e ev_228 (spl2_e u_243 (spl_e ev_244 rfl)))))))))
              have q_245 : 0 ≤ v_244.toInt ∧ v_244.toInt ≤ 120 := by rw [ev_244]; exact hI 0 13
              have q_246 : (f_239 0 13).toInt = v_244.toInt := (congrArg Int32.toInt (show f_239 0 13 = v_244 from ev_244.symm))
              have k_248 : (41 : Int32).toInt = 41 := by decide
              rcases hq with ⟨rfl, hq⟩ | ⟨rfl, hq⟩
              · skip
                have hc_249 := hq
                refine lv_if_ne (tgt := 104) hx hb dX12_one_96 (by decide) (fun c => ?_) (fun c => absurd c (by decide))
                refine lv_aload_n hx hb dX12_one_104 rfl (lv_at hl 2 rfl) ?_
                refine lv_dup hx hb dX12_one_105 rfl ?_
                refine sl_gM_0_16_12 (v := 6) hx hb hts hown hK hP (show f_239 0 16 = 6 from ((hk_f_239 0 16 (by decide)).trans ((hk_f_216 0 16 (by decide)).trans (by rw [ef_209, sg_up_s, sgu_n (by decide)]; exact (by rw [ef_206, sg_up_s, sgu_s]))))) dX12_one_106 ?_
                refine lv_iconst (v := 1) hx hb dX12_one_109 ic_1 ?_
                refine lv_isub hx hb dX12_one_110 ?_
                refine W.eq (g2 := F0 m 111 ls [.int 5, .ref (h 0)]) (by rw [show (6 - 1 : Int32) = 5 from by decide]) ?_
                refine sl_pM_0_16_12 (x := 5) hx hb hts hown hh hA hK hP hS dX12_one_111 (fun f_250 H locs ef_250 hP hS => ?_)
                have hI : sgI loM hiM f_250 := by rw [ef_250]; exact sgI.put hI 0 16 (show 0 ≤ (5 : Int32).toInt ∧ (5 : Int32).toInt ≤ 6 from by decide)
                have hF : sgK WkX12_one_5 f f_250 := sgK.put hF ef_250 (by rfl)
                refine lv_iload_n hx hb dX12_one_114 rfl (lv_at hl 1 rfl) ?_
                refine lv_bipush (v := 40) hx hb dX12_one_115 bp_40 ?_
                refine lv_icmp_ne (tgt := 124) hx hb dX12_one_117 (by decide) (fun c => ?_) (fun c => ?_)
                · skip
                  exfalso; have c_251 : r_96.toInt ≠ 40 := (by first | exact (cm_ne1 ti_40 c) | (have z := bn_ne c; have k1 : (40 : Int32).toInt = 40 := ti_40; omega)); first | exact absurd (by assumption) c_251 | omega
                · skip
                  have c_252 : r_96.toInt = 40 := (by first | exact (cm_eq1 ti_40 c) | (have z := Int32.toInt_inj.mpr c; have k1 : (40 : Int32).toInt = 40 := ti_40; omega))
                  refine lv_iload_n hx hb dX12_one_120 rfl (lv_at hl 0 rfl) ?_
                  refine lv_goto (tgt := 144) hx hb dX12_one_121 (by decide) ?_
                  have q_253 : (f_250 0 13).toInt = v_244.toInt := (congrArg Int32.toInt (show f_250 0 13 = v_244 from (by rw [ef_250, sg_up_s, sgu_n (by decide)]; exact ev_244.symm)))
                  have q_254 : (f_250 0 16).toInt = 5 := (congrArg Int32.toInt (show f_250 0 16 = 5 from (by rw [ef_250, sg_up_s, sgu_s]))).trans (by decide)
                  have q_255 : (f_250 0 15).toInt = v_228.toInt := (congrArg Int32.toInt (show f_250 0 15 = v_228 from (by rw [ef_250, sg_up_s, sgu_n (by decide)]; exact ((hk_f_239 0 15 (by decide)).trans ev_228.symm))))
                  exact hret _ _ _ _ (r_219) f_250 L Q dX12_one_144 hP hS ⟨⟨hI, hF, rfl, rfl⟩, trivial, (by omega), (by omega), (by omega), (Eq.trans (Eq.symm (hs.trans ((if_pos rfl).trans (spl_e ef_250 rfl)))) hsp)⟩
              · skip
                have hc_249 := hq
                refine lv_if_ne (tgt := 104) hx hb dX12_one_96 (by decide) (fun c => absurd c (by decide)) (fun c => ?_)
                refine lv_aload_n hx hb dX12_one_99 rfl (lv_at hl 2 rfl) ?_
                refine sg_calli (va_runV (As := []) (rest := []) ⟨hx, hb, hml, hown, hts⟩ (kX12_wrong l D ca za h hh f_239 L Q hI H.size) (sl_c12_wrong_0_0_0_0_12 hts ⟨Nat.le_of_ble_eq_true rfl, Nat.le_of_ble_eq_true rfl⟩) (sl_vM_0 hA hK hP hS hZ) rfl rfl hl.1 rfl (lv_room (Nat.le_of_ble_eq_true rfl)) dX12_one_100 ⟨Nat.le_refl _, Nat.le_refl _⟩) hA hS (fun r_260 f_257 L_258 Q_259 H locs hq hP hS => ?_)
                obtain ⟨⟨hI, hk_f_257, eL9, eQ9⟩, hq, p_261, u_262⟩ := hq
                rw [eL9, eQ9] at hP; clear eL9 eQ9
                have hF : sgK WkX12_one_5 f f_257 := sgK.tr hF hk_f_257 (by decide +kernel)
                obtain ⟨v_263, ev_263⟩ : ∃ z : Int32, z = f_257 0 15 := ⟨_, rfl⟩
                have q_264 : (-1) ≤ v_263.toInt ∧ v_263.toInt ≤ 120 := by rw [ev_263]; exact hI 0 15
                have q_265 : (f_257 0 15).toInt = v_263.toInt := (congrArg Int32.toInt (show f_257 0 15 = v_263 from ev_263.symm))
                obtain rfl : r_260 = 0 := Int32.toInt_inj.mp (by have k9 : (0 : Int32).toInt = 0 := ti_0; omega)
                have q_266 : (f_257 0 13).toInt = v_244.toInt := (congrArg Int32.toInt (show f_257 0 13 = v_244 from ((hk_f_257 0 13 (by decide)).trans ev_244.symm)))
                have q_267 : (f_257 0 16).toInt = 6 := (congrArg Int32.toInt (show f_257 0 16 = 6 from ((hk_f_257 0 16 (by decide)).trans ((hk_f_239 0 16 (by decide)).trans ((hk_f_216 0 16 (by decide)).trans (by rw [ef_209, sg_up_s, sgu_n (by decide)]; exact (by rw [ef_206, sg_up_s, sgu_s]))))))).trans (by decide)
                have k99 : (0 : Int32).toInt = 0 := ti_0
                exact hret _ _ _ _ (0) f_257 L Q dX12_one_103 hP hS ⟨⟨hI, hF, rfl, rfl⟩, trivial, (by omega), (by omega), (by omega), (Eq.trans (Eq.symm (hs.trans ((if_neg (by decide)).trans (spl2_e u_262 (spl_e ev_263 rfl))))) hsp)⟩
  · skip
    have c_88 : 0 ≤ v_3.toInt := (by first | exact (cm_nlt1 ti_0 c) | (have z := bn_nlt c; have k1 : (0 : Int32).toInt = 0 := ti_0; omega))
    refine lv_iconst (v := 0) hx hb dX12_one_7 ic_0 ?_
    have q_270 : (f 0 13).toInt = v_5.toInt := (congrArg Int32.toInt (show f 0 13 = v_5 from ev_5.symm))
    have q_271 : (f 0 16).toInt = v_1.toInt := (congrArg Int32.toInt (show f 0 16 = v_1 from ev_1.symm))
    have q_272 : (f 0 15).toInt = v_3.toInt := (congrArg Int32.toInt (show f 0 15 = v_3 from ev_3.symm))
    have k99 : (0 : Int32).toInt = 0 := ti_0
    exact hret _ _ _ _ (0) f L Q dX12_one_8 hP hS ⟨⟨hI, hF, rfl, rfl⟩, trivial, (by omega), (by omega), (by omega), (Eq.trans (Eq.symm (hs.trans ((if_neg (Int.not_lt.mpr c_88)).trans rfl))) hsp)⟩

abbrev WkX12_product_5 : List (Nat × Nat × Option Nat) := [(0, 0, some 13), (0, 0, some 15), (0, 0, some 16)]
set_option maxHeartbeats 4000000 in
set_option maxRecDepth 100000 in
theorem kX12_product_5 (l : Launch) (D : va_G) (ca : Nat → ClassId) (za h : Nat → Nat) (hh : sgH 26 h) (f : sg_F) (L : sg_L) (Q : sg_Q) (hI : sgI loM hiM f) (p0 : 5 ≤ (f 0 16).toInt) (p1 : 0 ≤ (f 0 15).toInt ∨ (f 0 16).toInt = 5) (sz : Nat) : Met l yX12_product gwX12_product { frames := 8, cells := 0, slots := 0, locals := 181 } (sgP D vwCl (tyX ca) 26 h (eM ca h) zcM za f L Q sz [.ref (h 0)]) (sgQi D vwCl 26 h (eM ca h) sz (fun r f1 L1 Q1 => ((sgI loM hiM f1 ∧ sgK WkX12_product_5 f f1 ∧ L1 = L ∧ Q1 = Q) ∧ True ∧ ((f 0 13).toInt ≤ (f1 0 13).toInt) ∧ (5 ≤ (f1 0 16).toInt) ∧ (0 ≤ (f1 0 15).toInt ∨ (f1 0 16).toInt = 5) ∧ (r, f1) = sX12_product_5 f L))) 0 0 (sgA 26 h sz) := by
  refine sg_ofWi (cc := cX12_product) (maxL := 4) RX12 (by decide) rfl rfl (Nat.le_of_ble_eq_true rfl) ?_
  intro p e s m below meth cd Qz ls hx hb hml hown hts hK hZ hP hS hl hret
  have hA := sgY.self (n := 26) (h := h) (sz := s.heap.size)
  have hl : lv_has ls 4 [(0, .ref (h 0))] := hl
  obtain ⟨H, hH⟩ : ∃ z : Heap, z = s.heap := ⟨_, rfl⟩
  obtain ⟨locs, hlo⟩ : ∃ z : List Loc, z = [] := ⟨_, rfl⟩
  have hP : va_P D vwCl (sgw 26 h (eM ca h) f L Q) H := by rw [hH]; exact hP
  have hS : va_S (sgA 26 h s.heap.size) s.heap H locs := by rw [hH, hlo]; exact hS
  suffices hgo : W p l e ({ frames := 8, cells := 0, slots := 0, locals := 181 }) s m ([.ref (h 0)] : List Value).toArray below meth cd H locs 0 0 Qz (F0 m 0 ls []) by rw [hH, hlo] at hgo; exact hgo
  clear hH hlo
  obtain ⟨sp, hsp⟩ : ∃ z : Int32 × sg_F, z = sX12_product_5 f L := ⟨_, rfl⟩
  have hs : sp = sX12_product_5 f L := hsp
  obtain ⟨v_1, ev_1⟩ : ∃ z : Int32, z = f 0 16 := ⟨_, rfl⟩
  have q_2 : 0 ≤ v_1.toInt ∧ v_1.toInt ≤ 6 := by rw [ev_1]; exact hI 0 16
  obtain ⟨v_3, ev_3⟩ : ∃ z : Int32, z = f 0 15 := ⟨_, rfl⟩
  have q_4 : (-1) ≤ v_3.toInt ∧ v_3.toInt ≤ 120 := by rw [ev_3]; exact hI 0 15
  obtain ⟨v_5, ev_5⟩ : ∃ z : Int32, z = f 0 13 := ⟨_, rfl⟩
  have q_6 : 0 ≤ v_5.toInt ∧ v_5.toInt ≤ 120 := by rw [ev_5]; exact hI 0 13
  obtain ⟨v_7, ev_7⟩ : ∃ z : Int32, z = f 0 14 := ⟨_, rfl⟩
  have q_8 : 0 ≤ v_7.toInt ∧ v_7.toInt ≤ 120 := by rw [ev_7]; exact hI 0 14
  have o_9 : (f 0 16).toInt = v_1.toInt := (congrArg Int32.toInt (show f 0 16 = v_1 from ev_1.symm))
  have o_10 : (f 0 15).toInt = v_3.toInt := (congrArg Int32.toInt (show f 0 15 = v_3 from ev_3.symm))
  have o_11 : (f 0 13).toInt = v_5.toInt := (congrArg Int32.toInt (show f 0 13 = v_5 from ev_5.symm))
  have o_12 : (f 0 14).toInt = v_7.toInt := (congrArg Int32.toInt (show f 0 14 = v_7 from ev_7.symm))
  have hF : sgK WkX12_product_5 f f := sgK.rf
  have loop_10 : ∀ (n_10 : Nat) (y1_10 : Int32) (y2_10 : Int32) (fp_10 : sg_F) (H : Heap) (locs : List Loc) (ls : Array Slot), sp = sX12_product_5_l10 n_10 y1_10 y2_10 fp_10 L → 120 - (fp_10 0 13).toInt < (n_10 : Int) → 0 ≤ y2_10.toInt ∧ y2_10.toInt ≤ 255 → (f 0 13).toInt ≤ (fp_10 0 13).toInt → 5 ≤ (fp_10 0 16).toInt → 0 ≤ (fp_10 0 15).toInt ∨ (fp_10 0 16).toInt = 5 → y2_10.toInt = 0 ∨ (fp_10 0 13).toInt < (fp_10 0 14).toInt → sgI loM hiM fp_10 → sgK WkX12_product_5 f fp_10 → va_P D vwCl (sgw 26 h (eM ca h) fp_10 L Q) H → va_S (sgA 26 h s.heap.size) s.heap H locs → lv_has ls 4 [(0, .ref (h 0)), (1, .int y1_10), (2, .int y2_10)] → W p l e ({ frames := 8, cells := 0, slots := 0, locals := 181 }) s m ([.ref (h 0)] : List Value).toArray below meth cd H locs 0 0 Qz (F0 m 10 ls []) := by
    intro n_10
    induction n_10 with
    | zero => intro y1_10 y2_10 fp_10 H locs ls hs hm_10 hy0_10 hg0_10 hg1_10 hg2_10 hg3_10 hI hF hP hS hl; have zb := (show 0 ≤ (fp_10 0 13).toInt ∧ (fp_10 0 13).toInt ≤ 120 from hI 0 13); exact absurd hm_10 (by omega)
    | succ n_10 ih_10 =>
      intro y1_10 y2_10 fp_10 H locs ls hs hm_10 hy0_10 hg0_10 hg1_10 hg2_10 hg3_10 hI hF hP hS hl
      have hs : sp = sX12_product_5_h10 (sX12_product_5_l10 n_10) y1_10 y2_10 fp_10 L := hs
      obtain ⟨v_13, ev_13⟩ : ∃ z : Int32, z = fp_10 0 13 := ⟨_, rfl⟩
      have q_14 : 0 ≤ v_13.toInt ∧ v_13.toInt ≤ 120 := by rw [ev_13]; exact hI 0 13
      have q_15 : (fp_10 0 13).toInt = v_13.toInt := by rw [ev_13]
      obtain ⟨v_16, ev_16⟩ : ∃ z : Int32, z = fp_10 0 16 := ⟨_, rfl⟩
      have q_17 : 0 ≤ v_16.toInt ∧ v_16.toInt ≤ 6 := by rw [ev_16]; exact hI 0 16
      have q_18 : (fp_10 0 16).toInt = v_16.toInt := by rw [ev_16]
      obtain ⟨v_19, ev_19⟩ : ∃ z : Int32, z = fp_10 0 15 := ⟨_, rfl⟩
      have q_20 : (-1) ≤ v_19.toInt ∧ v_19.toInt ≤ 120 := by rw [ev_19]; exact hI 0 15
      have q_21 : (fp_10 0 15).toInt = v_19.toInt := by rw [ev_19]
      obtain ⟨v_22, ev_22⟩ : ∃ z : Int32, z = fp_10 0 14 := ⟨_, rfl⟩
      replace hs := hs.trans (spl_e ev_13 (spl_e ev_16 (spl_e ev_19 (spl_e ev_22 rfl))))
      have q_23 : 0 ≤ v_22.toInt ∧ v_22.toInt ≤ 120 := by rw [ev_22]; exact hI 0 14
      have q_24 : (fp_10 0 14).toInt = v_22.toInt := by rw [ev_22]
      refine lv_aload_n hx hb dX12_product_10 rfl (lv_at hl 0 rfl) ?_
      refine sl_gM_0_15_12 (v := v_19) hx hb hts hown hK hP (show fp_10 0 15 = v_19 from ev_19.symm) dX12_product_11 ?_
      refine lv_if_ge (tgt := 94) hx hb dX12_product_14 (by decide) (fun c => ?_) (fun c => ?_)
      · skip
        have c_25 : 0 ≤ v_19.toInt := (by first | exact (cm_le0 ti_0 c) | (have z := bn_le c; have k1 : (0 : Int32).toInt = 0 := ti_0; omega))
        refine lv_iload_n hx hb dX12_product_94 rfl (lv_at hl 1 rfl) ?_
        exact hret _ _ _ _ (y1_10) fp_10 L Q dX12_product_95 hP hS ⟨⟨hI, hF, rfl, rfl⟩, trivial, (by omega), (by omega), (by omega), (Eq.trans (Eq.symm (hs.trans ((if_neg (Int.not_lt.mpr c_25)).trans rfl))) hsp)⟩
      · skip
        have c_26 : v_19.toInt < 0 := (by first | exact (cm_nle0 ti_0 c) | (have z := bn_nle c; have k1 : (0 : Int32).toInt = 0 := ti_0; omega))
        replace hs := hs.trans ((if_pos c_26).trans rfl)
        refine lv_iload_n hx hb dX12_product_17 rfl (lv_at hl 2 rfl) ?_
        refine lv_bipush (v := 42) hx hb dX12_product_18 bp_42 ?_
        refine lv_icmp_eq (tgt := 35) hx hb dX12_product_20 (by decide) (fun c => ?_) (fun c => ?_)
        · skip
          have c_31 : y2_10.toInt = 42 := (by first | exact (cm_eq1 ti_42 c) | (have z := Int32.toInt_inj.mpr c; have k1 : (42 : Int32).toInt = 42 := ti_42; omega))
          refine lv_aload_n hx hb dX12_product_35 rfl (lv_at hl 0 rfl) ?_
          refine lv_dup hx hb dX12_product_36 rfl ?_
          refine sl_gM_0_13_12 (v := v_13) hx hb hts hown hK hP (show fp_10 0 13 = v_13 from ev_13.symm) dX12_product_37 ?_
          refine lv_iconst (v := 1) hx hb dX12_product_40 ic_1 ?_
          refine lv_iadd hx hb dX12_product_41 ?_
          refine lv_topi (fun v_33 ev_33 => ?_)
          have q_34 : v_33.toInt = v_13.toInt + 1 := by rw [ev_33]; first | exact cm_add ti_1 (by omega) (by omega) | (have k1 : (1 : Int32).toInt = 1 := ti_1; exact (bn_addI (by omega) (by omega)).trans (by omega))
          refine sl_pM_0_13_12 (x := v_33) hx hb hts hown hh hA hK hP hS dX12_product_42 (fun f_35 H locs ef_35 hP hS => ?_)
          have hI : sgI loM hiM f_35 := by rw [ef_35]; exact sgI.put hI 0 13 (show 0 ≤ (v_33 : Int32).toInt ∧ (v_33 : Int32).toInt ≤ 120 from ⟨by omega, by omega⟩)
          have hF : sgK WkX12_product_5 f f_35 := sgK.put hF ef_35 (by rfl)
          refine lv_aload_n hx hb dX12_product_45 rfl (lv_at hl 0 rfl) ?_
          have q_36 : (f_35 0 16).toInt = v_16.toInt := (congrArg Int32.toInt (show f_35 0 16 = v_16 from (by rw [ef_35, sg_up_s, sgu_n (by decide)]; exact ev_16.symm)))
          have q_37 : (f_35 0 15).toInt = v_19.toInt := (congrArg Int32.toInt (show f_35 0 15 = v_19 from (by rw [ef_35, sg_up_s, sgu_n (by decide)]; exact ev_19.symm)))
          have q_39 : (f_35 0 13).toInt = v_33.toInt := (congrArg Int32.toInt (show f_35 0 13 = v_33 from (by rw [ef_35, sg_up_s, sgu_s])))
          refine sg_calli (va_runV (As := []) (rest := []) ⟨hx, hb, hml, hown, hts⟩ (kX12_one_5 l D ca za h hh f_35 L Q hI (by omega) (by omega) H.size) (sl_c12_one_7_0_0_157_12 hts ⟨Nat.le_of_ble_eq_true rfl, Nat.le_of_ble_eq_true rfl⟩) (sl_vM_0 hA hK hP hS hZ) rfl rfl hl.1 rfl (lv_room (Nat.le_of_ble_eq_true rfl)) dX12_product_46 ⟨Nat.le_refl _, Nat.le_refl _⟩) hA hS (fun r_43 f_40 L_41 Q_42 H locs hq hP hS => ?_)
          obtain ⟨⟨hI, hk_f_40, eL9, eQ9⟩, hq, p_44, p_45, p_46, u_47⟩ := hq
          rw [eL9, eQ9] at hP; clear eL9 eQ9
          have hF : sgK WkX12_product_5 f f_40 := sgK.tr hF hk_f_40 (by decide +kernel)
          obtain ⟨v_48, ev_48⟩ : ∃ z : Int32, z = f_40 0 13 := ⟨_, rfl⟩
          have q_49 : 0 ≤ v_48.toInt ∧ v_48.toInt ≤ 120 := by rw [ev_48]; exact hI 0 13
          have q_50 : (f_40 0 13).toInt = v_48.toInt := (congrArg Int32.toInt (show f_40 0 13 = v_48 from ev_48.symm))
          obtain ⟨v_51, ev_51⟩ : ∃ z : Int32, z = f_40 0 16 := ⟨_, rfl⟩
          have q_52 : 0 ≤ v_51.toInt ∧ v_51.toInt ≤ 6 := by rw [ev_51]; exact hI 0 16
          have q_53 : (f_40 0 16).toInt = v_51.toInt := (congrArg Int32.toInt (show f_40 0 16 = v_51 from ev_51.symm))
          obtain ⟨v_54, ev_54⟩ : ∃ z : Int32, z = f_40 0 15 := ⟨_, rfl⟩
          have q_55 : (-1) ≤ v_54.toInt ∧ v_54.toInt ≤ 120 := by rw [ev_54]; exact hI 0 15
          have q_56 : (f_40 0 15).toInt = v_54.toInt := (congrArg Int32.toInt (show f_40 0 15 = v_54 from ev_54.symm))
          refine lv_istore_n (lv' := [(3, .int r_43), (0, .ref (h 0)), (1, .int y1_10), (2, .int y2_10)]) hx hb dX12_product_49 rfl hl (by decide) rfl (fun ls hl => ?_)
          refine lv_iload_n hx hb dX12_product_50 rfl (lv_at hl 3 rfl) ?_
          refine lv_bipush (v := 42) hx hb dX12_product_51 bp_42 ?_
          refine lv_icmp_ne (tgt := 62) hx hb dX12_product_53 (by decide) (fun c => ?_) (fun c => ?_)
          · skip
            exfalso; have c_58 : y2_10.toInt ≠ 42 := (by first | exact (cm_ne1 ti_42 c) | (have z := bn_ne c; have k1 : (42 : Int32).toInt = 42 := ti_42; omega)); first | exact absurd (by assumption) c_58 | omega
          · skip
            have c_59 : y2_10.toInt = 42 := (by first | exact (cm_eq1 ti_42 c) | (have z := Int32.toInt_inj.mpr c; have k1 : (42 : Int32).toInt = 42 := ti_42; omega))
            refine lv_iload_n hx hb dX12_product_56 rfl (lv_at hl 2 rfl) ?_
            refine lv_iload_n hx hb dX12_product_57 rfl (lv_at hl 0 rfl) ?_
            refine lv_imul hx hb dX12_product_58 ?_
            refine lv_topi (fun v_60 ev_60 => ?_)
            refine lv_goto (tgt := 85) hx hb dX12_product_59 (by decide) ?_
            refine lv_istore_n (lv' := [(1, .int v_60), (3, .int r_43), (0, .ref (h 0)), (2, .int y2_10)]) hx hb dX12_product_85 rfl hl (by decide) rfl (fun ls hl => ?_)
            refine lv_aload_n hx hb dX12_product_86 rfl (lv_at hl 2 rfl) ?_
            have q_62 : (f_40 0 14).toInt = v_22.toInt := (congrArg Int32.toInt (show f_40 0 14 = v_22 from ((hk_f_40 0 14 (by decide)).trans (by rw [ef_35, sg_up_s, sgu_n (by decide)]; exact ev_22.symm))))
            refine sg_calli (va_runV (As := []) (rest := []) ⟨hx, hb, hml, hown, hts⟩ (kX12_byteAt l D ca za h hh f_40 L Q hI H.size) (sl_c12_byteAt_0_0_0_0_12 hts ⟨Nat.le_of_ble_eq_true rfl, Nat.le_of_ble_eq_true rfl⟩) (sl_vM_0 hA hK hP hS hZ) rfl rfl hl.1 rfl (lv_room (Nat.le_of_ble_eq_true rfl)) dX12_product_87 ⟨Nat.le_refl _, Nat.le_refl _⟩) hA hS (fun r_66 f_63 L_64 Q_65 H locs hq hP hS => ?_)
            obtain ⟨⟨ef9, eL9, eQ9⟩, hq, p_67, u_68⟩ := hq
            rw [ef9, eL9, eQ9] at hP; clear ef9 eL9 eQ9
            refine lv_istore_n (lv' := [(2, .int r_66), (1, .int v_60), (3, .int r_43), (0, .ref (h 0))]) hx hb dX12_product_90 rfl hl (by decide) rfl (fun ls hl => ?_)
            refine lv_goto (tgt := 10) hx hb dX12_product_91 (by decide) ?_
            exact ih_10 v_60 r_66 f_40 _ _ _ (hs.trans ((if_pos c_31).trans (spl_e ev_33 (spl_e ef_35 (spl2_e u_47 (spl_e ev_48 (spl_e ev_51 (spl_e ev_54 (spl_e ev_60 (spl_e u_68 rfl)))))))))) (by have zz0_13 : (f_40 0 13).toInt = v_48.toInt := (congrArg Int32.toInt (show f_40 0 13 = v_48 from ev_48.symm)); omega) ⟨by omega, by omega⟩ (by have zz0_13 : (f_40 0 13).toInt = v_48.toInt := (congrArg Int32.toInt (show f_40 0 13 = v_48 from ev_48.symm)); omega) (by have zz0_16 : (f_40 0 16).toInt = v_51.toInt := (congrArg Int32.toInt (show f_40 0 16 = v_51 from ev_51.symm)); omega) (by have zz0_15 : (f_40 0 15).toInt = v_54.toInt := (congrArg Int32.toInt (show f_40 0 15 = v_54 from ev_54.symm)); have zz0_16 : (f_40 0 16).toInt = v_51.toInt := (congrArg Int32.toInt (show f_40 0 16 = v_51 from ev_51.symm)); omega) (by have zz0_13 : (f_40 0 13).toInt = v_48.toInt := (congrArg Int32.toInt (show f_40 0 13 = v_48 from ev_48.symm)); have zz0_14 : (f_40 0 14).toInt = v_22.toInt := (congrArg Int32.toInt (show f_40 0 14 = v_22 from ((hk_f_40 0 14 (by decide)).trans (by rw [ef_35, sg_up_s, sgu_n (by decide)]; exact ev_22.symm)))); omega) hI hF hP hS (lv_sub hl [3, 1, 0] rfl)
        · skip
          have c_32 : y2_10.toInt ≠ 42 := (by first | exact (cm_ne1 ti_42 c) | (have z := bn_ne c; have k1 : (42 : Int32).toInt = 42 := ti_42; omega))
          replace hs := hs.trans ((if_neg c_32).trans rfl)
          refine lv_iload_n hx hb dX12_product_23 rfl (lv_at hl 2 rfl) ?_
          refine lv_bipush (v := 47) hx hb dX12_product_24 bp_47 ?_
          refine lv_icmp_eq (tgt := 35) hx hb dX12_product_26 (by decide) (fun c => ?_) (fun c => ?_)
          · skip
            have c_69 : y2_10.toInt = 47 := (by first | exact (cm_eq1 ti_47 c) | (have z := Int32.toInt_inj.mpr c; have k1 : (47 : Int32).toInt = 47 := ti_47; omega))
            refine lv_aload_n hx hb dX12_product_35 rfl (lv_at hl 0 rfl) ?_
            refine lv_dup hx hb dX12_product_36 rfl ?_
            refine sl_gM_0_13_12 (v := v_13) hx hb hts hown hK hP (show fp_10 0 13 = v_13 from ev_13.symm) dX12_product_37 ?_
            refine lv_iconst (v := 1) hx hb dX12_product_40 ic_1 ?_
            refine lv_iadd hx hb dX12_product_41 ?_
            refine lv_topi (fun v_71 ev_71 => ?_)
            have q_72 : v_71.toInt = v_13.toInt + 1 := by rw [ev_71]; first | exact cm_add ti_1 (by omega) (by omega) | (have k1 : (1 : Int32).toInt = 1 := ti_1; exact (bn_addI (by omega) (by omega)).trans (by omega))
            refine sl_pM_0_13_12 (x := v_71) hx hb hts hown hh hA hK hP hS dX12_product_42 (fun f_73 H locs ef_73 hP hS => ?_)
            have hI : sgI loM hiM f_73 := by rw [ef_73]; exact sgI.put hI 0 13 (show 0 ≤ (v_71 : Int32).toInt ∧ (v_71 : Int32).toInt ≤ 120 from ⟨by omega, by omega⟩)
            have hF : sgK WkX12_product_5 f f_73 := sgK.put hF ef_73 (by rfl)
            refine lv_aload_n hx hb dX12_product_45 rfl (lv_at hl 0 rfl) ?_
            have q_74 : (f_73 0 16).toInt = v_16.toInt := (congrArg Int32.toInt (show f_73 0 16 = v_16 from (by rw [ef_73, sg_up_s, sgu_n (by decide)]; exact ev_16.symm)))
            have q_75 : (f_73 0 15).toInt = v_19.toInt := (congrArg Int32.toInt (show f_73 0 15 = v_19 from (by rw [ef_73, sg_up_s, sgu_n (by decide)]; exact ev_19.symm)))
            have q_77 : (f_73 0 13).toInt = v_71.toInt := (congrArg Int32.toInt (show f_73 0 13 = v_71 from (by rw [ef_73, sg_up_s, sgu_s])))
            refine sg_calli (va_runV (As := []) (rest := []) ⟨hx, hb, hml, hown, hts⟩ (kX12_one_5 l D ca za h hh f_73 L Q hI (by omega) (by omega) H.size) (sl_c12_one_7_0_0_157_12 hts ⟨Nat.le_of_ble_eq_true rfl, Nat.le_of_ble_eq_true rfl⟩) (sl_vM_0 hA hK hP hS hZ) rfl rfl hl.1 rfl (lv_room (Nat.le_of_ble_eq_true rfl)) dX12_product_46 ⟨Nat.le_refl _, Nat.le_refl _⟩) hA hS (fun r_81 f_78 L_79 Q_80 H locs hq hP hS => ?_)
            obtain ⟨⟨hI, hk_f_78, eL9, eQ9⟩, hq, p_82, p_83, p_84, u_85⟩ := hq
            rw [eL9, eQ9] at hP; clear eL9 eQ9
            have hF : sgK WkX12_product_5 f f_78 := sgK.tr hF hk_f_78 (by decide +kernel)
            obtain ⟨v_86, ev_86⟩ : ∃ z : Int32, z = f_78 0 13 := ⟨_, rfl⟩
            have q_87 : 0 ≤ v_86.toInt ∧ v_86.toInt ≤ 120 := by rw [ev_86]; exact hI 0 13
            have q_88 : (f_78 0 13).toInt = v_86.toInt := (congrArg Int32.toInt (show f_78 0 13 = v_86 from ev_86.symm))
            obtain ⟨v_89, ev_89⟩ : ∃ z : Int32, z = f_78 0 16 := ⟨_, rfl⟩
            have q_90 : 0 ≤ v_89.toInt ∧ v_89.toInt ≤ 6 := by rw [ev_89]; exact hI 0 16
            have q_91 : (f_78 0 16).toInt = v_89.toInt := (congrArg Int32.toInt (show f_78 0 16 = v_89 from ev_89.symm))
            obtain ⟨v_92, ev_92⟩ : ∃ z : Int32, z = f_78 0 15 := ⟨_, rfl⟩
            replace hs := hs.trans ((if_pos c_69).trans (spl_e ev_71 (spl_e ef_73 (spl2_e u_85 (spl_e ev_86 (spl_e ev_89 (spl_e ev_92 rfl)))))))
            have q_93 : (-1) ≤ v_92.toInt ∧ v_92.toInt ≤ 120 := by rw [ev_92]; exact hI 0 15
            have q_94 : (f_78 0 15).toInt = v_92.toInt := (congrArg Int32.toInt (show f_78 0 15 = v_92 from ev_92.symm))
            refine lv_istore_n (lv' := [(3, .int r_81), (0, .ref (h 0)), (1, .int y1_10), (2, .int y2_10)]) hx hb dX12_product_49 rfl hl (by decide) rfl (fun ls hl => ?_)
            refine lv_iload_n hx hb dX12_product_50 rfl (lv_at hl 3 rfl) ?_
            refine lv_bipush (v := 42) hx hb dX12_product_51 bp_42 ?_
            refine lv_icmp_ne (tgt := 62) hx hb dX12_product_53 (by decide) (fun c => ?_) (fun c => ?_)
            · skip
              have c_96 : y2_10.toInt ≠ 42 := (by first | exact (cm_ne1 ti_42 c) | (have z := bn_ne c; have k1 : (42 : Int32).toInt = 42 := ti_42; omega))
              refine lv_iload_n hx hb dX12_product_62 rfl (lv_at hl 0 rfl) ?_
              refine lv_if_ne (tgt := 70) hx hb dX12_product_63 (by decide) (fun c => ?_) (fun c => ?_)
              · skip
                have c_98 : r_81.toInt ≠ 0 := (by first | exact (cm_ne1 ti_0 c) | (have z := bn_ne c; have k1 : (0 : Int32).toInt = 0 := ti_0; omega))
                refine lv_iload_n hx hb dX12_product_70 rfl (lv_at hl 3 rfl) ?_
                refine lv_bipush (v := 47) hx hb dX12_product_71 bp_47 ?_
                refine lv_icmp_ne (tgt := 82) hx hb dX12_product_73 (by decide) (fun c => ?_) (fun c => ?_)
                · skip
                  exfalso; have c_100 : y2_10.toInt ≠ 47 := (by first | exact (cm_ne1 ti_47 c) | (have z := bn_ne c; have k1 : (47 : Int32).toInt = 47 := ti_47; omega)); first | exact absurd (by assumption) c_100 | omega
                · skip
                  have c_101 : y2_10.toInt = 47 := (by first | exact (cm_eq1 ti_47 c) | (have z := Int32.toInt_inj.mpr c; have k1 : (47 : Int32).toInt = 47 := ti_47; omega))
                  refine lv_iload_n hx hb dX12_product_76 rfl (lv_at hl 2 rfl) ?_
                  refine lv_iload_n hx hb dX12_product_77 rfl (lv_at hl 0 rfl) ?_
                  refine lv_idiv hx hb dX12_product_78 (bn_nz (by omega)) ?_
                  refine lv_topi (fun v_102 ev_102 => ?_)
                  refine lv_goto (tgt := 85) hx hb dX12_product_79 (by decide) ?_
                  refine lv_istore_n (lv' := [(1, .int v_102), (3, .int r_81), (0, .ref (h 0)), (2, .int y2_10)]) hx hb dX12_product_85 rfl hl (by decide) rfl (fun ls hl => ?_)
                  refine lv_aload_n hx hb dX12_product_86 rfl (lv_at hl 2 rfl) ?_
                  have q_104 : (f_78 0 14).toInt = v_22.toInt := (congrArg Int32.toInt (show f_78 0 14 = v_22 from ((hk_f_78 0 14 (by decide)).trans (by rw [ef_73, sg_up_s, sgu_n (by decide)]; exact ev_22.symm))))
                  refine sg_calli (va_runV (As := []) (rest := []) ⟨hx, hb, hml, hown, hts⟩ (kX12_byteAt l D ca za h hh f_78 L Q hI H.size) (sl_c12_byteAt_0_0_0_0_12 hts ⟨Nat.le_of_ble_eq_true rfl, Nat.le_of_ble_eq_true rfl⟩) (sl_vM_0 hA hK hP hS hZ) rfl rfl hl.1 rfl (lv_room (Nat.le_of_ble_eq_true rfl)) dX12_product_87 ⟨Nat.le_refl _, Nat.le_refl _⟩) hA hS (fun r_108 f_105 L_106 Q_107 H locs hq hP hS => ?_)
                  obtain ⟨⟨ef9, eL9, eQ9⟩, hq, p_109, u_110⟩ := hq
                  rw [ef9, eL9, eQ9] at hP; clear ef9 eL9 eQ9
                  refine lv_istore_n (lv' := [(2, .int r_108), (1, .int v_102), (3, .int r_81), (0, .ref (h 0))]) hx hb dX12_product_90 rfl hl (by decide) rfl (fun ls hl => ?_)
                  refine lv_goto (tgt := 10) hx hb dX12_product_91 (by decide) ?_
                  exact ih_10 v_102 r_108 f_78 _ _ _ (hs.trans ((if_neg c_98).trans (spl_e ev_102 (spl_e u_110 rfl)))) (by have zz0_13 : (f_78 0 13).toInt = v_86.toInt := (congrArg Int32.toInt (show f_78 0 13 = v_86 from ev_86.symm)); omega) ⟨by omega, by omega⟩ (by have zz0_13 : (f_78 0 13).toInt = v_86.toInt := (congrArg Int32.toInt (show f_78 0 13 = v_86 from ev_86.symm)); omega) (by have zz0_16 : (f_78 0 16).toInt = v_89.toInt := (congrArg Int32.toInt (show f_78 0 16 = v_89 from ev_89.symm)); omega) (by have zz0_15 : (f_78 0 15).toInt = v_92.toInt := (congrArg Int32.toInt (show f_78 0 15 = v_92 from ev_92.symm)); have zz0_16 : (f_78 0 16).toInt = v_89.toInt := (congrArg Int32.toInt (show f_78 0 16 = v_89 from ev_89.symm)); omega) (by have zz0_13 : (f_78 0 13).toInt = v_86.toInt := (congrArg Int32.toInt (show f_78 0 13 = v_86 from ev_86.symm)); have zz0_14 : (f_78 0 14).toInt = v_22.toInt := (congrArg Int32.toInt (show f_78 0 14 = v_22 from ((hk_f_78 0 14 (by decide)).trans (by rw [ef_73, sg_up_s, sgu_n (by decide)]; exact ev_22.symm)))); omega) hI hF hP hS (lv_sub hl [3, 1, 0] rfl)
              · skip
                have c_99 : r_81.toInt = 0 := (by first | exact (cm_eq1 ti_0 c) | (have z := Int32.toInt_inj.mpr c; have k1 : (0 : Int32).toInt = 0 := ti_0; omega))
                refine lv_iconst (v := 0) hx hb dX12_product_66 ic_0 ?_
                refine lv_goto (tgt := 85) hx hb dX12_product_67 (by decide) ?_
                refine lv_istore_n (lv' := [(1, .int 0), (3, .int r_81), (0, .ref (h 0)), (2, .int y2_10)]) hx hb dX12_product_85 rfl hl (by decide) rfl (fun ls hl => ?_)
                refine lv_aload_n hx hb dX12_product_86 rfl (lv_at hl 2 rfl) ?_
                have q_112 : (f_78 0 14).toInt = v_22.toInt := (congrArg Int32.toInt (show f_78 0 14 = v_22 from ((hk_f_78 0 14 (by decide)).trans (by rw [ef_73, sg_up_s, sgu_n (by decide)]; exact ev_22.symm))))
                refine sg_calli (va_runV (As := []) (rest := []) ⟨hx, hb, hml, hown, hts⟩ (kX12_byteAt l D ca za h hh f_78 L Q hI H.size) (sl_c12_byteAt_0_0_0_0_12 hts ⟨Nat.le_of_ble_eq_true rfl, Nat.le_of_ble_eq_true rfl⟩) (sl_vM_0 hA hK hP hS hZ) rfl rfl hl.1 rfl (lv_room (Nat.le_of_ble_eq_true rfl)) dX12_product_87 ⟨Nat.le_refl _, Nat.le_refl _⟩) hA hS (fun r_116 f_113 L_114 Q_115 H locs hq hP hS => ?_)
                obtain ⟨⟨ef9, eL9, eQ9⟩, hq, p_117, u_118⟩ := hq
                rw [ef9, eL9, eQ9] at hP; clear ef9 eL9 eQ9
                refine lv_istore_n (lv' := [(2, .int r_116), (1, .int 0), (3, .int r_81), (0, .ref (h 0))]) hx hb dX12_product_90 rfl hl (by decide) rfl (fun ls hl => ?_)
                refine lv_goto (tgt := 10) hx hb dX12_product_91 (by decide) ?_
                exact ih_10 0 r_116 f_78 _ _ _ (hs.trans ((if_pos c_99).trans (spl_e u_118 rfl))) (by have kc0 : (0 : Int32).toInt = 0 := ti_0; have zz0_13 : (f_78 0 13).toInt = v_86.toInt := (congrArg Int32.toInt (show f_78 0 13 = v_86 from ev_86.symm)); omega) ⟨by omega, by omega⟩ (by have kc0 : (0 : Int32).toInt = 0 := ti_0; have zz0_13 : (f_78 0 13).toInt = v_86.toInt := (congrArg Int32.toInt (show f_78 0 13 = v_86 from ev_86.symm)); omega) (by have kc0 : (0 : Int32).toInt = 0 := ti_0; have zz0_16 : (f_78 0 16).toInt = v_89.toInt := (congrArg Int32.toInt (show f_78 0 16 = v_89 from ev_89.symm)); omega) (by have kc0 : (0 : Int32).toInt = 0 := ti_0; have zz0_15 : (f_78 0 15).toInt = v_92.toInt := (congrArg Int32.toInt (show f_78 0 15 = v_92 from ev_92.symm)); have zz0_16 : (f_78 0 16).toInt = v_89.toInt := (congrArg Int32.toInt (show f_78 0 16 = v_89 from ev_89.symm)); omega) (by have kc0 : (0 : Int32).toInt = 0 := ti_0; have zz0_13 : (f_78 0 13).toInt = v_86.toInt := (congrArg Int32.toInt (show f_78 0 13 = v_86 from ev_86.symm)); have zz0_14 : (f_78 0 14).toInt = v_22.toInt := (congrArg Int32.toInt (show f_78 0 14 = v_22 from ((hk_f_78 0 14 (by decide)).trans (by rw [ef_73, sg_up_s, sgu_n (by decide)]; exact ev_22.symm)))); omega) hI hF hP hS (lv_sub hl [3, 1, 0] rfl)
            · skip
              exfalso; have c_97 : y2_10.toInt = 42 := (by first | exact (cm_eq1 ti_42 c) | (have z := Int32.toInt_inj.mpr c; have k1 : (42 : Int32).toInt = 42 := ti_42; omega)); first | exact absurd c_97 (by assumption) | omega
          · skip
            have c_70 : y2_10.toInt ≠ 47 := (by first | exact (cm_ne1 ti_47 c) | (have z := bn_ne c; have k1 : (47 : Int32).toInt = 47 := ti_47; omega))
            replace hs := hs.trans ((if_neg c_70).trans rfl)
            refine lv_iload_n hx hb dX12_product_29 rfl (lv_at hl 2 rfl) ?_
            refine lv_bipush (v := 37) hx hb dX12_product_30 bp_37 ?_
            refine lv_icmp_ne (tgt := 94) hx hb dX12_product_32 (by decide) (fun c => ?_) (fun c => ?_)
            · skip
              have c_119 : y2_10.toInt ≠ 37 := (by first | exact (cm_ne1 ti_37 c) | (have z := bn_ne c; have k1 : (37 : Int32).toInt = 37 := ti_37; omega))
              refine lv_iload_n hx hb dX12_product_94 rfl (lv_at hl 1 rfl) ?_
              exact hret _ _ _ _ (y1_10) fp_10 L Q dX12_product_95 hP hS ⟨⟨hI, hF, rfl, rfl⟩, trivial, (by omega), (by omega), (by omega), (Eq.trans (Eq.symm (hs.trans ((if_neg c_119).trans rfl))) hsp)⟩
            · skip
              have c_120 : y2_10.toInt = 37 := (by first | exact (cm_eq1 ti_37 c) | (have z := Int32.toInt_inj.mpr c; have k1 : (37 : Int32).toInt = 37 := ti_37; omega))
              refine lv_aload_n hx hb dX12_product_35 rfl (lv_at hl 0 rfl) ?_
              refine lv_dup hx hb dX12_product_36 rfl ?_
              refine sl_gM_0_13_12 (v := v_13) hx hb hts hown hK hP (show fp_10 0 13 = v_13 from ev_13.symm) dX12_product_37 ?_
              refine lv_iconst (v := 1) hx hb dX12_product_40 ic_1 ?_
              refine lv_iadd hx hb dX12_product_41 ?_
              refine lv_topi (fun v_125 ev_125 => ?_)
              have q_126 : v_125.toInt = v_13.toInt + 1 := by rw [ev_125]; first | exact cm_add ti_1 (by omega) (by omega) | (have k1 : (1 : Int32).toInt = 1 := ti_1; exact (bn_addI (by omega) (by omega)).trans (by omega))
              refine sl_pM_0_13_12 (x := v_125) hx hb hts hown hh hA hK hP hS dX12_product_42 (fun f_127 H locs ef_127 hP hS => ?_)
              have hI : sgI loM hiM f_127 := by rw [ef_127]; exact sgI.put hI 0 13 (show 0 ≤ (v_125 : Int32).toInt ∧ (v_125 : Int32).toInt ≤ 120 from ⟨by omega, by omega⟩)
              have hF : sgK WkX12_product_5 f f_127 := sgK.put hF ef_127 (by rfl)
              refine lv_aload_n hx hb dX12_product_45 rfl (lv_at hl 0 rfl) ?_
              have q_128 : (f_127 0 16).toInt = v_16.toInt := (congrArg Int32.toInt (show f_127 0 16 = v_16 from (by rw [ef_127, sg_up_s, sgu_n (by decide)]; exact ev_16.symm)))
              have q_129 : (f_127 0 15).toInt = v_19.toInt := (congrArg Int32.toInt (show f_127 0 15 = v_19 from (by rw [ef_127, sg_up_s, sgu_n (by decide)]; exact ev_19.symm)))
              have q_131 : (f_127 0 13).toInt = v_125.toInt := (congrArg Int32.toInt (show f_127 0 13 = v_125 from (by rw [ef_127, sg_up_s, sgu_s])))
              refine sg_calli (va_runV (As := []) (rest := []) ⟨hx, hb, hml, hown, hts⟩ (kX12_one_5 l D ca za h hh f_127 L Q hI (by omega) (by omega) H.size) (sl_c12_one_7_0_0_157_12 hts ⟨Nat.le_of_ble_eq_true rfl, Nat.le_of_ble_eq_true rfl⟩) (sl_vM_0 hA hK hP hS hZ) rfl rfl hl.1 rfl (lv_room (Nat.le_of_ble_eq_true rfl)) dX12_product_46 ⟨Nat.le_refl _, Nat.le_refl _⟩) hA hS (fun r_135 f_132 L_133 Q_134 H locs hq hP hS => ?_)
              obtain ⟨⟨hI, hk_f_132, eL9, eQ9⟩, hq, p_136, p_137, p_138, u_139⟩ := hq
              rw [eL9, eQ9] at hP; clear eL9 eQ9
              have hF : sgK WkX12_product_5 f f_132 := sgK.tr hF hk_f_132 (by decide +kernel)
              obtain ⟨v_140, ev_140⟩ : ∃ z : Int32, z = f_132 0 13 := ⟨_, rfl⟩
              have q_141 : 0 ≤ v_140.toInt ∧ v_140.toInt ≤ 120 := by rw [ev_140]; exact hI 0 13
              have q_142 : (f_132 0 13).toInt = v_140.toInt := (congrArg Int32.toInt (show f_132 0 13 = v_140 from ev_140.symm))
              obtain ⟨v_143, ev_143⟩ : ∃ z : Int32, z = f_132 0 16 := ⟨_, rfl⟩
              have q_144 : 0 ≤ v_143.toInt ∧ v_143.toInt ≤ 6 := by rw [ev_143]; exact hI 0 16
              have q_145 : (f_132 0 16).toInt = v_143.toInt := (congrArg Int32.toInt (show f_132 0 16 = v_143 from ev_143.symm))
              obtain ⟨v_146, ev_146⟩ : ∃ z : Int32, z = f_132 0 15 := ⟨_, rfl⟩
              replace hs := hs.trans ((if_pos c_120).trans (spl_e ev_125 (spl_e ef_127 (spl2_e u_139 (spl_e ev_140 (spl_e ev_143 (spl_e ev_146 rfl)))))))
              have q_147 : (-1) ≤ v_146.toInt ∧ v_146.toInt ≤ 120 := by rw [ev_146]; exact hI 0 15
              have q_148 : (f_132 0 15).toInt = v_146.toInt := (congrArg Int32.toInt (show f_132 0 15 = v_146 from ev_146.symm))
              refine lv_istore_n (lv' := [(3, .int r_135), (0, .ref (h 0)), (1, .int y1_10), (2, .int y2_10)]) hx hb dX12_product_49 rfl hl (by decide) rfl (fun ls hl => ?_)
              refine lv_iload_n hx hb dX12_product_50 rfl (lv_at hl 3 rfl) ?_
              refine lv_bipush (v := 42) hx hb dX12_product_51 bp_42 ?_
              refine lv_icmp_ne (tgt := 62) hx hb dX12_product_53 (by decide) (fun c => ?_) (fun c => ?_)
              · skip
                have c_150 : y2_10.toInt ≠ 42 := (by first | exact (cm_ne1 ti_42 c) | (have z := bn_ne c; have k1 : (42 : Int32).toInt = 42 := ti_42; omega))
                refine lv_iload_n hx hb dX12_product_62 rfl (lv_at hl 0 rfl) ?_
                refine lv_if_ne (tgt := 70) hx hb dX12_product_63 (by decide) (fun c => ?_) (fun c => ?_)
                · skip
                  have c_152 : r_135.toInt ≠ 0 := (by first | exact (cm_ne1 ti_0 c) | (have z := bn_ne c; have k1 : (0 : Int32).toInt = 0 := ti_0; omega))
                  refine lv_iload_n hx hb dX12_product_70 rfl (lv_at hl 3 rfl) ?_
                  refine lv_bipush (v := 47) hx hb dX12_product_71 bp_47 ?_
                  refine lv_icmp_ne (tgt := 82) hx hb dX12_product_73 (by decide) (fun c => ?_) (fun c => ?_)
                  · skip
                    have c_154 : y2_10.toInt ≠ 47 := (by first | exact (cm_ne1 ti_47 c) | (have z := bn_ne c; have k1 : (47 : Int32).toInt = 47 := ti_47; omega))
                    refine lv_iload_n hx hb dX12_product_82 rfl (lv_at hl 2 rfl) ?_
                    refine lv_iload_n hx hb dX12_product_83 rfl (lv_at hl 0 rfl) ?_
                    refine lv_irem hx hb dX12_product_84 (bn_nz (by omega)) ?_
                    refine lv_topi (fun v_156 ev_156 => ?_)
                    refine lv_istore_n (lv' := [(1, .int v_156), (3, .int r_135), (0, .ref (h 0)), (2, .int y2_10)]) hx hb dX12_product_85 rfl hl (by decide) rfl (fun ls hl => ?_)
                    refine lv_aload_n hx hb dX12_product_86 rfl (lv_at hl 2 rfl) ?_
                    have q_158 : (f_132 0 14).toInt = v_22.toInt := (congrArg Int32.toInt (show f_132 0 14 = v_22 from ((hk_f_132 0 14 (by decide)).trans (by rw [ef_127, sg_up_s, sgu_n (by decide)]; exact ev_22.symm))))
                    refine sg_calli (va_runV (As := []) (rest := []) ⟨hx, hb, hml, hown, hts⟩ (kX12_byteAt l D ca za h hh f_132 L Q hI H.size) (sl_c12_byteAt_0_0_0_0_12 hts ⟨Nat.le_of_ble_eq_true rfl, Nat.le_of_ble_eq_true rfl⟩) (sl_vM_0 hA hK hP hS hZ) rfl rfl hl.1 rfl (lv_room (Nat.le_of_ble_eq_true rfl)) dX12_product_87 ⟨Nat.le_refl _, Nat.le_refl _⟩) hA hS (fun r_162 f_159 L_160 Q_161 H locs hq hP hS => ?_)
                    obtain ⟨⟨ef9, eL9, eQ9⟩, hq, p_163, u_164⟩ := hq
                    rw [ef9, eL9, eQ9] at hP; clear ef9 eL9 eQ9
                    refine lv_istore_n (lv' := [(2, .int r_162), (1, .int v_156), (3, .int r_135), (0, .ref (h 0))]) hx hb dX12_product_90 rfl hl (by decide) rfl (fun ls hl => ?_)
                    refine lv_goto (tgt := 10) hx hb dX12_product_91 (by decide) ?_
                    exact ih_10 v_156 r_162 f_132 _ _ _ (hs.trans ((if_neg c_152).trans (spl_e ev_156 (spl_e u_164 rfl)))) (by have zz0_13 : (f_132 0 13).toInt = v_140.toInt := (congrArg Int32.toInt (show f_132 0 13 = v_140 from ev_140.symm)); omega) ⟨by omega, by omega⟩ (by have zz0_13 : (f_132 0 13).toInt = v_140.toInt := (congrArg Int32.toInt (show f_132 0 13 = v_140 from ev_140.symm)); omega) (by have zz0_16 : (f_132 0 16).toInt = v_143.toInt := (congrArg Int32.toInt (show f_132 0 16 = v_143 from ev_143.symm)); omega) (by have zz0_15 : (f_132 0 15).toInt = v_146.toInt := (congrArg Int32.toInt (show f_132 0 15 = v_146 from ev_146.symm)); have zz0_16 : (f_132 0 16).toInt = v_143.toInt := (congrArg Int32.toInt (show f_132 0 16 = v_143 from ev_143.symm)); omega) (by have zz0_13 : (f_132 0 13).toInt = v_140.toInt := (congrArg Int32.toInt (show f_132 0 13 = v_140 from ev_140.symm)); have zz0_14 : (f_132 0 14).toInt = v_22.toInt := (congrArg Int32.toInt (show f_132 0 14 = v_22 from ((hk_f_132 0 14 (by decide)).trans (by rw [ef_127, sg_up_s, sgu_n (by decide)]; exact ev_22.symm)))); omega) hI hF hP hS (lv_sub hl [3, 1, 0] rfl)
                  · skip
                    exfalso; have c_155 : y2_10.toInt = 47 := (by first | exact (cm_eq1 ti_47 c) | (have z := Int32.toInt_inj.mpr c; have k1 : (47 : Int32).toInt = 47 := ti_47; omega)); first | exact absurd c_155 (by assumption) | omega
                · skip
                  have c_153 : r_135.toInt = 0 := (by first | exact (cm_eq1 ti_0 c) | (have z := Int32.toInt_inj.mpr c; have k1 : (0 : Int32).toInt = 0 := ti_0; omega))
                  refine lv_iconst (v := 0) hx hb dX12_product_66 ic_0 ?_
                  refine lv_goto (tgt := 85) hx hb dX12_product_67 (by decide) ?_
                  refine lv_istore_n (lv' := [(1, .int 0), (3, .int r_135), (0, .ref (h 0)), (2, .int y2_10)]) hx hb dX12_product_85 rfl hl (by decide) rfl (fun ls hl => ?_)
                  refine lv_aload_n hx hb dX12_product_86 rfl (lv_at hl 2 rfl) ?_
                  have q_166 : (f_132 0 14).toInt = v_22.toInt := (congrArg Int32.toInt (show f_132 0 14 = v_22 from ((hk_f_132 0 14 (by decide)).trans (by rw [ef_127, sg_up_s, sgu_n (by decide)]; exact ev_22.symm))))
                  refine sg_calli (va_runV (As := []) (rest := []) ⟨hx, hb, hml, hown, hts⟩ (kX12_byteAt l D ca za h hh f_132 L Q hI H.size) (sl_c12_byteAt_0_0_0_0_12 hts ⟨Nat.le_of_ble_eq_true rfl, Nat.le_of_ble_eq_true rfl⟩) (sl_vM_0 hA hK hP hS hZ) rfl rfl hl.1 rfl (lv_room (Nat.le_of_ble_eq_true rfl)) dX12_product_87 ⟨Nat.le_refl _, Nat.le_refl _⟩) hA hS (fun r_170 f_167 L_168 Q_169 H locs hq hP hS => ?_)
                  obtain ⟨⟨ef9, eL9, eQ9⟩, hq, p_171, u_172⟩ := hq
                  rw [ef9, eL9, eQ9] at hP; clear ef9 eL9 eQ9
                  refine lv_istore_n (lv' := [(2, .int r_170), (1, .int 0), (3, .int r_135), (0, .ref (h 0))]) hx hb dX12_product_90 rfl hl (by decide) rfl (fun ls hl => ?_)
                  refine lv_goto (tgt := 10) hx hb dX12_product_91 (by decide) ?_
                  exact ih_10 0 r_170 f_132 _ _ _ (hs.trans ((if_pos c_153).trans (spl_e u_172 rfl))) (by have kc0 : (0 : Int32).toInt = 0 := ti_0; have zz0_13 : (f_132 0 13).toInt = v_140.toInt := (congrArg Int32.toInt (show f_132 0 13 = v_140 from ev_140.symm)); omega) ⟨by omega, by omega⟩ (by have kc0 : (0 : Int32).toInt = 0 := ti_0; have zz0_13 : (f_132 0 13).toInt = v_140.toInt := (congrArg Int32.toInt (show f_132 0 13 = v_140 from ev_140.symm)); omega) (by have kc0 : (0 : Int32).toInt = 0 := ti_0; have zz0_16 : (f_132 0 16).toInt = v_143.toInt := (congrArg Int32.toInt (show f_132 0 16 = v_143 from ev_143.symm)); omega) (by have kc0 : (0 : Int32).toInt = 0 := ti_0; have zz0_15 : (f_132 0 15).toInt = v_146.toInt := (congrArg Int32.toInt (show f_132 0 15 = v_146 from ev_146.symm)); have zz0_16 : (f_132 0 16).toInt = v_143.toInt := (congrArg Int32.toInt (show f_132 0 16 = v_143 from ev_143.symm)); omega) (by have kc0 : (0 : Int32).toInt = 0 := ti_0; have zz0_13 : (f_132 0 13).toInt = v_140.toInt := (congrArg Int32.toInt (show f_132 0 13 = v_140 from ev_140.symm)); have zz0_14 : (f_132 0 14).toInt = v_22.toInt := (congrArg Int32.toInt (show f_132 0 14 = v_22 from ((hk_f_132 0 14 (by decide)).trans (by rw [ef_127, sg_up_s, sgu_n (by decide)]; exact ev_22.symm)))); omega) hI hF hP hS (lv_sub hl [3, 1, 0] rfl)
              · skip
                exfalso; have c_151 : y2_10.toInt = 42 := (by first | exact (cm_eq1 ti_42 c) | (have z := Int32.toInt_inj.mpr c; have k1 : (42 : Int32).toInt = 42 := ti_42; omega)); first | exact absurd c_151 (by assumption) | omega
  refine lv_aload_n hx hb dX12_product_0 rfl (lv_at hl 0 rfl) ?_
  have q_173 : (f 0 16).toInt = v_1.toInt := (congrArg Int32.toInt (show f 0 16 = v_1 from ev_1.symm))
  have q_174 : (f 0 15).toInt = v_3.toInt := (congrArg Int32.toInt (show f 0 15 = v_3 from ev_3.symm))
  have q_176 : (f 0 13).toInt = v_5.toInt := (congrArg Int32.toInt (show f 0 13 = v_5 from ev_5.symm))
  refine sg_calli (va_runV (As := []) (rest := []) ⟨hx, hb, hml, hown, hts⟩ (kX12_one_5 l D ca za h hh f L Q hI (by omega) (by omega) H.size) (sl_c12_one_7_0_0_157_12 hts ⟨Nat.le_of_ble_eq_true rfl, Nat.le_of_ble_eq_true rfl⟩) (sl_vM_0 hA hK hP hS hZ) rfl rfl hl.1 rfl (lv_room (Nat.le_of_ble_eq_true rfl)) dX12_product_1 ⟨Nat.le_refl _, Nat.le_refl _⟩) hA hS (fun r_180 f_177 L_178 Q_179 H locs hq hP hS => ?_)
  obtain ⟨⟨hI, hk_f_177, eL9, eQ9⟩, hq, p_181, p_182, p_183, u_184⟩ := hq
  rw [eL9, eQ9] at hP; clear eL9 eQ9
  have hF : sgK WkX12_product_5 f f_177 := sgK.tr hF hk_f_177 (by decide +kernel)
  obtain ⟨v_185, ev_185⟩ : ∃ z : Int32, z = f_177 0 13 := ⟨_, rfl⟩
  have q_186 : 0 ≤ v_185.toInt ∧ v_185.toInt ≤ 120 := by rw [ev_185]; exact hI 0 13
  have q_187 : (f_177 0 13).toInt = v_185.toInt := (congrArg Int32.toInt (show f_177 0 13 = v_185 from ev_185.symm))
  obtain ⟨v_188, ev_188⟩ : ∃ z : Int32, z = f_177 0 16 := ⟨_, rfl⟩
  have q_189 : 0 ≤ v_188.toInt ∧ v_188.toInt ≤ 6 := by rw [ev_188]; exact hI 0 16
  have q_190 : (f_177 0 16).toInt = v_188.toInt := (congrArg Int32.toInt (show f_177 0 16 = v_188 from ev_188.symm))
  obtain ⟨v_191, ev_191⟩ : ∃ z : Int32, z = f_177 0 15 := ⟨_, rfl⟩
  have q_192 : (-1) ≤ v_191.toInt ∧ v_191.toInt ≤ 120 := by rw [ev_191]; exact hI 0 15
  have q_193 : (f_177 0 15).toInt = v_191.toInt := (congrArg Int32.toInt (show f_177 0 15 = v_191 from ev_191.symm))
  refine lv_istore_n (lv' := [(1, .int r_180), (0, .ref (h 0))]) hx hb dX12_product_4 rfl hl (by decide) rfl (fun ls hl => ?_)
  refine lv_aload_n hx hb dX12_product_5 rfl (lv_at hl 1 rfl) ?_
  have q_196 : (f_177 0 14).toInt = v_7.toInt := (congrArg Int32.toInt (show f_177 0 14 = v_7 from ((hk_f_177 0 14 (by decide)).trans ev_7.symm)))
  refine sg_calli (va_runV (As := []) (rest := []) ⟨hx, hb, hml, hown, hts⟩ (kX12_byteAt l D ca za h hh f_177 L Q hI H.size) (sl_c12_byteAt_0_0_0_0_12 hts ⟨Nat.le_of_ble_eq_true rfl, Nat.le_of_ble_eq_true rfl⟩) (sl_vM_0 hA hK hP hS hZ) rfl rfl hl.1 rfl (lv_room (Nat.le_of_ble_eq_true rfl)) dX12_product_6 ⟨Nat.le_refl _, Nat.le_refl _⟩) hA hS (fun r_200 f_197 L_198 Q_199 H locs hq hP hS => ?_)
  obtain ⟨⟨ef9, eL9, eQ9⟩, hq, p_201, u_202⟩ := hq
  rw [ef9, eL9, eQ9] at hP; clear ef9 eL9 eQ9
  refine lv_istore_n (lv' := [(2, .int r_200), (1, .int r_180), (0, .ref (h 0))]) hx hb dX12_product_9 rfl hl (by decide) rfl (fun ls hl => ?_)
  exact loop_10 121 r_180 r_200 f_177 _ _ _ (hs.trans ((spl_e ev_1 (spl_e ev_3 (spl_e ev_5 (spl_e ev_7 (spl2_e u_184 (spl_e ev_185 (spl_e ev_188 (spl_e ev_191 (spl_e u_202 rfl))))))))))) (by have zz0_13 : (f_177 0 13).toInt = v_185.toInt := (congrArg Int32.toInt (show f_177 0 13 = v_185 from ev_185.symm)); omega) ⟨by omega, by omega⟩ (by have zz0_13 : (f_177 0 13).toInt = v_185.toInt := (congrArg Int32.toInt (show f_177 0 13 = v_185 from ev_185.symm)); omega) (by have zz0_16 : (f_177 0 16).toInt = v_188.toInt := (congrArg Int32.toInt (show f_177 0 16 = v_188 from ev_188.symm)); omega) (by have zz0_15 : (f_177 0 15).toInt = v_191.toInt := (congrArg Int32.toInt (show f_177 0 15 = v_191 from ev_191.symm)); have zz0_16 : (f_177 0 16).toInt = v_188.toInt := (congrArg Int32.toInt (show f_177 0 16 = v_188 from ev_188.symm)); omega) (by have zz0_13 : (f_177 0 13).toInt = v_185.toInt := (congrArg Int32.toInt (show f_177 0 13 = v_185 from ev_185.symm)); have zz0_14 : (f_177 0 14).toInt = v_7.toInt := (congrArg Int32.toInt (show f_177 0 14 = v_7 from ((hk_f_177 0 14 (by decide)).trans ev_7.symm))); omega) hI hF hP hS (lv_sub hl [2, 1, 0] rfl)

abbrev WkX12_sums_5 : List (Nat × Nat × Option Nat) := [(0, 0, some 13), (0, 0, some 15), (0, 0, some 16)]
set_option maxHeartbeats 4000000 in
set_option maxRecDepth 100000 in
theorem kX12_sums_5 (l : Launch) (D : va_G) (ca : Nat → ClassId) (za h : Nat → Nat) (hh : sgH 26 h) (f : sg_F) (L : sg_L) (Q : sg_Q) (hI : sgI loM hiM f) (p0 : 5 ≤ (f 0 16).toInt) (p1 : 0 ≤ (f 0 15).toInt ∨ (f 0 16).toInt = 5) (sz : Nat) : Met l yX12_sums gwX12_sums { frames := 9, cells := 0, slots := 0, locals := 204 } (sgP D vwCl (tyX ca) 26 h (eM ca h) zcM za f L Q sz [.ref (h 0)]) (sgQi D vwCl 26 h (eM ca h) sz (fun r f1 L1 Q1 => ((sgI loM hiM f1 ∧ sgK WkX12_sums_5 f f1 ∧ L1 = L ∧ Q1 = Q) ∧ True ∧ ((f 0 13).toInt ≤ (f1 0 13).toInt) ∧ (5 ≤ (f1 0 16).toInt) ∧ (0 ≤ (f1 0 15).toInt ∨ (f1 0 16).toInt = 5) ∧ (r, f1) = sX12_sums_5 f L))) 0 0 (sgA 26 h sz) := by
  refine sg_ofWi (cc := cX12_sums) (maxL := 4) RX12 (by decide) rfl rfl (Nat.le_of_ble_eq_true rfl) ?_
  intro p e s m below meth cd Qz ls hx hb hml hown hts hK hZ hP hS hl hret
  have hA := sgY.self (n := 26) (h := h) (sz := s.heap.size)
  have hl : lv_has ls 4 [(0, .ref (h 0))] := hl
  obtain ⟨H, hH⟩ : ∃ z : Heap, z = s.heap := ⟨_, rfl⟩
  obtain ⟨locs, hlo⟩ : ∃ z : List Loc, z = [] := ⟨_, rfl⟩
  have hP : va_P D vwCl (sgw 26 h (eM ca h) f L Q) H := by rw [hH]; exact hP
  have hS : va_S (sgA 26 h s.heap.size) s.heap H locs := by rw [hH, hlo]; exact hS
  suffices hgo : W p l e ({ frames := 9, cells := 0, slots := 0, locals := 204 }) s m ([.ref (h 0)] : List Value).toArray below meth cd H locs 0 0 Qz (F0 m 0 ls []) by rw [hH, hlo] at hgo; exact hgo
  clear hH hlo
  obtain ⟨sp, hsp⟩ : ∃ z : Int32 × sg_F, z = sX12_sums_5 f L := ⟨_, rfl⟩
  have hs : sp = sX12_sums_5 f L := hsp
  obtain ⟨v_1, ev_1⟩ : ∃ z : Int32, z = f 0 16 := ⟨_, rfl⟩
  have q_2 : 0 ≤ v_1.toInt ∧ v_1.toInt ≤ 6 := by rw [ev_1]; exact hI 0 16
  obtain ⟨v_3, ev_3⟩ : ∃ z : Int32, z = f 0 15 := ⟨_, rfl⟩
  have q_4 : (-1) ≤ v_3.toInt ∧ v_3.toInt ≤ 120 := by rw [ev_3]; exact hI 0 15
  obtain ⟨v_5, ev_5⟩ : ∃ z : Int32, z = f 0 13 := ⟨_, rfl⟩
  have q_6 : 0 ≤ v_5.toInt ∧ v_5.toInt ≤ 120 := by rw [ev_5]; exact hI 0 13
  have o_7 : (f 0 16).toInt = v_1.toInt := (congrArg Int32.toInt (show f 0 16 = v_1 from ev_1.symm))
  have o_8 : (f 0 15).toInt = v_3.toInt := (congrArg Int32.toInt (show f 0 15 = v_3 from ev_3.symm))
  have o_9 : (f 0 13).toInt = v_5.toInt := (congrArg Int32.toInt (show f 0 13 = v_5 from ev_5.symm))
  have hF : sgK WkX12_sums_5 f f := sgK.rf
  have loop_5 : ∀ (n_5 : Nat) (y1_5 : Int32) (fp_5 : sg_F) (H : Heap) (locs : List Loc) (ls : Array Slot), sp = sX12_sums_5_l5 n_5 y1_5 fp_5 L → 120 - (fp_5 0 13).toInt < (n_5 : Int) → (f 0 13).toInt ≤ (fp_5 0 13).toInt → 5 ≤ (fp_5 0 16).toInt → 0 ≤ (fp_5 0 15).toInt ∨ (fp_5 0 16).toInt = 5 → sgI loM hiM fp_5 → sgK WkX12_sums_5 f fp_5 → va_P D vwCl (sgw 26 h (eM ca h) fp_5 L Q) H → va_S (sgA 26 h s.heap.size) s.heap H locs → lv_has ls 4 [(0, .ref (h 0)), (1, .int y1_5)] → W p l e ({ frames := 9, cells := 0, slots := 0, locals := 204 }) s m ([.ref (h 0)] : List Value).toArray below meth cd H locs 0 0 Qz (F0 m 5 ls []) := by
    intro n_5
    induction n_5 with
    | zero => intro y1_5 fp_5 H locs ls hs hm_5 hg0_5 hg1_5 hg2_5 hI hF hP hS hl; have zb := (show 0 ≤ (fp_5 0 13).toInt ∧ (fp_5 0 13).toInt ≤ 120 from hI 0 13); exact absurd hm_5 (by omega)
    | succ n_5 ih_5 =>
      intro y1_5 fp_5 H locs ls hs hm_5 hg0_5 hg1_5 hg2_5 hI hF hP hS hl
      have hs : sp = sX12_sums_5_h5 (sX12_sums_5_l5 n_5) y1_5 fp_5 L := hs
      obtain ⟨v_10, ev_10⟩ : ∃ z : Int32, z = fp_5 0 13 := ⟨_, rfl⟩
      have q_11 : 0 ≤ v_10.toInt ∧ v_10.toInt ≤ 120 := by rw [ev_10]; exact hI 0 13
      have q_12 : (fp_5 0 13).toInt = v_10.toInt := by rw [ev_10]
      obtain ⟨v_13, ev_13⟩ : ∃ z : Int32, z = fp_5 0 16 := ⟨_, rfl⟩
      have q_14 : 0 ≤ v_13.toInt ∧ v_13.toInt ≤ 6 := by rw [ev_13]; exact hI 0 16
      have q_15 : (fp_5 0 16).toInt = v_13.toInt := by rw [ev_13]
      obtain ⟨v_16, ev_16⟩ : ∃ z : Int32, z = fp_5 0 15 := ⟨_, rfl⟩
      replace hs := hs.trans (spl_e ev_10 (spl_e ev_13 (spl_e ev_16 rfl)))
      have q_17 : (-1) ≤ v_16.toInt ∧ v_16.toInt ≤ 120 := by rw [ev_16]; exact hI 0 15
      have q_18 : (fp_5 0 15).toInt = v_16.toInt := by rw [ev_16]
      refine lv_aload_n hx hb dX12_sums_5 rfl (lv_at hl 0 rfl) ?_
      refine sl_gM_0_15_12 (v := v_16) hx hb hts hown hK hP (show fp_5 0 15 = v_16 from ev_16.symm) dX12_sums_6 ?_
      refine lv_if_ge (tgt := 77) hx hb dX12_sums_9 (by decide) (fun c => ?_) (fun c => ?_)
      · skip
        have c_19 : 0 ≤ v_16.toInt := (by first | exact (cm_le0 ti_0 c) | (have z := bn_le c; have k1 : (0 : Int32).toInt = 0 := ti_0; omega))
        refine lv_iload_n hx hb dX12_sums_77 rfl (lv_at hl 1 rfl) ?_
        exact hret _ _ _ _ (y1_5) fp_5 L Q dX12_sums_78 hP hS ⟨⟨hI, hF, rfl, rfl⟩, trivial, (by omega), (by omega), (by omega), (Eq.trans (Eq.symm (hs.trans ((if_neg (Int.not_lt.mpr c_19)).trans rfl))) hsp)⟩
      · skip
        have c_20 : v_16.toInt < 0 := (by first | exact (cm_nle0 ti_0 c) | (have z := bn_nle c; have k1 : (0 : Int32).toInt = 0 := ti_0; omega))
        refine lv_aload_n hx hb dX12_sums_12 rfl (lv_at hl 0 rfl) ?_
        obtain ⟨v_26, ev_26⟩ : ∃ z : Int32, z = fp_5 0 14 := ⟨_, rfl⟩
        have q_27 : 0 ≤ v_26.toInt ∧ v_26.toInt ≤ 120 := by rw [ev_26]; exact hI 0 14
        have q_28 : (fp_5 0 14).toInt = v_26.toInt := (congrArg Int32.toInt (show fp_5 0 14 = v_26 from ev_26.symm))
        refine sg_calli (va_runV (As := []) (rest := []) ⟨hx, hb, hml, hown, hts⟩ (kX12_byteAt l D ca za h hh fp_5 L Q hI H.size) (sl_c12_byteAt_0_0_0_0_12 hts ⟨Nat.le_of_ble_eq_true rfl, Nat.le_of_ble_eq_true rfl⟩) (sl_vM_0 hA hK hP hS hZ) rfl rfl hl.1 rfl (lv_room (Nat.le_of_ble_eq_true rfl)) dX12_sums_13 ⟨Nat.le_refl _, Nat.le_refl _⟩) hA hS (fun r_32 f_29 L_30 Q_31 H locs hq hP hS => ?_)
        obtain ⟨⟨ef9, eL9, eQ9⟩, hq, p_33, u_34⟩ := hq
        replace hs := hs.trans ((if_pos c_20).trans (spl_e ev_26 (spl_e u_34 rfl)))
        rw [ef9, eL9, eQ9] at hP; clear ef9 eL9 eQ9
        refine lv_bipush (v := 43) hx hb dX12_sums_16 bp_43 ?_
        refine lv_icmp_eq (tgt := 30) hx hb dX12_sums_18 (by decide) (fun c => ?_) (fun c => ?_)
        · skip
          have c_35 : r_32.toInt = 43 := (by first | exact (cm_eq1 ti_43 c) | (have z := Int32.toInt_inj.mpr c; have k1 : (43 : Int32).toInt = 43 := ti_43; omega))
          refine lv_aload_n hx hb dX12_sums_30 rfl (lv_at hl 0 rfl) ?_
          refine sg_calli (va_runV (As := []) (rest := []) ⟨hx, hb, hml, hown, hts⟩ (kX12_byteAt l D ca za h hh fp_5 L Q hI H.size) (sl_c12_byteAt_0_0_0_0_12 hts ⟨Nat.le_of_ble_eq_true rfl, Nat.le_of_ble_eq_true rfl⟩) (sl_vM_0 hA hK hP hS hZ) rfl rfl hl.1 rfl (lv_room (Nat.le_of_ble_eq_true rfl)) dX12_sums_31 ⟨Nat.le_refl _, Nat.le_refl _⟩) hA hS (fun r_42 f_39 L_40 Q_41 H locs hq hP hS => ?_)
          obtain ⟨⟨ef9, eL9, eQ9⟩, hq, p_43, u_44⟩ := hq
          rw [ef9, eL9, eQ9] at hP; clear ef9 eL9 eQ9
          rw [show r_42 = r_32 from u_44.trans u_34.symm]
          refine lv_bipush (v := 43) hx hb dX12_sums_34 bp_43 ?_
          refine lv_icmp_ne (tgt := 43) hx hb dX12_sums_36 (by decide) (fun c => ?_) (fun c => ?_)
          · skip
            exfalso; have c_45 : r_32.toInt ≠ 43 := (by first | exact (cm_ne1 ti_43 c) | (have z := bn_ne c; have k1 : (43 : Int32).toInt = 43 := ti_43; omega)); first | exact absurd (by assumption) c_45 | omega
          · skip
            have c_46 : r_32.toInt = 43 := (by first | exact (cm_eq1 ti_43 c) | (have z := Int32.toInt_inj.mpr c; have k1 : (43 : Int32).toInt = 43 := ti_43; omega))
            refine lv_iconst (v := 1) hx hb dX12_sums_39 ic_1 ?_
            refine lv_goto (tgt := 44) hx hb dX12_sums_40 (by decide) ?_
            refine lv_istore_n (lv' := [(2, .int 1), (0, .ref (h 0)), (1, .int y1_5)]) hx hb dX12_sums_44 rfl hl (by decide) rfl (fun ls hl => ?_)
            refine lv_aload_n hx hb dX12_sums_45 rfl (lv_at hl 1 rfl) ?_
            refine lv_dup hx hb dX12_sums_46 rfl ?_
            refine sl_gM_0_13_12 (v := v_10) hx hb hts hown hK hP (show fp_5 0 13 = v_10 from ev_10.symm) dX12_sums_47 ?_
            refine lv_iconst (v := 1) hx hb dX12_sums_50 ic_1 ?_
            refine lv_iadd hx hb dX12_sums_51 ?_
            refine lv_topi (fun v_47 ev_47 => ?_)
            have q_48 : v_47.toInt = v_10.toInt + 1 := by rw [ev_47]; first | exact cm_add ti_1 (by omega) (by omega) | (have k1 : (1 : Int32).toInt = 1 := ti_1; exact (bn_addI (by omega) (by omega)).trans (by omega))
            refine sl_pM_0_13_12 (x := v_47) hx hb hts hown hh hA hK hP hS dX12_sums_52 (fun f_49 H locs ef_49 hP hS => ?_)
            have hI : sgI loM hiM f_49 := by rw [ef_49]; exact sgI.put hI 0 13 (show 0 ≤ (v_47 : Int32).toInt ∧ (v_47 : Int32).toInt ≤ 120 from ⟨by omega, by omega⟩)
            have hF : sgK WkX12_sums_5 f f_49 := sgK.put hF ef_49 (by rfl)
            refine lv_aload_n hx hb dX12_sums_55 rfl (lv_at hl 1 rfl) ?_
            have q_50 : (f_49 0 16).toInt = v_13.toInt := (congrArg Int32.toInt (show f_49 0 16 = v_13 from (by rw [ef_49, sg_up_s, sgu_n (by decide)]; exact ev_13.symm)))
            have q_51 : (f_49 0 15).toInt = v_16.toInt := (congrArg Int32.toInt (show f_49 0 15 = v_16 from (by rw [ef_49, sg_up_s, sgu_n (by decide)]; exact ev_16.symm)))
            have q_53 : (f_49 0 13).toInt = v_47.toInt := (congrArg Int32.toInt (show f_49 0 13 = v_47 from (by rw [ef_49, sg_up_s, sgu_s])))
            refine sg_calli (va_runV (As := []) (rest := []) ⟨hx, hb, hml, hown, hts⟩ (kX12_product_5 l D ca za h hh f_49 L Q hI (by omega) (by omega) H.size) (sl_c12_product_8_0_0_181_12 hts ⟨Nat.le_of_ble_eq_true rfl, Nat.le_of_ble_eq_true rfl⟩) (sl_vM_0 hA hK hP hS hZ) rfl rfl hl.1 rfl (lv_room (Nat.le_of_ble_eq_true rfl)) dX12_sums_56 ⟨Nat.le_refl _, Nat.le_refl _⟩) hA hS (fun r_57 f_54 L_55 Q_56 H locs hq hP hS => ?_)
            obtain ⟨⟨hI, hk_f_54, eL9, eQ9⟩, hq, p_58, p_59, p_60, u_61⟩ := hq
            rw [eL9, eQ9] at hP; clear eL9 eQ9
            have hF : sgK WkX12_sums_5 f f_54 := sgK.tr hF hk_f_54 (by decide +kernel)
            obtain ⟨v_62, ev_62⟩ : ∃ z : Int32, z = f_54 0 13 := ⟨_, rfl⟩
            have q_63 : 0 ≤ v_62.toInt ∧ v_62.toInt ≤ 120 := by rw [ev_62]; exact hI 0 13
            have q_64 : (f_54 0 13).toInt = v_62.toInt := (congrArg Int32.toInt (show f_54 0 13 = v_62 from ev_62.symm))
            obtain ⟨v_65, ev_65⟩ : ∃ z : Int32, z = f_54 0 16 := ⟨_, rfl⟩
            have q_66 : 0 ≤ v_65.toInt ∧ v_65.toInt ≤ 6 := by rw [ev_65]; exact hI 0 16
            have q_67 : (f_54 0 16).toInt = v_65.toInt := (congrArg Int32.toInt (show f_54 0 16 = v_65 from ev_65.symm))
            obtain ⟨v_68, ev_68⟩ : ∃ z : Int32, z = f_54 0 15 := ⟨_, rfl⟩
            have q_69 : (-1) ≤ v_68.toInt ∧ v_68.toInt ≤ 120 := by rw [ev_68]; exact hI 0 15
            have q_70 : (f_54 0 15).toInt = v_68.toInt := (congrArg Int32.toInt (show f_54 0 15 = v_68 from ev_68.symm))
            refine lv_istore_n (lv' := [(3, .int r_57), (2, .int 1), (0, .ref (h 0)), (1, .int y1_5)]) hx hb dX12_sums_59 rfl hl (by decide) rfl (fun ls hl => ?_)
            refine lv_iload_n hx hb dX12_sums_60 rfl (lv_at hl 1 rfl) ?_
            refine lv_if_eq (tgt := 70) hx hb dX12_sums_61 (by decide) (fun c => absurd c (by decide)) (fun c => ?_)
            refine lv_iload_n hx hb dX12_sums_64 rfl (lv_at hl 3 rfl) ?_
            refine lv_iload_n hx hb dX12_sums_65 rfl (lv_at hl 0 rfl) ?_
            refine lv_iadd hx hb dX12_sums_66 ?_
            refine lv_topi (fun v_72 ev_72 => ?_)
            refine lv_goto (tgt := 73) hx hb dX12_sums_67 (by decide) ?_
            refine lv_istore_n (lv' := [(1, .int v_72), (3, .int r_57), (2, .int 1), (0, .ref (h 0))]) hx hb dX12_sums_73 rfl hl (by decide) rfl (fun ls hl => ?_)
            refine lv_goto (tgt := 5) hx hb dX12_sums_74 (by decide) ?_
            exact ih_5 v_72 f_54 _ _ _ (hs.trans ((if_pos c_35).trans (spl_e ev_47 (spl_e ef_49 (spl2_e u_61 (spl_e ev_62 (spl_e ev_65 (spl_e ev_68 (spl_e ev_72 rfl))))))))) (by have zz0_13 : (f_54 0 13).toInt = v_62.toInt := (congrArg Int32.toInt (show f_54 0 13 = v_62 from ev_62.symm)); omega) (by have zz0_13 : (f_54 0 13).toInt = v_62.toInt := (congrArg Int32.toInt (show f_54 0 13 = v_62 from ev_62.symm)); omega) (by have zz0_16 : (f_54 0 16).toInt = v_65.toInt := (congrArg Int32.toInt (show f_54 0 16 = v_65 from ev_65.symm)); omega) (by have zz0_15 : (f_54 0 15).toInt = v_68.toInt := (congrArg Int32.toInt (show f_54 0 15 = v_68 from ev_68.symm)); have zz0_16 : (f_54 0 16).toInt = v_65.toInt := (congrArg Int32.toInt (show f_54 0 16 = v_65 from ev_65.symm)); omega) hI hF hP hS (lv_sub hl [3, 0] rfl)
        · skip
          have c_36 : r_32.toInt ≠ 43 := (by first | exact (cm_ne1 ti_43 c) | (have z := bn_ne c; have k1 : (43 : Int32).toInt = 43 := ti_43; omega))
          replace hs := hs.trans ((if_neg c_36).trans rfl)
          refine lv_aload_n hx hb dX12_sums_21 rfl (lv_at hl 0 rfl) ?_
          refine sg_calli (va_runV (As := []) (rest := []) ⟨hx, hb, hml, hown, hts⟩ (kX12_byteAt l D ca za h hh fp_5 L Q hI H.size) (sl_c12_byteAt_0_0_0_0_12 hts ⟨Nat.le_of_ble_eq_true rfl, Nat.le_of_ble_eq_true rfl⟩) (sl_vM_0 hA hK hP hS hZ) rfl rfl hl.1 rfl (lv_room (Nat.le_of_ble_eq_true rfl)) dX12_sums_22 ⟨Nat.le_refl _, Nat.le_refl _⟩) hA hS (fun r_78 f_75 L_76 Q_77 H locs hq hP hS => ?_)
          obtain ⟨⟨ef9, eL9, eQ9⟩, hq, p_79, u_80⟩ := hq
          rw [ef9, eL9, eQ9] at hP; clear ef9 eL9 eQ9
          rw [show r_78 = r_32 from u_80.trans u_34.symm]
          refine lv_bipush (v := 45) hx hb dX12_sums_25 bp_45 ?_
          refine lv_icmp_ne (tgt := 77) hx hb dX12_sums_27 (by decide) (fun c => ?_) (fun c => ?_)
          · skip
            have c_81 : r_32.toInt ≠ 45 := (by first | exact (cm_ne1 ti_45 c) | (have z := bn_ne c; have k1 : (45 : Int32).toInt = 45 := ti_45; omega))
            refine lv_iload_n hx hb dX12_sums_77 rfl (lv_at hl 1 rfl) ?_
            exact hret _ _ _ _ (y1_5) fp_5 L Q dX12_sums_78 hP hS ⟨⟨hI, hF, rfl, rfl⟩, trivial, (by omega), (by omega), (by omega), (Eq.trans (Eq.symm (hs.trans ((if_neg c_81).trans rfl))) hsp)⟩
          · skip
            have c_82 : r_32.toInt = 45 := (by first | exact (cm_eq1 ti_45 c) | (have z := Int32.toInt_inj.mpr c; have k1 : (45 : Int32).toInt = 45 := ti_45; omega))
            refine lv_aload_n hx hb dX12_sums_30 rfl (lv_at hl 0 rfl) ?_
            refine sg_calli (va_runV (As := []) (rest := []) ⟨hx, hb, hml, hown, hts⟩ (kX12_byteAt l D ca za h hh fp_5 L Q hI H.size) (sl_c12_byteAt_0_0_0_0_12 hts ⟨Nat.le_of_ble_eq_true rfl, Nat.le_of_ble_eq_true rfl⟩) (sl_vM_0 hA hK hP hS hZ) rfl rfl hl.1 rfl (lv_room (Nat.le_of_ble_eq_true rfl)) dX12_sums_31 ⟨Nat.le_refl _, Nat.le_refl _⟩) hA hS (fun r_92 f_89 L_90 Q_91 H locs hq hP hS => ?_)
            obtain ⟨⟨ef9, eL9, eQ9⟩, hq, p_93, u_94⟩ := hq
            rw [ef9, eL9, eQ9] at hP; clear ef9 eL9 eQ9
            rw [show r_92 = r_32 from u_94.trans u_34.symm]
            refine lv_bipush (v := 43) hx hb dX12_sums_34 bp_43 ?_
            refine lv_icmp_ne (tgt := 43) hx hb dX12_sums_36 (by decide) (fun c => ?_) (fun c => ?_)
            · skip
              have c_95 : r_32.toInt ≠ 43 := (by first | exact (cm_ne1 ti_43 c) | (have z := bn_ne c; have k1 : (43 : Int32).toInt = 43 := ti_43; omega))
              refine lv_iconst (v := 0) hx hb dX12_sums_43 ic_0 ?_
              refine lv_istore_n (lv' := [(2, .int 0), (0, .ref (h 0)), (1, .int y1_5)]) hx hb dX12_sums_44 rfl hl (by decide) rfl (fun ls hl => ?_)
              refine lv_aload_n hx hb dX12_sums_45 rfl (lv_at hl 1 rfl) ?_
              refine lv_dup hx hb dX12_sums_46 rfl ?_
              refine sl_gM_0_13_12 (v := v_10) hx hb hts hown hK hP (show fp_5 0 13 = v_10 from ev_10.symm) dX12_sums_47 ?_
              refine lv_iconst (v := 1) hx hb dX12_sums_50 ic_1 ?_
              refine lv_iadd hx hb dX12_sums_51 ?_
              refine lv_topi (fun v_97 ev_97 => ?_)
              have q_98 : v_97.toInt = v_10.toInt + 1 := by rw [ev_97]; first | exact cm_add ti_1 (by omega) (by omega) | (have k1 : (1 : Int32).toInt = 1 := ti_1; exact (bn_addI (by omega) (by omega)).trans (by omega))
              refine sl_pM_0_13_12 (x := v_97) hx hb hts hown hh hA hK hP hS dX12_sums_52 (fun f_99 H locs ef_99 hP hS => ?_)
              have hI : sgI loM hiM f_99 := by rw [ef_99]; exact sgI.put hI 0 13 (show 0 ≤ (v_97 : Int32).toInt ∧ (v_97 : Int32).toInt ≤ 120 from ⟨by omega, by omega⟩)
              have hF : sgK WkX12_sums_5 f f_99 := sgK.put hF ef_99 (by rfl)
              refine lv_aload_n hx hb dX12_sums_55 rfl (lv_at hl 1 rfl) ?_
              have q_100 : (f_99 0 16).toInt = v_13.toInt := (congrArg Int32.toInt (show f_99 0 16 = v_13 from (by rw [ef_99, sg_up_s, sgu_n (by decide)]; exact ev_13.symm)))
              have q_101 : (f_99 0 15).toInt = v_16.toInt := (congrArg Int32.toInt (show f_99 0 15 = v_16 from (by rw [ef_99, sg_up_s, sgu_n (by decide)]; exact ev_16.symm)))
              have q_103 : (f_99 0 13).toInt = v_97.toInt := (congrArg Int32.toInt (show f_99 0 13 = v_97 from (by rw [ef_99, sg_up_s, sgu_s])))
              refine sg_calli (va_runV (As := []) (rest := []) ⟨hx, hb, hml, hown, hts⟩ (kX12_product_5 l D ca za h hh f_99 L Q hI (by omega) (by omega) H.size) (sl_c12_product_8_0_0_181_12 hts ⟨Nat.le_of_ble_eq_true rfl, Nat.le_of_ble_eq_true rfl⟩) (sl_vM_0 hA hK hP hS hZ) rfl rfl hl.1 rfl (lv_room (Nat.le_of_ble_eq_true rfl)) dX12_sums_56 ⟨Nat.le_refl _, Nat.le_refl _⟩) hA hS (fun r_107 f_104 L_105 Q_106 H locs hq hP hS => ?_)
              obtain ⟨⟨hI, hk_f_104, eL9, eQ9⟩, hq, p_108, p_109, p_110, u_111⟩ := hq
              rw [eL9, eQ9] at hP; clear eL9 eQ9
              have hF : sgK WkX12_sums_5 f f_104 := sgK.tr hF hk_f_104 (by decide +kernel)
              obtain ⟨v_112, ev_112⟩ : ∃ z : Int32, z = f_104 0 13 := ⟨_, rfl⟩
              have q_113 : 0 ≤ v_112.toInt ∧ v_112.toInt ≤ 120 := by rw [ev_112]; exact hI 0 13
              have q_114 : (f_104 0 13).toInt = v_112.toInt := (congrArg Int32.toInt (show f_104 0 13 = v_112 from ev_112.symm))
              obtain ⟨v_115, ev_115⟩ : ∃ z : Int32, z = f_104 0 16 := ⟨_, rfl⟩
              have q_116 : 0 ≤ v_115.toInt ∧ v_115.toInt ≤ 6 := by rw [ev_115]; exact hI 0 16
              have q_117 : (f_104 0 16).toInt = v_115.toInt := (congrArg Int32.toInt (show f_104 0 16 = v_115 from ev_115.symm))
              obtain ⟨v_118, ev_118⟩ : ∃ z : Int32, z = f_104 0 15 := ⟨_, rfl⟩
              have q_119 : (-1) ≤ v_118.toInt ∧ v_118.toInt ≤ 120 := by rw [ev_118]; exact hI 0 15
              have q_120 : (f_104 0 15).toInt = v_118.toInt := (congrArg Int32.toInt (show f_104 0 15 = v_118 from ev_118.symm))
              refine lv_istore_n (lv' := [(3, .int r_107), (2, .int 0), (0, .ref (h 0)), (1, .int y1_5)]) hx hb dX12_sums_59 rfl hl (by decide) rfl (fun ls hl => ?_)
              refine lv_iload_n hx hb dX12_sums_60 rfl (lv_at hl 1 rfl) ?_
              refine lv_if_eq (tgt := 70) hx hb dX12_sums_61 (by decide) (fun c => ?_) (fun c => absurd c (by decide))
              refine lv_iload_n hx hb dX12_sums_70 rfl (lv_at hl 3 rfl) ?_
              refine lv_iload_n hx hb dX12_sums_71 rfl (lv_at hl 0 rfl) ?_
              refine lv_isub hx hb dX12_sums_72 ?_
              refine lv_topi (fun v_122 ev_122 => ?_)
              refine lv_istore_n (lv' := [(1, .int v_122), (3, .int r_107), (2, .int 0), (0, .ref (h 0))]) hx hb dX12_sums_73 rfl hl (by decide) rfl (fun ls hl => ?_)
              refine lv_goto (tgt := 5) hx hb dX12_sums_74 (by decide) ?_
              exact ih_5 v_122 f_104 _ _ _ (hs.trans ((if_pos c_82).trans (spl_e ev_97 (spl_e ef_99 (spl2_e u_111 (spl_e ev_112 (spl_e ev_115 (spl_e ev_118 (spl_e ev_122 rfl))))))))) (by have zz0_13 : (f_104 0 13).toInt = v_112.toInt := (congrArg Int32.toInt (show f_104 0 13 = v_112 from ev_112.symm)); omega) (by have zz0_13 : (f_104 0 13).toInt = v_112.toInt := (congrArg Int32.toInt (show f_104 0 13 = v_112 from ev_112.symm)); omega) (by have zz0_16 : (f_104 0 16).toInt = v_115.toInt := (congrArg Int32.toInt (show f_104 0 16 = v_115 from ev_115.symm)); omega) (by have zz0_15 : (f_104 0 15).toInt = v_118.toInt := (congrArg Int32.toInt (show f_104 0 15 = v_118 from ev_118.symm)); have zz0_16 : (f_104 0 16).toInt = v_115.toInt := (congrArg Int32.toInt (show f_104 0 16 = v_115 from ev_115.symm)); omega) hI hF hP hS (lv_sub hl [3, 0] rfl)
            · skip
              exfalso; have c_96 : r_32.toInt = 43 := (by first | exact (cm_eq1 ti_43 c) | (have z := Int32.toInt_inj.mpr c; have k1 : (43 : Int32).toInt = 43 := ti_43; omega)); first | exact absurd c_96 (by assumption) | omega
  refine lv_aload_n hx hb dX12_sums_0 rfl (lv_at hl 0 rfl) ?_
  have q_123 : (f 0 16).toInt = v_1.toInt := (congrArg Int32.toInt (show f 0 16 = v_1 from ev_1.symm))
  have q_124 : (f 0 15).toInt = v_3.toInt := (congrArg Int32.toInt (show f 0 15 = v_3 from ev_3.symm))
  have q_126 : (f 0 13).toInt = v_5.toInt := (congrArg Int32.toInt (show f 0 13 = v_5 from ev_5.symm))
  refine sg_calli (va_runV (As := []) (rest := []) ⟨hx, hb, hml, hown, hts⟩ (kX12_product_5 l D ca za h hh f L Q hI (by omega) (by omega) H.size) (sl_c12_product_8_0_0_181_12 hts ⟨Nat.le_of_ble_eq_true rfl, Nat.le_of_ble_eq_true rfl⟩) (sl_vM_0 hA hK hP hS hZ) rfl rfl hl.1 rfl (lv_room (Nat.le_of_ble_eq_true rfl)) dX12_sums_1 ⟨Nat.le_refl _, Nat.le_refl _⟩) hA hS (fun r_130 f_127 L_128 Q_129 H locs hq hP hS => ?_)
  obtain ⟨⟨hI, hk_f_127, eL9, eQ9⟩, hq, p_131, p_132, p_133, u_134⟩ := hq
  rw [eL9, eQ9] at hP; clear eL9 eQ9
  have hF : sgK WkX12_sums_5 f f_127 := sgK.tr hF hk_f_127 (by decide +kernel)
  obtain ⟨v_135, ev_135⟩ : ∃ z : Int32, z = f_127 0 13 := ⟨_, rfl⟩
  have q_136 : 0 ≤ v_135.toInt ∧ v_135.toInt ≤ 120 := by rw [ev_135]; exact hI 0 13
  have q_137 : (f_127 0 13).toInt = v_135.toInt := (congrArg Int32.toInt (show f_127 0 13 = v_135 from ev_135.symm))
  obtain ⟨v_138, ev_138⟩ : ∃ z : Int32, z = f_127 0 16 := ⟨_, rfl⟩
  have q_139 : 0 ≤ v_138.toInt ∧ v_138.toInt ≤ 6 := by rw [ev_138]; exact hI 0 16
  have q_140 : (f_127 0 16).toInt = v_138.toInt := (congrArg Int32.toInt (show f_127 0 16 = v_138 from ev_138.symm))
  obtain ⟨v_141, ev_141⟩ : ∃ z : Int32, z = f_127 0 15 := ⟨_, rfl⟩
  have q_142 : (-1) ≤ v_141.toInt ∧ v_141.toInt ≤ 120 := by rw [ev_141]; exact hI 0 15
  have q_143 : (f_127 0 15).toInt = v_141.toInt := (congrArg Int32.toInt (show f_127 0 15 = v_141 from ev_141.symm))
  refine lv_istore_n (lv' := [(1, .int r_130), (0, .ref (h 0))]) hx hb dX12_sums_4 rfl hl (by decide) rfl (fun ls hl => ?_)
  exact loop_5 121 r_130 f_127 _ _ _ (hs.trans ((spl_e ev_1 (spl_e ev_3 (spl_e ev_5 (spl2_e u_134 (spl_e ev_135 (spl_e ev_138 (spl_e ev_141 rfl))))))))) (by have zz0_13 : (f_127 0 13).toInt = v_135.toInt := (congrArg Int32.toInt (show f_127 0 13 = v_135 from ev_135.symm)); omega) (by have zz0_13 : (f_127 0 13).toInt = v_135.toInt := (congrArg Int32.toInt (show f_127 0 13 = v_135 from ev_135.symm)); omega) (by have zz0_16 : (f_127 0 16).toInt = v_138.toInt := (congrArg Int32.toInt (show f_127 0 16 = v_138 from ev_138.symm)); omega) (by have zz0_15 : (f_127 0 15).toInt = v_141.toInt := (congrArg Int32.toInt (show f_127 0 15 = v_141 from ev_141.symm)); have zz0_16 : (f_127 0 16).toInt = v_138.toInt := (congrArg Int32.toInt (show f_127 0 16 = v_138 from ev_138.symm)); omega) hI hF hP hS (lv_sub hl [1, 0] rfl)

abbrev WkX12_compared_5 : List (Nat × Nat × Option Nat) := [(0, 0, some 13), (0, 0, some 15), (0, 0, some 16)]
set_option maxHeartbeats 4000000 in
set_option maxRecDepth 100000 in
theorem kX12_compared_5 (l : Launch) (D : va_G) (ca : Nat → ClassId) (za h : Nat → Nat) (hh : sgH 26 h) (f : sg_F) (L : sg_L) (Q : sg_Q) (hI : sgI loM hiM f) (p0 : 5 ≤ (f 0 16).toInt) (p1 : 0 ≤ (f 0 15).toInt ∨ (f 0 16).toInt = 5) (sz : Nat) : Met l yX12_compared gwX12_compared { frames := 10, cells := 0, slots := 0, locals := 227 } (sgP D vwCl (tyX ca) 26 h (eM ca h) zcM za f L Q sz [.ref (h 0)]) (sgQi D vwCl 26 h (eM ca h) sz (fun r f1 L1 Q1 => ((sgI loM hiM f1 ∧ sgK WkX12_compared_5 f f1 ∧ L1 = L ∧ Q1 = Q) ∧ True ∧ ((f 0 13).toInt ≤ (f1 0 13).toInt) ∧ (5 ≤ (f1 0 16).toInt) ∧ (0 ≤ (f1 0 15).toInt ∨ (f1 0 16).toInt = 5) ∧ (r, f1) = sX12_compared_5 f L))) 0 0 (sgA 26 h sz) := by
  refine sg_ofWi (cc := cX12_compared) (maxL := 4) RX12 (by decide) rfl rfl (Nat.le_of_ble_eq_true rfl) ?_
  intro p e s m below meth cd Qz ls hx hb hml hown hts hK hZ hP hS hl hret
  have hA := sgY.self (n := 26) (h := h) (sz := s.heap.size)
  have hl : lv_has ls 4 [(0, .ref (h 0))] := hl
  obtain ⟨H, hH⟩ : ∃ z : Heap, z = s.heap := ⟨_, rfl⟩
  obtain ⟨locs, hlo⟩ : ∃ z : List Loc, z = [] := ⟨_, rfl⟩
  have hP : va_P D vwCl (sgw 26 h (eM ca h) f L Q) H := by rw [hH]; exact hP
  have hS : va_S (sgA 26 h s.heap.size) s.heap H locs := by rw [hH, hlo]; exact hS
  suffices hgo : W p l e ({ frames := 10, cells := 0, slots := 0, locals := 227 }) s m ([.ref (h 0)] : List Value).toArray below meth cd H locs 0 0 Qz (F0 m 0 ls []) by rw [hH, hlo] at hgo; exact hgo
  clear hH hlo
  obtain ⟨sp, hsp⟩ : ∃ z : Int32 × sg_F, z = sX12_compared_5 f L := ⟨_, rfl⟩
  have hs : sp = sX12_compared_5 f L := hsp
  obtain ⟨v_1, ev_1⟩ : ∃ z : Int32, z = f 0 16 := ⟨_, rfl⟩
  have q_2 : 0 ≤ v_1.toInt ∧ v_1.toInt ≤ 6 := by rw [ev_1]; exact hI 0 16
  obtain ⟨v_3, ev_3⟩ : ∃ z : Int32, z = f 0 15 := ⟨_, rfl⟩
  have q_4 : (-1) ≤ v_3.toInt ∧ v_3.toInt ≤ 120 := by rw [ev_3]; exact hI 0 15
  obtain ⟨v_5, ev_5⟩ : ∃ z : Int32, z = f 0 13 := ⟨_, rfl⟩
  have q_6 : 0 ≤ v_5.toInt ∧ v_5.toInt ≤ 120 := by rw [ev_5]; exact hI 0 13
  have o_7 : (f 0 16).toInt = v_1.toInt := (congrArg Int32.toInt (show f 0 16 = v_1 from ev_1.symm))
  have o_8 : (f 0 15).toInt = v_3.toInt := (congrArg Int32.toInt (show f 0 15 = v_3 from ev_3.symm))
  have o_9 : (f 0 13).toInt = v_5.toInt := (congrArg Int32.toInt (show f 0 13 = v_5 from ev_5.symm))
  have hF : sgK WkX12_compared_5 f f := sgK.rf
  refine lv_aload_n hx hb dX12_compared_0 rfl (lv_at hl 0 rfl) ?_
  have q_10 : (f 0 16).toInt = v_1.toInt := (congrArg Int32.toInt (show f 0 16 = v_1 from ev_1.symm))
  have q_11 : (f 0 15).toInt = v_3.toInt := (congrArg Int32.toInt (show f 0 15 = v_3 from ev_3.symm))
  have q_13 : (f 0 13).toInt = v_5.toInt := (congrArg Int32.toInt (show f 0 13 = v_5 from ev_5.symm))
  refine sg_calli (va_runV (As := []) (rest := []) ⟨hx, hb, hml, hown, hts⟩ (kX12_sums_5 l D ca za h hh f L Q hI (by omega) (by omega) H.size) (sl_c12_sums_9_0_0_204_12 hts ⟨Nat.le_of_ble_eq_true rfl, Nat.le_of_ble_eq_true rfl⟩) (sl_vM_0 hA hK hP hS hZ) rfl rfl hl.1 rfl (lv_room (Nat.le_of_ble_eq_true rfl)) dX12_compared_1 ⟨Nat.le_refl _, Nat.le_refl _⟩) hA hS (fun r_17 f_14 L_15 Q_16 H locs hq hP hS => ?_)
  obtain ⟨⟨hI, hk_f_14, eL9, eQ9⟩, hq, p_18, p_19, p_20, u_21⟩ := hq
  rw [eL9, eQ9] at hP; clear eL9 eQ9
  have hF : sgK WkX12_compared_5 f f_14 := sgK.tr hF hk_f_14 (by decide +kernel)
  obtain ⟨v_22, ev_22⟩ : ∃ z : Int32, z = f_14 0 13 := ⟨_, rfl⟩
  have q_23 : 0 ≤ v_22.toInt ∧ v_22.toInt ≤ 120 := by rw [ev_22]; exact hI 0 13
  have q_24 : (f_14 0 13).toInt = v_22.toInt := (congrArg Int32.toInt (show f_14 0 13 = v_22 from ev_22.symm))
  obtain ⟨v_25, ev_25⟩ : ∃ z : Int32, z = f_14 0 16 := ⟨_, rfl⟩
  have q_26 : 0 ≤ v_25.toInt ∧ v_25.toInt ≤ 6 := by rw [ev_25]; exact hI 0 16
  have q_27 : (f_14 0 16).toInt = v_25.toInt := (congrArg Int32.toInt (show f_14 0 16 = v_25 from ev_25.symm))
  obtain ⟨v_28, ev_28⟩ : ∃ z : Int32, z = f_14 0 15 := ⟨_, rfl⟩
  have q_29 : (-1) ≤ v_28.toInt ∧ v_28.toInt ≤ 120 := by rw [ev_28]; exact hI 0 15
  have q_30 : (f_14 0 15).toInt = v_28.toInt := (congrArg Int32.toInt (show f_14 0 15 = v_28 from ev_28.symm))
  refine lv_istore_n (lv' := [(1, .int r_17), (0, .ref (h 0))]) hx hb dX12_compared_4 rfl hl (by decide) rfl (fun ls hl => ?_)
  refine lv_aload_n hx hb dX12_compared_5 rfl (lv_at hl 1 rfl) ?_
  obtain ⟨v_33, ev_33⟩ : ∃ z : Int32, z = f_14 0 14 := ⟨_, rfl⟩
  have q_34 : 0 ≤ v_33.toInt ∧ v_33.toInt ≤ 120 := by rw [ev_33]; exact hI 0 14
  have q_35 : (f_14 0 14).toInt = v_33.toInt := (congrArg Int32.toInt (show f_14 0 14 = v_33 from ev_33.symm))
  refine sg_calli (va_runV (As := []) (rest := []) ⟨hx, hb, hml, hown, hts⟩ (kX12_byteAt l D ca za h hh f_14 L Q hI H.size) (sl_c12_byteAt_0_0_0_0_12 hts ⟨Nat.le_of_ble_eq_true rfl, Nat.le_of_ble_eq_true rfl⟩) (sl_vM_0 hA hK hP hS hZ) rfl rfl hl.1 rfl (lv_room (Nat.le_of_ble_eq_true rfl)) dX12_compared_6 ⟨Nat.le_refl _, Nat.le_refl _⟩) hA hS (fun r_39 f_36 L_37 Q_38 H locs hq hP hS => ?_)
  obtain ⟨⟨ef9, eL9, eQ9⟩, hq, p_40, u_41⟩ := hq
  replace hs := hs.trans (spl_e ev_1 (spl_e ev_3 (spl_e ev_5 (spl2_e u_21 (spl_e ev_22 (spl_e ev_25 (spl_e ev_28 (spl_e ev_33 (spl_e u_41 rfl)))))))))
  rw [ef9, eL9, eQ9] at hP; clear ef9 eL9 eQ9
  refine lv_istore_n (lv' := [(2, .int r_39), (1, .int r_17), (0, .ref (h 0))]) hx hb dX12_compared_9 rfl hl (by decide) rfl (fun ls hl => ?_)
  refine lv_aload_n hx hb dX12_compared_10 rfl (lv_at hl 2 rfl) ?_
  refine sl_gM_0_15_12 (v := v_28) hx hb hts hown hK hP (show f_14 0 15 = v_28 from ev_28.symm) dX12_compared_11 ?_
  refine lv_if_ge (tgt := 35) hx hb dX12_compared_14 (by decide) (fun c => ?_) (fun c => ?_)
  · skip
    have c_42 : 0 ≤ v_28.toInt := (by first | exact (cm_le0 ti_0 c) | (have z := bn_le c; have k1 : (0 : Int32).toInt = 0 := ti_0; omega))
    refine lv_iload_n hx hb dX12_compared_35 rfl (lv_at hl 1 rfl) ?_
    exact hret _ _ _ _ (r_17) f_14 L Q dX12_compared_36 hP hS ⟨⟨hI, hF, rfl, rfl⟩, trivial, (by omega), (by omega), (by omega), (Eq.trans (Eq.symm (hs.trans ((if_neg (Int.not_lt.mpr c_42)).trans rfl))) hsp)⟩
  · skip
    have c_43 : v_28.toInt < 0 := (by first | exact (cm_nle0 ti_0 c) | (have z := bn_nle c; have k1 : (0 : Int32).toInt = 0 := ti_0; omega))
    replace hs := hs.trans ((if_pos c_43).trans rfl)
    refine lv_iload_n hx hb dX12_compared_17 rfl (lv_at hl 0 rfl) ?_
    refine lv_bipush (v := 60) hx hb dX12_compared_18 bp_60 ?_
    refine lv_icmp_eq (tgt := 37) hx hb dX12_compared_20 (by decide) (fun c => ?_) (fun c => ?_)
    · skip
      have c_48 : r_39.toInt = 60 := (by first | exact (cm_eq1 ti_60 c) | (have z := Int32.toInt_inj.mpr c; have k1 : (60 : Int32).toInt = 60 := ti_60; omega))
      refine lv_aload_n hx hb dX12_compared_37 rfl (lv_at hl 2 rfl) ?_
      refine lv_dup hx hb dX12_compared_38 rfl ?_
      refine sl_gM_0_13_12 (v := v_22) hx hb hts hown hK hP (show f_14 0 13 = v_22 from ev_22.symm) dX12_compared_39 ?_
      refine lv_iconst (v := 1) hx hb dX12_compared_42 ic_1 ?_
      refine lv_iadd hx hb dX12_compared_43 ?_
      refine lv_topi (fun v_50 ev_50 => ?_)
      have q_51 : v_50.toInt = v_22.toInt + 1 := by rw [ev_50]; first | exact cm_add ti_1 (by omega) (by omega) | (have k1 : (1 : Int32).toInt = 1 := ti_1; exact (bn_addI (by omega) (by omega)).trans (by omega))
      refine sl_pM_0_13_12 (x := v_50) hx hb hts hown hh hA hK hP hS dX12_compared_44 (fun f_52 H locs ef_52 hP hS => ?_)
      have hI : sgI loM hiM f_52 := by rw [ef_52]; exact sgI.put hI 0 13 (show 0 ≤ (v_50 : Int32).toInt ∧ (v_50 : Int32).toInt ≤ 120 from ⟨by omega, by omega⟩)
      have hF : sgK WkX12_compared_5 f f_52 := sgK.put hF ef_52 (by rfl)
      refine lv_aload_n hx hb dX12_compared_47 rfl (lv_at hl 2 rfl) ?_
      have q_53 : (f_52 0 16).toInt = v_25.toInt := (congrArg Int32.toInt (show f_52 0 16 = v_25 from (by rw [ef_52, sg_up_s, sgu_n (by decide)]; exact ev_25.symm)))
      have q_54 : (f_52 0 15).toInt = v_28.toInt := (congrArg Int32.toInt (show f_52 0 15 = v_28 from (by rw [ef_52, sg_up_s, sgu_n (by decide)]; exact ev_28.symm)))
      have q_56 : (f_52 0 13).toInt = v_50.toInt := (congrArg Int32.toInt (show f_52 0 13 = v_50 from (by rw [ef_52, sg_up_s, sgu_s])))
      refine sg_calli (va_runV (As := []) (rest := []) ⟨hx, hb, hml, hown, hts⟩ (kX12_sums_5 l D ca za h hh f_52 L Q hI (by omega) (by omega) H.size) (sl_c12_sums_9_0_0_204_12 hts ⟨Nat.le_of_ble_eq_true rfl, Nat.le_of_ble_eq_true rfl⟩) (sl_vM_0 hA hK hP hS hZ) rfl rfl hl.1 rfl (lv_room (Nat.le_of_ble_eq_true rfl)) dX12_compared_48 ⟨Nat.le_refl _, Nat.le_refl _⟩) hA hS (fun r_60 f_57 L_58 Q_59 H locs hq hP hS => ?_)
      obtain ⟨⟨hI, hk_f_57, eL9, eQ9⟩, hq, p_61, p_62, p_63, u_64⟩ := hq
      rw [eL9, eQ9] at hP; clear eL9 eQ9
      have hF : sgK WkX12_compared_5 f f_57 := sgK.tr hF hk_f_57 (by decide +kernel)
      obtain ⟨v_65, ev_65⟩ : ∃ z : Int32, z = f_57 0 13 := ⟨_, rfl⟩
      have q_66 : 0 ≤ v_65.toInt ∧ v_65.toInt ≤ 120 := by rw [ev_65]; exact hI 0 13
      have q_67 : (f_57 0 13).toInt = v_65.toInt := (congrArg Int32.toInt (show f_57 0 13 = v_65 from ev_65.symm))
      obtain ⟨v_68, ev_68⟩ : ∃ z : Int32, z = f_57 0 16 := ⟨_, rfl⟩
      have q_69 : 0 ≤ v_68.toInt ∧ v_68.toInt ≤ 6 := by rw [ev_68]; exact hI 0 16
      have q_70 : (f_57 0 16).toInt = v_68.toInt := (congrArg Int32.toInt (show f_57 0 16 = v_68 from ev_68.symm))
      obtain ⟨v_71, ev_71⟩ : ∃ z : Int32, z = f_57 0 15 := ⟨_, rfl⟩
      replace hs := hs.trans ((if_pos c_48).trans (spl_e ev_50 (spl_e ef_52 (spl2_e u_64 (spl_e ev_65 (spl_e ev_68 (spl_e ev_71 rfl)))))))
      have q_72 : (-1) ≤ v_71.toInt ∧ v_71.toInt ≤ 120 := by rw [ev_71]; exact hI 0 15
      have q_73 : (f_57 0 15).toInt = v_71.toInt := (congrArg Int32.toInt (show f_57 0 15 = v_71 from ev_71.symm))
      refine lv_istore_n (lv' := [(3, .int r_60), (2, .int r_39), (1, .int r_17), (0, .ref (h 0))]) hx hb dX12_compared_51 rfl hl (by decide) rfl (fun ls hl => ?_)
      refine lv_iload_n hx hb dX12_compared_52 rfl (lv_at hl 1 rfl) ?_
      refine lv_bipush (v := 60) hx hb dX12_compared_53 bp_60 ?_
      refine lv_icmp_ne (tgt := 66) hx hb dX12_compared_55 (by decide) (fun c => ?_) (fun c => ?_)
      · skip
        exfalso; have c_75 : r_39.toInt ≠ 60 := (by first | exact (cm_ne1 ti_60 c) | (have z := bn_ne c; have k1 : (60 : Int32).toInt = 60 := ti_60; omega)); first | exact absurd (by assumption) c_75 | omega
      · skip
        have c_76 : r_39.toInt = 60 := (by first | exact (cm_eq1 ti_60 c) | (have z := Int32.toInt_inj.mpr c; have k1 : (60 : Int32).toInt = 60 := ti_60; omega))
        refine lv_iload_n hx hb dX12_compared_58 rfl (lv_at hl 2 rfl) ?_
        refine lv_iload_n hx hb dX12_compared_59 rfl (lv_at hl 0 rfl) ?_
        refine lv_icmp_ge (tgt := 89) hx hb dX12_compared_60 (by decide) (fun c => ?_) (fun c => ?_)
        · skip
          have c_77 : r_60.toInt ≤ r_17.toInt := (by first | exact (bn_le c) | (have z := bn_le c; omega))
          refine lv_iconst (v := 0) hx hb dX12_compared_89 ic_0 ?_
          have k99 : (0 : Int32).toInt = 0 := ti_0
          exact hret _ _ _ _ (0) f_57 L Q dX12_compared_90 hP hS ⟨⟨hI, hF, rfl, rfl⟩, trivial, (by omega), (by omega), (by omega), (Eq.trans (Eq.symm (hs.trans ((if_neg (Int.not_lt.mpr c_77)).trans rfl))) hsp)⟩
        · skip
          have c_78 : r_17.toInt < r_60.toInt := (by first | exact (bn_nle c) | (have z := bn_nle c; omega))
          refine lv_goto (tgt := 85) hx hb dX12_compared_63 (by decide) ?_
          refine lv_iconst (v := 1) hx hb dX12_compared_85 ic_1 ?_
          refine lv_goto (tgt := 90) hx hb dX12_compared_86 (by decide) ?_
          have k99 : (1 : Int32).toInt = 1 := ti_1
          exact hret _ _ _ _ (1) f_57 L Q dX12_compared_90 hP hS ⟨⟨hI, hF, rfl, rfl⟩, trivial, (by omega), (by omega), (by omega), (Eq.trans (Eq.symm (hs.trans ((if_pos c_78).trans rfl))) hsp)⟩
    · skip
      have c_49 : r_39.toInt ≠ 60 := (by first | exact (cm_ne1 ti_60 c) | (have z := bn_ne c; have k1 : (60 : Int32).toInt = 60 := ti_60; omega))
      replace hs := hs.trans ((if_neg c_49).trans rfl)
      refine lv_iload_n hx hb dX12_compared_23 rfl (lv_at hl 0 rfl) ?_
      refine lv_bipush (v := 61) hx hb dX12_compared_24 bp_61 ?_
      refine lv_icmp_eq (tgt := 37) hx hb dX12_compared_26 (by decide) (fun c => ?_) (fun c => ?_)
      · skip
        have c_87 : r_39.toInt = 61 := (by first | exact (cm_eq1 ti_61 c) | (have z := Int32.toInt_inj.mpr c; have k1 : (61 : Int32).toInt = 61 := ti_61; omega))
        refine lv_aload_n hx hb dX12_compared_37 rfl (lv_at hl 2 rfl) ?_
        refine lv_dup hx hb dX12_compared_38 rfl ?_
        refine sl_gM_0_13_12 (v := v_22) hx hb hts hown hK hP (show f_14 0 13 = v_22 from ev_22.symm) dX12_compared_39 ?_
        refine lv_iconst (v := 1) hx hb dX12_compared_42 ic_1 ?_
        refine lv_iadd hx hb dX12_compared_43 ?_
        refine lv_topi (fun v_89 ev_89 => ?_)
        have q_90 : v_89.toInt = v_22.toInt + 1 := by rw [ev_89]; first | exact cm_add ti_1 (by omega) (by omega) | (have k1 : (1 : Int32).toInt = 1 := ti_1; exact (bn_addI (by omega) (by omega)).trans (by omega))
        refine sl_pM_0_13_12 (x := v_89) hx hb hts hown hh hA hK hP hS dX12_compared_44 (fun f_91 H locs ef_91 hP hS => ?_)
        have hI : sgI loM hiM f_91 := by rw [ef_91]; exact sgI.put hI 0 13 (show 0 ≤ (v_89 : Int32).toInt ∧ (v_89 : Int32).toInt ≤ 120 from ⟨by omega, by omega⟩)
        have hF : sgK WkX12_compared_5 f f_91 := sgK.put hF ef_91 (by rfl)
        refine lv_aload_n hx hb dX12_compared_47 rfl (lv_at hl 2 rfl) ?_
        have q_92 : (f_91 0 16).toInt = v_25.toInt := (congrArg Int32.toInt (show f_91 0 16 = v_25 from (by rw [ef_91, sg_up_s, sgu_n (by decide)]; exact ev_25.symm)))
        have q_93 : (f_91 0 15).toInt = v_28.toInt := (congrArg Int32.toInt (show f_91 0 15 = v_28 from (by rw [ef_91, sg_up_s, sgu_n (by decide)]; exact ev_28.symm)))
        have q_95 : (f_91 0 13).toInt = v_89.toInt := (congrArg Int32.toInt (show f_91 0 13 = v_89 from (by rw [ef_91, sg_up_s, sgu_s])))
        refine sg_calli (va_runV (As := []) (rest := []) ⟨hx, hb, hml, hown, hts⟩ (kX12_sums_5 l D ca za h hh f_91 L Q hI (by omega) (by omega) H.size) (sl_c12_sums_9_0_0_204_12 hts ⟨Nat.le_of_ble_eq_true rfl, Nat.le_of_ble_eq_true rfl⟩) (sl_vM_0 hA hK hP hS hZ) rfl rfl hl.1 rfl (lv_room (Nat.le_of_ble_eq_true rfl)) dX12_compared_48 ⟨Nat.le_refl _, Nat.le_refl _⟩) hA hS (fun r_99 f_96 L_97 Q_98 H locs hq hP hS => ?_)
        obtain ⟨⟨hI, hk_f_96, eL9, eQ9⟩, hq, p_100, p_101, p_102, u_103⟩ := hq
        rw [eL9, eQ9] at hP; clear eL9 eQ9
        have hF : sgK WkX12_compared_5 f f_96 := sgK.tr hF hk_f_96 (by decide +kernel)
        obtain ⟨v_104, ev_104⟩ : ∃ z : Int32, z = f_96 0 13 := ⟨_, rfl⟩
        have q_105 : 0 ≤ v_104.toInt ∧ v_104.toInt ≤ 120 := by rw [ev_104]; exact hI 0 13
        have q_106 : (f_96 0 13).toInt = v_104.toInt := (congrArg Int32.toInt (show f_96 0 13 = v_104 from ev_104.symm))
        obtain ⟨v_107, ev_107⟩ : ∃ z : Int32, z = f_96 0 16 := ⟨_, rfl⟩
        have q_108 : 0 ≤ v_107.toInt ∧ v_107.toInt ≤ 6 := by rw [ev_107]; exact hI 0 16
        have q_109 : (f_96 0 16).toInt = v_107.toInt := (congrArg Int32.toInt (show f_96 0 16 = v_107 from ev_107.symm))
        obtain ⟨v_110, ev_110⟩ : ∃ z : Int32, z = f_96 0 15 := ⟨_, rfl⟩
        replace hs := hs.trans ((if_pos c_87).trans (spl_e ev_89 (spl_e ef_91 (spl2_e u_103 (spl_e ev_104 (spl_e ev_107 (spl_e ev_110 rfl)))))))
        have q_111 : (-1) ≤ v_110.toInt ∧ v_110.toInt ≤ 120 := by rw [ev_110]; exact hI 0 15
        have q_112 : (f_96 0 15).toInt = v_110.toInt := (congrArg Int32.toInt (show f_96 0 15 = v_110 from ev_110.symm))
        refine lv_istore_n (lv' := [(3, .int r_99), (2, .int r_39), (1, .int r_17), (0, .ref (h 0))]) hx hb dX12_compared_51 rfl hl (by decide) rfl (fun ls hl => ?_)
        refine lv_iload_n hx hb dX12_compared_52 rfl (lv_at hl 1 rfl) ?_
        refine lv_bipush (v := 60) hx hb dX12_compared_53 bp_60 ?_
        refine lv_icmp_ne (tgt := 66) hx hb dX12_compared_55 (by decide) (fun c => ?_) (fun c => ?_)
        · skip
          have c_114 : r_39.toInt ≠ 60 := (by first | exact (cm_ne1 ti_60 c) | (have z := bn_ne c; have k1 : (60 : Int32).toInt = 60 := ti_60; omega))
          refine lv_iload_n hx hb dX12_compared_66 rfl (lv_at hl 1 rfl) ?_
          refine lv_bipush (v := 61) hx hb dX12_compared_67 bp_61 ?_
          refine lv_icmp_ne (tgt := 80) hx hb dX12_compared_69 (by decide) (fun c => ?_) (fun c => ?_)
          · skip
            exfalso; have c_116 : r_39.toInt ≠ 61 := (by first | exact (cm_ne1 ti_61 c) | (have z := bn_ne c; have k1 : (61 : Int32).toInt = 61 := ti_61; omega)); first | exact absurd (by assumption) c_116 | omega
          · skip
            have c_117 : r_39.toInt = 61 := (by first | exact (cm_eq1 ti_61 c) | (have z := Int32.toInt_inj.mpr c; have k1 : (61 : Int32).toInt = 61 := ti_61; omega))
            refine lv_iload_n hx hb dX12_compared_72 rfl (lv_at hl 2 rfl) ?_
            refine lv_iload_n hx hb dX12_compared_73 rfl (lv_at hl 0 rfl) ?_
            refine lv_icmp_ne (tgt := 89) hx hb dX12_compared_74 (by decide) (fun c => ?_) (fun c => ?_)
            · skip
              have c_118 : r_17.toInt ≠ r_99.toInt := (by first | exact (bn_ne c) | (have z := bn_ne c; omega))
              refine lv_iconst (v := 0) hx hb dX12_compared_89 ic_0 ?_
              have k99 : (0 : Int32).toInt = 0 := ti_0
              exact hret _ _ _ _ (0) f_96 L Q dX12_compared_90 hP hS ⟨⟨hI, hF, rfl, rfl⟩, trivial, (by omega), (by omega), (by omega), (Eq.trans (Eq.symm (hs.trans ((if_neg c_118).trans rfl))) hsp)⟩
            · skip
              have c_119 : r_17.toInt = r_99.toInt := (by first | exact (Int32.toInt_inj.mpr c) | (have z := Int32.toInt_inj.mpr c; omega))
              refine lv_goto (tgt := 85) hx hb dX12_compared_77 (by decide) ?_
              refine lv_iconst (v := 1) hx hb dX12_compared_85 ic_1 ?_
              refine lv_goto (tgt := 90) hx hb dX12_compared_86 (by decide) ?_
              have k99 : (1 : Int32).toInt = 1 := ti_1
              exact hret _ _ _ _ (1) f_96 L Q dX12_compared_90 hP hS ⟨⟨hI, hF, rfl, rfl⟩, trivial, (by omega), (by omega), (by omega), (Eq.trans (Eq.symm (hs.trans ((if_pos c_119).trans rfl))) hsp)⟩
        · skip
          exfalso; have c_115 : r_39.toInt = 60 := (by first | exact (cm_eq1 ti_60 c) | (have z := Int32.toInt_inj.mpr c; have k1 : (60 : Int32).toInt = 60 := ti_60; omega)); first | exact absurd c_115 (by assumption) | omega
      · skip
        have c_88 : r_39.toInt ≠ 61 := (by first | exact (cm_ne1 ti_61 c) | (have z := bn_ne c; have k1 : (61 : Int32).toInt = 61 := ti_61; omega))
        replace hs := hs.trans ((if_neg c_88).trans rfl)
        refine lv_iload_n hx hb dX12_compared_29 rfl (lv_at hl 0 rfl) ?_
        refine lv_bipush (v := 62) hx hb dX12_compared_30 bp_62 ?_
        refine lv_icmp_eq (tgt := 37) hx hb dX12_compared_32 (by decide) (fun c => ?_) (fun c => ?_)
        · skip
          have c_128 : r_39.toInt = 62 := (by first | exact (cm_eq1 ti_62 c) | (have z := Int32.toInt_inj.mpr c; have k1 : (62 : Int32).toInt = 62 := ti_62; omega))
          refine lv_aload_n hx hb dX12_compared_37 rfl (lv_at hl 2 rfl) ?_
          refine lv_dup hx hb dX12_compared_38 rfl ?_
          refine sl_gM_0_13_12 (v := v_22) hx hb hts hown hK hP (show f_14 0 13 = v_22 from ev_22.symm) dX12_compared_39 ?_
          refine lv_iconst (v := 1) hx hb dX12_compared_42 ic_1 ?_
          refine lv_iadd hx hb dX12_compared_43 ?_
          refine lv_topi (fun v_130 ev_130 => ?_)
          have q_131 : v_130.toInt = v_22.toInt + 1 := by rw [ev_130]; first | exact cm_add ti_1 (by omega) (by omega) | (have k1 : (1 : Int32).toInt = 1 := ti_1; exact (bn_addI (by omega) (by omega)).trans (by omega))
          refine sl_pM_0_13_12 (x := v_130) hx hb hts hown hh hA hK hP hS dX12_compared_44 (fun f_132 H locs ef_132 hP hS => ?_)
          have hI : sgI loM hiM f_132 := by rw [ef_132]; exact sgI.put hI 0 13 (show 0 ≤ (v_130 : Int32).toInt ∧ (v_130 : Int32).toInt ≤ 120 from ⟨by omega, by omega⟩)
          have hF : sgK WkX12_compared_5 f f_132 := sgK.put hF ef_132 (by rfl)
          refine lv_aload_n hx hb dX12_compared_47 rfl (lv_at hl 2 rfl) ?_
          have q_133 : (f_132 0 16).toInt = v_25.toInt := (congrArg Int32.toInt (show f_132 0 16 = v_25 from (by rw [ef_132, sg_up_s, sgu_n (by decide)]; exact ev_25.symm)))
          have q_134 : (f_132 0 15).toInt = v_28.toInt := (congrArg Int32.toInt (show f_132 0 15 = v_28 from (by rw [ef_132, sg_up_s, sgu_n (by decide)]; exact ev_28.symm)))
          have q_136 : (f_132 0 13).toInt = v_130.toInt := (congrArg Int32.toInt (show f_132 0 13 = v_130 from (by rw [ef_132, sg_up_s, sgu_s])))
          refine sg_calli (va_runV (As := []) (rest := []) ⟨hx, hb, hml, hown, hts⟩ (kX12_sums_5 l D ca za h hh f_132 L Q hI (by omega) (by omega) H.size) (sl_c12_sums_9_0_0_204_12 hts ⟨Nat.le_of_ble_eq_true rfl, Nat.le_of_ble_eq_true rfl⟩) (sl_vM_0 hA hK hP hS hZ) rfl rfl hl.1 rfl (lv_room (Nat.le_of_ble_eq_true rfl)) dX12_compared_48 ⟨Nat.le_refl _, Nat.le_refl _⟩) hA hS (fun r_140 f_137 L_138 Q_139 H locs hq hP hS => ?_)
          obtain ⟨⟨hI, hk_f_137, eL9, eQ9⟩, hq, p_141, p_142, p_143, u_144⟩ := hq
          rw [eL9, eQ9] at hP; clear eL9 eQ9
          have hF : sgK WkX12_compared_5 f f_137 := sgK.tr hF hk_f_137 (by decide +kernel)
          obtain ⟨v_145, ev_145⟩ : ∃ z : Int32, z = f_137 0 13 := ⟨_, rfl⟩
          have q_146 : 0 ≤ v_145.toInt ∧ v_145.toInt ≤ 120 := by rw [ev_145]; exact hI 0 13
          have q_147 : (f_137 0 13).toInt = v_145.toInt := (congrArg Int32.toInt (show f_137 0 13 = v_145 from ev_145.symm))
          obtain ⟨v_148, ev_148⟩ : ∃ z : Int32, z = f_137 0 16 := ⟨_, rfl⟩
          have q_149 : 0 ≤ v_148.toInt ∧ v_148.toInt ≤ 6 := by rw [ev_148]; exact hI 0 16
          have q_150 : (f_137 0 16).toInt = v_148.toInt := (congrArg Int32.toInt (show f_137 0 16 = v_148 from ev_148.symm))
          obtain ⟨v_151, ev_151⟩ : ∃ z : Int32, z = f_137 0 15 := ⟨_, rfl⟩
          replace hs := hs.trans ((if_pos c_128).trans (spl_e ev_130 (spl_e ef_132 (spl2_e u_144 (spl_e ev_145 (spl_e ev_148 (spl_e ev_151 rfl)))))))
          have q_152 : (-1) ≤ v_151.toInt ∧ v_151.toInt ≤ 120 := by rw [ev_151]; exact hI 0 15
          have q_153 : (f_137 0 15).toInt = v_151.toInt := (congrArg Int32.toInt (show f_137 0 15 = v_151 from ev_151.symm))
          refine lv_istore_n (lv' := [(3, .int r_140), (2, .int r_39), (1, .int r_17), (0, .ref (h 0))]) hx hb dX12_compared_51 rfl hl (by decide) rfl (fun ls hl => ?_)
          refine lv_iload_n hx hb dX12_compared_52 rfl (lv_at hl 1 rfl) ?_
          refine lv_bipush (v := 60) hx hb dX12_compared_53 bp_60 ?_
          refine lv_icmp_ne (tgt := 66) hx hb dX12_compared_55 (by decide) (fun c => ?_) (fun c => ?_)
          · skip
            have c_155 : r_39.toInt ≠ 60 := (by first | exact (cm_ne1 ti_60 c) | (have z := bn_ne c; have k1 : (60 : Int32).toInt = 60 := ti_60; omega))
            refine lv_iload_n hx hb dX12_compared_66 rfl (lv_at hl 1 rfl) ?_
            refine lv_bipush (v := 61) hx hb dX12_compared_67 bp_61 ?_
            refine lv_icmp_ne (tgt := 80) hx hb dX12_compared_69 (by decide) (fun c => ?_) (fun c => ?_)
            · skip
              have c_157 : r_39.toInt ≠ 61 := (by first | exact (cm_ne1 ti_61 c) | (have z := bn_ne c; have k1 : (61 : Int32).toInt = 61 := ti_61; omega))
              refine lv_iload_n hx hb dX12_compared_80 rfl (lv_at hl 2 rfl) ?_
              refine lv_iload_n hx hb dX12_compared_81 rfl (lv_at hl 0 rfl) ?_
              refine lv_icmp_le (tgt := 89) hx hb dX12_compared_82 (by decide) (fun c => ?_) (fun c => ?_)
              · skip
                have c_159 : r_17.toInt ≤ r_140.toInt := (by first | exact (bn_le c) | (have z := bn_le c; omega))
                refine lv_iconst (v := 0) hx hb dX12_compared_89 ic_0 ?_
                have k99 : (0 : Int32).toInt = 0 := ti_0
                exact hret _ _ _ _ (0) f_137 L Q dX12_compared_90 hP hS ⟨⟨hI, hF, rfl, rfl⟩, trivial, (by omega), (by omega), (by omega), (Eq.trans (Eq.symm (hs.trans ((if_neg (Int.not_lt.mpr c_159)).trans rfl))) hsp)⟩
              · skip
                have c_160 : r_140.toInt < r_17.toInt := (by first | exact (bn_nle c) | (have z := bn_nle c; omega))
                refine lv_iconst (v := 1) hx hb dX12_compared_85 ic_1 ?_
                refine lv_goto (tgt := 90) hx hb dX12_compared_86 (by decide) ?_
                have k99 : (1 : Int32).toInt = 1 := ti_1
                exact hret _ _ _ _ (1) f_137 L Q dX12_compared_90 hP hS ⟨⟨hI, hF, rfl, rfl⟩, trivial, (by omega), (by omega), (by omega), (Eq.trans (Eq.symm (hs.trans ((if_pos c_160).trans rfl))) hsp)⟩
            · skip
              exfalso; have c_158 : r_39.toInt = 61 := (by first | exact (cm_eq1 ti_61 c) | (have z := Int32.toInt_inj.mpr c; have k1 : (61 : Int32).toInt = 61 := ti_61; omega)); first | exact absurd c_158 (by assumption) | omega
          · skip
            exfalso; have c_156 : r_39.toInt = 60 := (by first | exact (cm_eq1 ti_60 c) | (have z := Int32.toInt_inj.mpr c; have k1 : (60 : Int32).toInt = 60 := ti_60; omega)); first | exact absurd c_156 (by assumption) | omega
        · skip
          have c_129 : r_39.toInt ≠ 62 := (by first | exact (cm_ne1 ti_62 c) | (have z := bn_ne c; have k1 : (62 : Int32).toInt = 62 := ti_62; omega))
          refine lv_iload_n hx hb dX12_compared_35 rfl (lv_at hl 1 rfl) ?_
          exact hret _ _ _ _ (r_17) f_14 L Q dX12_compared_36 hP hS ⟨⟨hI, hF, rfl, rfl⟩, trivial, (by omega), (by omega), (by omega), (Eq.trans (Eq.symm (hs.trans ((if_neg c_129).trans rfl))) hsp)⟩

abbrev WkX12_both_5 : List (Nat × Nat × Option Nat) := [(0, 0, some 13), (0, 0, some 15), (0, 0, some 16)]
set_option maxHeartbeats 4000000 in
set_option maxRecDepth 100000 in
theorem kX12_both_5 (l : Launch) (D : va_G) (ca : Nat → ClassId) (za h : Nat → Nat) (hh : sgH 26 h) (f : sg_F) (L : sg_L) (Q : sg_Q) (hI : sgI loM hiM f) (p0 : 5 ≤ (f 0 16).toInt) (p1 : 0 ≤ (f 0 15).toInt ∨ (f 0 16).toInt = 5) (sz : Nat) : Met l yX12_both gwX12_both { frames := 11, cells := 0, slots := 0, locals := 250 } (sgP D vwCl (tyX ca) 26 h (eM ca h) zcM za f L Q sz [.ref (h 0)]) (sgQi D vwCl 26 h (eM ca h) sz (fun r f1 L1 Q1 => ((sgI loM hiM f1 ∧ sgK WkX12_both_5 f f1 ∧ L1 = L ∧ Q1 = Q) ∧ True ∧ ((f 0 13).toInt ≤ (f1 0 13).toInt) ∧ (5 ≤ (f1 0 16).toInt) ∧ (0 ≤ (f1 0 15).toInt ∨ (f1 0 16).toInt = 5) ∧ (r, f1) = sX12_both_5 f L))) 0 0 (sgA 26 h sz) := by
  refine sg_ofWi (cc := cX12_both) (maxL := 3) RX12 (by decide) rfl rfl (Nat.le_of_ble_eq_true rfl) ?_
  intro p e s m below meth cd Qz ls hx hb hml hown hts hK hZ hP hS hl hret
  have hA := sgY.self (n := 26) (h := h) (sz := s.heap.size)
  have hl : lv_has ls 3 [(0, .ref (h 0))] := hl
  obtain ⟨H, hH⟩ : ∃ z : Heap, z = s.heap := ⟨_, rfl⟩
  obtain ⟨locs, hlo⟩ : ∃ z : List Loc, z = [] := ⟨_, rfl⟩
  have hP : va_P D vwCl (sgw 26 h (eM ca h) f L Q) H := by rw [hH]; exact hP
  have hS : va_S (sgA 26 h s.heap.size) s.heap H locs := by rw [hH, hlo]; exact hS
  suffices hgo : W p l e ({ frames := 11, cells := 0, slots := 0, locals := 250 }) s m ([.ref (h 0)] : List Value).toArray below meth cd H locs 0 0 Qz (F0 m 0 ls []) by rw [hH, hlo] at hgo; exact hgo
  clear hH hlo
  obtain ⟨sp, hsp⟩ : ∃ z : Int32 × sg_F, z = sX12_both_5 f L := ⟨_, rfl⟩
  have hs : sp = sX12_both_5 f L := hsp
  obtain ⟨v_1, ev_1⟩ : ∃ z : Int32, z = f 0 16 := ⟨_, rfl⟩
  have q_2 : 0 ≤ v_1.toInt ∧ v_1.toInt ≤ 6 := by rw [ev_1]; exact hI 0 16
  obtain ⟨v_3, ev_3⟩ : ∃ z : Int32, z = f 0 15 := ⟨_, rfl⟩
  have q_4 : (-1) ≤ v_3.toInt ∧ v_3.toInt ≤ 120 := by rw [ev_3]; exact hI 0 15
  obtain ⟨v_5, ev_5⟩ : ∃ z : Int32, z = f 0 13 := ⟨_, rfl⟩
  have q_6 : 0 ≤ v_5.toInt ∧ v_5.toInt ≤ 120 := by rw [ev_5]; exact hI 0 13
  have o_7 : (f 0 16).toInt = v_1.toInt := (congrArg Int32.toInt (show f 0 16 = v_1 from ev_1.symm))
  have o_8 : (f 0 15).toInt = v_3.toInt := (congrArg Int32.toInt (show f 0 15 = v_3 from ev_3.symm))
  have o_9 : (f 0 13).toInt = v_5.toInt := (congrArg Int32.toInt (show f 0 13 = v_5 from ev_5.symm))
  have hF : sgK WkX12_both_5 f f := sgK.rf
  have loop_5 : ∀ (n_5 : Nat) (y1_5 : Int32) (fp_5 : sg_F) (H : Heap) (locs : List Loc) (ls : Array Slot), sp = sX12_both_5_l5 n_5 y1_5 fp_5 L → 120 - (fp_5 0 13).toInt < (n_5 : Int) → (f 0 13).toInt ≤ (fp_5 0 13).toInt → 5 ≤ (fp_5 0 16).toInt → 0 ≤ (fp_5 0 15).toInt ∨ (fp_5 0 16).toInt = 5 → sgI loM hiM fp_5 → sgK WkX12_both_5 f fp_5 → va_P D vwCl (sgw 26 h (eM ca h) fp_5 L Q) H → va_S (sgA 26 h s.heap.size) s.heap H locs → lv_has ls 3 [(0, .ref (h 0)), (1, .int y1_5)] → W p l e ({ frames := 11, cells := 0, slots := 0, locals := 250 }) s m ([.ref (h 0)] : List Value).toArray below meth cd H locs 0 0 Qz (F0 m 5 ls []) := by
    intro n_5
    induction n_5 with
    | zero => intro y1_5 fp_5 H locs ls hs hm_5 hg0_5 hg1_5 hg2_5 hI hF hP hS hl; have zb := (show 0 ≤ (fp_5 0 13).toInt ∧ (fp_5 0 13).toInt ≤ 120 from hI 0 13); exact absurd hm_5 (by omega)
    | succ n_5 ih_5 =>
      intro y1_5 fp_5 H locs ls hs hm_5 hg0_5 hg1_5 hg2_5 hI hF hP hS hl
      have hs : sp = sX12_both_5_h5 (sX12_both_5_l5 n_5) y1_5 fp_5 L := hs
      obtain ⟨v_10, ev_10⟩ : ∃ z : Int32, z = fp_5 0 13 := ⟨_, rfl⟩
      have q_11 : 0 ≤ v_10.toInt ∧ v_10.toInt ≤ 120 := by rw [ev_10]; exact hI 0 13
      have q_12 : (fp_5 0 13).toInt = v_10.toInt := by rw [ev_10]
      obtain ⟨v_13, ev_13⟩ : ∃ z : Int32, z = fp_5 0 16 := ⟨_, rfl⟩
      have q_14 : 0 ≤ v_13.toInt ∧ v_13.toInt ≤ 6 := by rw [ev_13]; exact hI 0 16
      have q_15 : (fp_5 0 16).toInt = v_13.toInt := by rw [ev_13]
      obtain ⟨v_16, ev_16⟩ : ∃ z : Int32, z = fp_5 0 15 := ⟨_, rfl⟩
      have q_17 : (-1) ≤ v_16.toInt ∧ v_16.toInt ≤ 120 := by rw [ev_16]; exact hI 0 15
      have q_18 : (fp_5 0 15).toInt = v_16.toInt := by rw [ev_16]
      refine lv_aload_n hx hb dX12_both_5 rfl (lv_at hl 0 rfl) ?_
      refine lv_bipush (v := 38) hx hb dX12_both_6 bp_38 ?_
      obtain ⟨v_21, ev_21⟩ : ∃ z : Int32, z = fp_5 0 14 := ⟨_, rfl⟩
      have q_22 : 0 ≤ v_21.toInt ∧ v_21.toInt ≤ 120 := by rw [ev_21]; exact hI 0 14
      have q_23 : (fp_5 0 14).toInt = v_21.toInt := (congrArg Int32.toInt (show fp_5 0 14 = v_21 from ev_21.symm))
      refine sg_calli (va_runV (As := [.int 38]) (rest := []) ⟨hx, hb, hml, hown, hts⟩ (kX12_takes_38 l D ca za h hh fp_5 L Q hI H.size) (sl_c12_takes_1_0_0_20_12 hts ⟨Nat.le_of_ble_eq_true rfl, Nat.le_of_ble_eq_true rfl⟩) (sl_vM_0 hA hK hP hS hZ) rfl rfl hl.1 rfl (lv_room (Nat.le_of_ble_eq_true rfl)) dX12_both_8 ⟨Nat.le_refl _, Nat.le_refl _⟩) hA hS (fun r_29 f_26 L_27 Q_28 H locs hq hP hS => ?_)
      obtain ⟨⟨hI, hk_f_26, eL9, eQ9⟩, hq, u_30⟩ := hq
      rw [eL9, eQ9] at hP; clear eL9 eQ9
      have hF : sgK WkX12_both_5 f f_26 := sgK.tr hF hk_f_26 (by decide +kernel)
      obtain ⟨v_31, ev_31⟩ : ∃ z : Int32, z = f_26 0 13 := ⟨_, rfl⟩
      replace hs := hs.trans (spl_e ev_10 (spl_e ev_13 (spl_e ev_16 (spl_e ev_21 (spl2_e u_30 (spl_e ev_31 rfl))))))
      have q_32 : 0 ≤ v_31.toInt ∧ v_31.toInt ≤ 120 := by rw [ev_31]; exact hI 0 13
      have q_33 : (f_26 0 13).toInt = v_31.toInt := (congrArg Int32.toInt (show f_26 0 13 = v_31 from ev_31.symm))
      have k_35 : (38 : Int32).toInt = 38 := by decide
      rcases hq with ⟨rfl, hq⟩ | ⟨rfl, hq⟩
      · skip
        have hc_36 := hq
        refine lv_if_eq (tgt := 36) hx hb dX12_both_11 (by decide) (fun c => absurd c (by decide)) (fun c => ?_)
        refine lv_aload_n hx hb dX12_both_14 rfl (lv_at hl 0 rfl) ?_
        have q_37 : (f_26 0 16).toInt = v_13.toInt := (congrArg Int32.toInt (show f_26 0 16 = v_13 from ((hk_f_26 0 16 (by decide)).trans ev_13.symm)))
        have q_38 : (f_26 0 15).toInt = v_16.toInt := (congrArg Int32.toInt (show f_26 0 15 = v_16 from ((hk_f_26 0 15 (by decide)).trans ev_16.symm)))
        refine sg_calli (va_runV (As := []) (rest := []) ⟨hx, hb, hml, hown, hts⟩ (kX12_compared_5 l D ca za h hh f_26 L Q hI (by omega) (by omega) H.size) (sl_c12_compared_10_0_0_227_12 hts ⟨Nat.le_of_ble_eq_true rfl, Nat.le_of_ble_eq_true rfl⟩) (sl_vM_0 hA hK hP hS hZ) rfl rfl hl.1 rfl (lv_room (Nat.le_of_ble_eq_true rfl)) dX12_both_15 ⟨Nat.le_refl _, Nat.le_refl _⟩) hA hS (fun r_44 f_41 L_42 Q_43 H locs hq hP hS => ?_)
        obtain ⟨⟨hI, hk_f_41, eL9, eQ9⟩, hq, p_45, p_46, p_47, u_48⟩ := hq
        rw [eL9, eQ9] at hP; clear eL9 eQ9
        have hF : sgK WkX12_both_5 f f_41 := sgK.tr hF hk_f_41 (by decide +kernel)
        obtain ⟨v_49, ev_49⟩ : ∃ z : Int32, z = f_41 0 13 := ⟨_, rfl⟩
        have q_50 : 0 ≤ v_49.toInt ∧ v_49.toInt ≤ 120 := by rw [ev_49]; exact hI 0 13
        have q_51 : (f_41 0 13).toInt = v_49.toInt := (congrArg Int32.toInt (show f_41 0 13 = v_49 from ev_49.symm))
        obtain ⟨v_52, ev_52⟩ : ∃ z : Int32, z = f_41 0 16 := ⟨_, rfl⟩
        have q_53 : 0 ≤ v_52.toInt ∧ v_52.toInt ≤ 6 := by rw [ev_52]; exact hI 0 16
        have q_54 : (f_41 0 16).toInt = v_52.toInt := (congrArg Int32.toInt (show f_41 0 16 = v_52 from ev_52.symm))
        obtain ⟨v_55, ev_55⟩ : ∃ z : Int32, z = f_41 0 15 := ⟨_, rfl⟩
        replace hs := hs.trans ((if_pos rfl).trans (spl2_e u_48 (spl_e ev_49 (spl_e ev_52 (spl_e ev_55 rfl)))))
        have q_56 : (-1) ≤ v_55.toInt ∧ v_55.toInt ≤ 120 := by rw [ev_55]; exact hI 0 15
        have q_57 : (f_41 0 15).toInt = v_55.toInt := (congrArg Int32.toInt (show f_41 0 15 = v_55 from ev_55.symm))
        refine lv_istore_n (lv' := [(2, .int r_44), (0, .ref (h 0)), (1, .int y1_5)]) hx hb dX12_both_18 rfl hl (by decide) rfl (fun ls hl => ?_)
        refine lv_iload_n hx hb dX12_both_19 rfl (lv_at hl 2 rfl) ?_
        refine lv_if_eq (tgt := 31) hx hb dX12_both_20 (by decide) (fun c => ?_) (fun c => ?_)
        · skip
          have c_59 : y1_5.toInt = 0 := (by first | exact (cm_eq1 ti_0 c) | (have z := Int32.toInt_inj.mpr c; have k1 : (0 : Int32).toInt = 0 := ti_0; omega))
          refine lv_iconst (v := 0) hx hb dX12_both_31 ic_0 ?_
          refine lv_istore_n (lv' := [(1, .int 0), (2, .int r_44), (0, .ref (h 0))]) hx hb dX12_both_32 rfl hl (by decide) rfl (fun ls hl => ?_)
          refine lv_goto (tgt := 5) hx hb dX12_both_33 (by decide) ?_
          exact ih_5 0 f_41 _ _ _ (hs.trans ((if_pos c_59).trans rfl)) (by have kc0 : (0 : Int32).toInt = 0 := ti_0; have zz0_13 : (f_41 0 13).toInt = v_49.toInt := (congrArg Int32.toInt (show f_41 0 13 = v_49 from ev_49.symm)); omega) (by have kc0 : (0 : Int32).toInt = 0 := ti_0; have zz0_13 : (f_41 0 13).toInt = v_49.toInt := (congrArg Int32.toInt (show f_41 0 13 = v_49 from ev_49.symm)); omega) (by have kc0 : (0 : Int32).toInt = 0 := ti_0; have zz0_16 : (f_41 0 16).toInt = v_52.toInt := (congrArg Int32.toInt (show f_41 0 16 = v_52 from ev_52.symm)); omega) (by have kc0 : (0 : Int32).toInt = 0 := ti_0; have zz0_15 : (f_41 0 15).toInt = v_55.toInt := (congrArg Int32.toInt (show f_41 0 15 = v_55 from ev_55.symm)); have zz0_16 : (f_41 0 16).toInt = v_52.toInt := (congrArg Int32.toInt (show f_41 0 16 = v_52 from ev_52.symm)); omega) hI hF hP hS (lv_sub hl [2, 0] rfl)
        · skip
          have c_60 : y1_5.toInt ≠ 0 := (by first | exact (cm_ne1 ti_0 c) | (have z := bn_ne c; have k1 : (0 : Int32).toInt = 0 := ti_0; omega))
          replace hs := hs.trans ((if_neg c_60).trans rfl)
          refine lv_iload_n hx hb dX12_both_23 rfl (lv_at hl 0 rfl) ?_
          refine lv_if_eq (tgt := 31) hx hb dX12_both_24 (by decide) (fun c => ?_) (fun c => ?_)
          · skip
            have c_61 : r_44.toInt = 0 := (by first | exact (cm_eq1 ti_0 c) | (have z := Int32.toInt_inj.mpr c; have k1 : (0 : Int32).toInt = 0 := ti_0; omega))
            refine lv_iconst (v := 0) hx hb dX12_both_31 ic_0 ?_
            refine lv_istore_n (lv' := [(1, .int 0), (2, .int r_44), (0, .ref (h 0))]) hx hb dX12_both_32 rfl hl (by decide) rfl (fun ls hl => ?_)
            refine lv_goto (tgt := 5) hx hb dX12_both_33 (by decide) ?_
            exact ih_5 0 f_41 _ _ _ (hs.trans ((if_pos c_61).trans rfl)) (by have kc0 : (0 : Int32).toInt = 0 := ti_0; have zz0_13 : (f_41 0 13).toInt = v_49.toInt := (congrArg Int32.toInt (show f_41 0 13 = v_49 from ev_49.symm)); omega) (by have kc0 : (0 : Int32).toInt = 0 := ti_0; have zz0_13 : (f_41 0 13).toInt = v_49.toInt := (congrArg Int32.toInt (show f_41 0 13 = v_49 from ev_49.symm)); omega) (by have kc0 : (0 : Int32).toInt = 0 := ti_0; have zz0_16 : (f_41 0 16).toInt = v_52.toInt := (congrArg Int32.toInt (show f_41 0 16 = v_52 from ev_52.symm)); omega) (by have kc0 : (0 : Int32).toInt = 0 := ti_0; have zz0_15 : (f_41 0 15).toInt = v_55.toInt := (congrArg Int32.toInt (show f_41 0 15 = v_55 from ev_55.symm)); have zz0_16 : (f_41 0 16).toInt = v_52.toInt := (congrArg Int32.toInt (show f_41 0 16 = v_52 from ev_52.symm)); omega) hI hF hP hS (lv_sub hl [2, 0] rfl)
          · skip
            have c_62 : r_44.toInt ≠ 0 := (by first | exact (cm_ne1 ti_0 c) | (have z := bn_ne c; have k1 : (0 : Int32).toInt = 0 := ti_0; omega))
            refine lv_iconst (v := 1) hx hb dX12_both_27 ic_1 ?_
            refine lv_goto (tgt := 32) hx hb dX12_both_28 (by decide) ?_
            refine lv_istore_n (lv' := [(1, .int 1), (2, .int r_44), (0, .ref (h 0))]) hx hb dX12_both_32 rfl hl (by decide) rfl (fun ls hl => ?_)
            refine lv_goto (tgt := 5) hx hb dX12_both_33 (by decide) ?_
            exact ih_5 1 f_41 _ _ _ (hs.trans ((if_neg c_62).trans rfl)) (by have kc0 : (1 : Int32).toInt = 1 := ti_1; have zz0_13 : (f_41 0 13).toInt = v_49.toInt := (congrArg Int32.toInt (show f_41 0 13 = v_49 from ev_49.symm)); omega) (by have kc0 : (1 : Int32).toInt = 1 := ti_1; have zz0_13 : (f_41 0 13).toInt = v_49.toInt := (congrArg Int32.toInt (show f_41 0 13 = v_49 from ev_49.symm)); omega) (by have kc0 : (1 : Int32).toInt = 1 := ti_1; have zz0_16 : (f_41 0 16).toInt = v_52.toInt := (congrArg Int32.toInt (show f_41 0 16 = v_52 from ev_52.symm)); omega) (by have kc0 : (1 : Int32).toInt = 1 := ti_1; have zz0_15 : (f_41 0 15).toInt = v_55.toInt := (congrArg Int32.toInt (show f_41 0 15 = v_55 from ev_55.symm)); have zz0_16 : (f_41 0 16).toInt = v_52.toInt := (congrArg Int32.toInt (show f_41 0 16 = v_52 from ev_52.symm)); omega) hI hF hP hS (lv_sub hl [2, 0] rfl)
      · skip
        have hc_36 := hq
        refine lv_if_eq (tgt := 36) hx hb dX12_both_11 (by decide) (fun c => ?_) (fun c => absurd c (by decide))
        refine lv_iload_n hx hb dX12_both_36 rfl (lv_at hl 1 rfl) ?_
        have q_64 : (f_26 0 16).toInt = v_13.toInt := (congrArg Int32.toInt (show f_26 0 16 = v_13 from ((hk_f_26 0 16 (by decide)).trans ev_13.symm)))
        have q_65 : (f_26 0 15).toInt = v_16.toInt := (congrArg Int32.toInt (show f_26 0 15 = v_16 from ((hk_f_26 0 15 (by decide)).trans ev_16.symm)))
        exact hret _ _ _ _ (y1_5) f_26 L Q dX12_both_37 hP hS ⟨⟨hI, hF, rfl, rfl⟩, trivial, (by omega), (by omega), (by omega), (Eq.trans (Eq.symm (hs.trans ((if_neg (by decide)).trans rfl))) hsp)⟩
  refine lv_aload_n hx hb dX12_both_0 rfl (lv_at hl 0 rfl) ?_
  have q_67 : (f 0 16).toInt = v_1.toInt := (congrArg Int32.toInt (show f 0 16 = v_1 from ev_1.symm))
  have q_68 : (f 0 15).toInt = v_3.toInt := (congrArg Int32.toInt (show f 0 15 = v_3 from ev_3.symm))
  have q_70 : (f 0 13).toInt = v_5.toInt := (congrArg Int32.toInt (show f 0 13 = v_5 from ev_5.symm))
  refine sg_calli (va_runV (As := []) (rest := []) ⟨hx, hb, hml, hown, hts⟩ (kX12_compared_5 l D ca za h hh f L Q hI (by omega) (by omega) H.size) (sl_c12_compared_10_0_0_227_12 hts ⟨Nat.le_of_ble_eq_true rfl, Nat.le_of_ble_eq_true rfl⟩) (sl_vM_0 hA hK hP hS hZ) rfl rfl hl.1 rfl (lv_room (Nat.le_of_ble_eq_true rfl)) dX12_both_1 ⟨Nat.le_refl _, Nat.le_refl _⟩) hA hS (fun r_74 f_71 L_72 Q_73 H locs hq hP hS => ?_)
  obtain ⟨⟨hI, hk_f_71, eL9, eQ9⟩, hq, p_75, p_76, p_77, u_78⟩ := hq
  rw [eL9, eQ9] at hP; clear eL9 eQ9
  have hF : sgK WkX12_both_5 f f_71 := sgK.tr hF hk_f_71 (by decide +kernel)
  obtain ⟨v_79, ev_79⟩ : ∃ z : Int32, z = f_71 0 13 := ⟨_, rfl⟩
  have q_80 : 0 ≤ v_79.toInt ∧ v_79.toInt ≤ 120 := by rw [ev_79]; exact hI 0 13
  have q_81 : (f_71 0 13).toInt = v_79.toInt := (congrArg Int32.toInt (show f_71 0 13 = v_79 from ev_79.symm))
  obtain ⟨v_82, ev_82⟩ : ∃ z : Int32, z = f_71 0 16 := ⟨_, rfl⟩
  have q_83 : 0 ≤ v_82.toInt ∧ v_82.toInt ≤ 6 := by rw [ev_82]; exact hI 0 16
  have q_84 : (f_71 0 16).toInt = v_82.toInt := (congrArg Int32.toInt (show f_71 0 16 = v_82 from ev_82.symm))
  obtain ⟨v_85, ev_85⟩ : ∃ z : Int32, z = f_71 0 15 := ⟨_, rfl⟩
  have q_86 : (-1) ≤ v_85.toInt ∧ v_85.toInt ≤ 120 := by rw [ev_85]; exact hI 0 15
  have q_87 : (f_71 0 15).toInt = v_85.toInt := (congrArg Int32.toInt (show f_71 0 15 = v_85 from ev_85.symm))
  refine lv_istore_n (lv' := [(1, .int r_74), (0, .ref (h 0))]) hx hb dX12_both_4 rfl hl (by decide) rfl (fun ls hl => ?_)
  exact loop_5 121 r_74 f_71 _ _ _ (hs.trans ((spl_e ev_1 (spl_e ev_3 (spl_e ev_5 (spl2_e u_78 (spl_e ev_79 (spl_e ev_82 (spl_e ev_85 rfl))))))))) (by have zz0_13 : (f_71 0 13).toInt = v_79.toInt := (congrArg Int32.toInt (show f_71 0 13 = v_79 from ev_79.symm)); omega) (by have zz0_13 : (f_71 0 13).toInt = v_79.toInt := (congrArg Int32.toInt (show f_71 0 13 = v_79 from ev_79.symm)); omega) (by have zz0_16 : (f_71 0 16).toInt = v_82.toInt := (congrArg Int32.toInt (show f_71 0 16 = v_82 from ev_82.symm)); omega) (by have zz0_15 : (f_71 0 15).toInt = v_85.toInt := (congrArg Int32.toInt (show f_71 0 15 = v_85 from ev_85.symm)); have zz0_16 : (f_71 0 16).toInt = v_82.toInt := (congrArg Int32.toInt (show f_71 0 16 = v_82 from ev_82.symm)); omega) hI hF hP hS (lv_sub hl [1, 0] rfl)

abbrev WkX12_either_5 : List (Nat × Nat × Option Nat) := [(0, 0, some 13), (0, 0, some 15), (0, 0, some 16)]
set_option maxHeartbeats 4000000 in
set_option maxRecDepth 100000 in
theorem kX12_either_5 (l : Launch) (D : va_G) (ca : Nat → ClassId) (za h : Nat → Nat) (hh : sgH 26 h) (f : sg_F) (L : sg_L) (Q : sg_Q) (hI : sgI loM hiM f) (p0 : 5 ≤ (f 0 16).toInt) (p1 : 0 ≤ (f 0 15).toInt ∨ (f 0 16).toInt = 5) (sz : Nat) : Met l yX12_either gwX12_either { frames := 12, cells := 0, slots := 0, locals := 272 } (sgP D vwCl (tyX ca) 26 h (eM ca h) zcM za f L Q sz [.ref (h 0)]) (sgQi D vwCl 26 h (eM ca h) sz (fun r f1 L1 Q1 => ((sgI loM hiM f1 ∧ sgK WkX12_either_5 f f1 ∧ L1 = L ∧ Q1 = Q) ∧ True ∧ ((f 0 13).toInt ≤ (f1 0 13).toInt) ∧ (5 ≤ (f1 0 16).toInt) ∧ (0 ≤ (f1 0 15).toInt ∨ (f1 0 16).toInt = 5) ∧ (r, f1) = sX12_either_5 f L))) 0 0 (sgA 26 h sz) := by
  refine sg_ofWi (cc := cX12_either) (maxL := 3) RX12 (by decide) rfl rfl (Nat.le_of_ble_eq_true rfl) ?_
  intro p e s m below meth cd Qz ls hx hb hml hown hts hK hZ hP hS hl hret
  have hA := sgY.self (n := 26) (h := h) (sz := s.heap.size)
  have hl : lv_has ls 3 [(0, .ref (h 0))] := hl
  obtain ⟨H, hH⟩ : ∃ z : Heap, z = s.heap := ⟨_, rfl⟩
  obtain ⟨locs, hlo⟩ : ∃ z : List Loc, z = [] := ⟨_, rfl⟩
  have hP : va_P D vwCl (sgw 26 h (eM ca h) f L Q) H := by rw [hH]; exact hP
  have hS : va_S (sgA 26 h s.heap.size) s.heap H locs := by rw [hH, hlo]; exact hS
  suffices hgo : W p l e ({ frames := 12, cells := 0, slots := 0, locals := 272 }) s m ([.ref (h 0)] : List Value).toArray below meth cd H locs 0 0 Qz (F0 m 0 ls []) by rw [hH, hlo] at hgo; exact hgo
  clear hH hlo
  obtain ⟨sp, hsp⟩ : ∃ z : Int32 × sg_F, z = sX12_either_5 f L := ⟨_, rfl⟩
  have hs : sp = sX12_either_5 f L := hsp
  obtain ⟨v_1, ev_1⟩ : ∃ z : Int32, z = f 0 16 := ⟨_, rfl⟩
  have q_2 : 0 ≤ v_1.toInt ∧ v_1.toInt ≤ 6 := by rw [ev_1]; exact hI 0 16
  obtain ⟨v_3, ev_3⟩ : ∃ z : Int32, z = f 0 15 := ⟨_, rfl⟩
  have q_4 : (-1) ≤ v_3.toInt ∧ v_3.toInt ≤ 120 := by rw [ev_3]; exact hI 0 15
  obtain ⟨v_5, ev_5⟩ : ∃ z : Int32, z = f 0 13 := ⟨_, rfl⟩
  have q_6 : 0 ≤ v_5.toInt ∧ v_5.toInt ≤ 120 := by rw [ev_5]; exact hI 0 13
  have o_7 : (f 0 16).toInt = v_1.toInt := (congrArg Int32.toInt (show f 0 16 = v_1 from ev_1.symm))
  have o_8 : (f 0 15).toInt = v_3.toInt := (congrArg Int32.toInt (show f 0 15 = v_3 from ev_3.symm))
  have o_9 : (f 0 13).toInt = v_5.toInt := (congrArg Int32.toInt (show f 0 13 = v_5 from ev_5.symm))
  have hF : sgK WkX12_either_5 f f := sgK.rf
  have loop_5 : ∀ (n_5 : Nat) (y1_5 : Int32) (fp_5 : sg_F) (H : Heap) (locs : List Loc) (ls : Array Slot), sp = sX12_either_5_l5 n_5 y1_5 fp_5 L → 120 - (fp_5 0 13).toInt < (n_5 : Int) → (f 0 13).toInt ≤ (fp_5 0 13).toInt → 5 ≤ (fp_5 0 16).toInt → 0 ≤ (fp_5 0 15).toInt ∨ (fp_5 0 16).toInt = 5 → sgI loM hiM fp_5 → sgK WkX12_either_5 f fp_5 → va_P D vwCl (sgw 26 h (eM ca h) fp_5 L Q) H → va_S (sgA 26 h s.heap.size) s.heap H locs → lv_has ls 3 [(0, .ref (h 0)), (1, .int y1_5)] → W p l e ({ frames := 12, cells := 0, slots := 0, locals := 272 }) s m ([.ref (h 0)] : List Value).toArray below meth cd H locs 0 0 Qz (F0 m 5 ls []) := by
    intro n_5
    induction n_5 with
    | zero => intro y1_5 fp_5 H locs ls hs hm_5 hg0_5 hg1_5 hg2_5 hI hF hP hS hl; have zb := (show 0 ≤ (fp_5 0 13).toInt ∧ (fp_5 0 13).toInt ≤ 120 from hI 0 13); exact absurd hm_5 (by omega)
    | succ n_5 ih_5 =>
      intro y1_5 fp_5 H locs ls hs hm_5 hg0_5 hg1_5 hg2_5 hI hF hP hS hl
      have hs : sp = sX12_either_5_h5 (sX12_either_5_l5 n_5) y1_5 fp_5 L := hs
      obtain ⟨v_10, ev_10⟩ : ∃ z : Int32, z = fp_5 0 13 := ⟨_, rfl⟩
      have q_11 : 0 ≤ v_10.toInt ∧ v_10.toInt ≤ 120 := by rw [ev_10]; exact hI 0 13
      have q_12 : (fp_5 0 13).toInt = v_10.toInt := by rw [ev_10]
      obtain ⟨v_13, ev_13⟩ : ∃ z : Int32, z = fp_5 0 16 := ⟨_, rfl⟩
      have q_14 : 0 ≤ v_13.toInt ∧ v_13.toInt ≤ 6 := by rw [ev_13]; exact hI 0 16
      have q_15 : (fp_5 0 16).toInt = v_13.toInt := by rw [ev_13]
      obtain ⟨v_16, ev_16⟩ : ∃ z : Int32, z = fp_5 0 15 := ⟨_, rfl⟩
      have q_17 : (-1) ≤ v_16.toInt ∧ v_16.toInt ≤ 120 := by rw [ev_16]; exact hI 0 15
      have q_18 : (fp_5 0 15).toInt = v_16.toInt := by rw [ev_16]
      refine lv_aload_n hx hb dX12_either_5 rfl (lv_at hl 0 rfl) ?_
      refine lv_bipush (v := 124) hx hb dX12_either_6 bp_124 ?_
      obtain ⟨v_21, ev_21⟩ : ∃ z : Int32, z = fp_5 0 14 := ⟨_, rfl⟩
      have q_22 : 0 ≤ v_21.toInt ∧ v_21.toInt ≤ 120 := by rw [ev_21]; exact hI 0 14
      have q_23 : (fp_5 0 14).toInt = v_21.toInt := (congrArg Int32.toInt (show fp_5 0 14 = v_21 from ev_21.symm))
      refine sg_calli (va_runV (As := [.int 124]) (rest := []) ⟨hx, hb, hml, hown, hts⟩ (kX12_takes_124 l D ca za h hh fp_5 L Q hI H.size) (sl_c12_takes_1_0_0_20_12 hts ⟨Nat.le_of_ble_eq_true rfl, Nat.le_of_ble_eq_true rfl⟩) (sl_vM_0 hA hK hP hS hZ) rfl rfl hl.1 rfl (lv_room (Nat.le_of_ble_eq_true rfl)) dX12_either_8 ⟨Nat.le_refl _, Nat.le_refl _⟩) hA hS (fun r_29 f_26 L_27 Q_28 H locs hq hP hS => ?_)
      obtain ⟨⟨hI, hk_f_26, eL9, eQ9⟩, hq, u_30⟩ := hq
      rw [eL9, eQ9] at hP; clear eL9 eQ9
      have hF : sgK WkX12_either_5 f f_26 := sgK.tr hF hk_f_26 (by decide +kernel)
      obtain ⟨v_31, ev_31⟩ : ∃ z : Int32, z = f_26 0 13 := ⟨_, rfl⟩
      replace hs := hs.trans (spl_e ev_10 (spl_e ev_13 (spl_e ev_16 (spl_e ev_21 (spl2_e u_30 (spl_e ev_31 rfl))))))
      have q_32 : 0 ≤ v_31.toInt ∧ v_31.toInt ≤ 120 := by rw [ev_31]; exact hI 0 13
      have q_33 : (f_26 0 13).toInt = v_31.toInt := (congrArg Int32.toInt (show f_26 0 13 = v_31 from ev_31.symm))
      have k_35 : (124 : Int32).toInt = 124 := by decide
      rcases hq with ⟨rfl, hq⟩ | ⟨rfl, hq⟩
      · skip
        have hc_36 := hq
        refine lv_if_eq (tgt := 36) hx hb dX12_either_11 (by decide) (fun c => absurd c (by decide)) (fun c => ?_)
        refine lv_aload_n hx hb dX12_either_14 rfl (lv_at hl 0 rfl) ?_
        have q_37 : (f_26 0 16).toInt = v_13.toInt := (congrArg Int32.toInt (show f_26 0 16 = v_13 from ((hk_f_26 0 16 (by decide)).trans ev_13.symm)))
        have q_38 : (f_26 0 15).toInt = v_16.toInt := (congrArg Int32.toInt (show f_26 0 15 = v_16 from ((hk_f_26 0 15 (by decide)).trans ev_16.symm)))
        refine sg_calli (va_runV (As := []) (rest := []) ⟨hx, hb, hml, hown, hts⟩ (kX12_both_5 l D ca za h hh f_26 L Q hI (by omega) (by omega) H.size) (sl_c12_both_11_0_0_250_12 hts ⟨Nat.le_of_ble_eq_true rfl, Nat.le_of_ble_eq_true rfl⟩) (sl_vM_0 hA hK hP hS hZ) rfl rfl hl.1 rfl (lv_room (Nat.le_of_ble_eq_true rfl)) dX12_either_15 ⟨Nat.le_refl _, Nat.le_refl _⟩) hA hS (fun r_44 f_41 L_42 Q_43 H locs hq hP hS => ?_)
        obtain ⟨⟨hI, hk_f_41, eL9, eQ9⟩, hq, p_45, p_46, p_47, u_48⟩ := hq
        rw [eL9, eQ9] at hP; clear eL9 eQ9
        have hF : sgK WkX12_either_5 f f_41 := sgK.tr hF hk_f_41 (by decide +kernel)
        obtain ⟨v_49, ev_49⟩ : ∃ z : Int32, z = f_41 0 13 := ⟨_, rfl⟩
        have q_50 : 0 ≤ v_49.toInt ∧ v_49.toInt ≤ 120 := by rw [ev_49]; exact hI 0 13
        have q_51 : (f_41 0 13).toInt = v_49.toInt := (congrArg Int32.toInt (show f_41 0 13 = v_49 from ev_49.symm))
        obtain ⟨v_52, ev_52⟩ : ∃ z : Int32, z = f_41 0 16 := ⟨_, rfl⟩
        have q_53 : 0 ≤ v_52.toInt ∧ v_52.toInt ≤ 6 := by rw [ev_52]; exact hI 0 16
        have q_54 : (f_41 0 16).toInt = v_52.toInt := (congrArg Int32.toInt (show f_41 0 16 = v_52 from ev_52.symm))
        obtain ⟨v_55, ev_55⟩ : ∃ z : Int32, z = f_41 0 15 := ⟨_, rfl⟩
        replace hs := hs.trans ((if_pos rfl).trans (spl2_e u_48 (spl_e ev_49 (spl_e ev_52 (spl_e ev_55 rfl)))))
        have q_56 : (-1) ≤ v_55.toInt ∧ v_55.toInt ≤ 120 := by rw [ev_55]; exact hI 0 15
        have q_57 : (f_41 0 15).toInt = v_55.toInt := (congrArg Int32.toInt (show f_41 0 15 = v_55 from ev_55.symm))
        refine lv_istore_n (lv' := [(2, .int r_44), (0, .ref (h 0)), (1, .int y1_5)]) hx hb dX12_either_18 rfl hl (by decide) rfl (fun ls hl => ?_)
        refine lv_iload_n hx hb dX12_either_19 rfl (lv_at hl 2 rfl) ?_
        refine lv_if_ne (tgt := 27) hx hb dX12_either_20 (by decide) (fun c => ?_) (fun c => ?_)
        · skip
          have c_59 : y1_5.toInt ≠ 0 := (by first | exact (cm_ne1 ti_0 c) | (have z := bn_ne c; have k1 : (0 : Int32).toInt = 0 := ti_0; omega))
          refine lv_iconst (v := 1) hx hb dX12_either_27 ic_1 ?_
          refine lv_goto (tgt := 32) hx hb dX12_either_28 (by decide) ?_
          refine lv_istore_n (lv' := [(1, .int 1), (2, .int r_44), (0, .ref (h 0))]) hx hb dX12_either_32 rfl hl (by decide) rfl (fun ls hl => ?_)
          refine lv_goto (tgt := 5) hx hb dX12_either_33 (by decide) ?_
          exact ih_5 1 f_41 _ _ _ (hs.trans ((if_neg c_59).trans rfl)) (by have kc0 : (1 : Int32).toInt = 1 := ti_1; have zz0_13 : (f_41 0 13).toInt = v_49.toInt := (congrArg Int32.toInt (show f_41 0 13 = v_49 from ev_49.symm)); omega) (by have kc0 : (1 : Int32).toInt = 1 := ti_1; have zz0_13 : (f_41 0 13).toInt = v_49.toInt := (congrArg Int32.toInt (show f_41 0 13 = v_49 from ev_49.symm)); omega) (by have kc0 : (1 : Int32).toInt = 1 := ti_1; have zz0_16 : (f_41 0 16).toInt = v_52.toInt := (congrArg Int32.toInt (show f_41 0 16 = v_52 from ev_52.symm)); omega) (by have kc0 : (1 : Int32).toInt = 1 := ti_1; have zz0_15 : (f_41 0 15).toInt = v_55.toInt := (congrArg Int32.toInt (show f_41 0 15 = v_55 from ev_55.symm)); have zz0_16 : (f_41 0 16).toInt = v_52.toInt := (congrArg Int32.toInt (show f_41 0 16 = v_52 from ev_52.symm)); omega) hI hF hP hS (lv_sub hl [2, 0] rfl)
        · skip
          have c_60 : y1_5.toInt = 0 := (by first | exact (cm_eq1 ti_0 c) | (have z := Int32.toInt_inj.mpr c; have k1 : (0 : Int32).toInt = 0 := ti_0; omega))
          replace hs := hs.trans ((if_pos c_60).trans rfl)
          refine lv_iload_n hx hb dX12_either_23 rfl (lv_at hl 0 rfl) ?_
          refine lv_if_eq (tgt := 31) hx hb dX12_either_24 (by decide) (fun c => ?_) (fun c => ?_)
          · skip
            have c_61 : r_44.toInt = 0 := (by first | exact (cm_eq1 ti_0 c) | (have z := Int32.toInt_inj.mpr c; have k1 : (0 : Int32).toInt = 0 := ti_0; omega))
            refine lv_iconst (v := 0) hx hb dX12_either_31 ic_0 ?_
            refine lv_istore_n (lv' := [(1, .int 0), (2, .int r_44), (0, .ref (h 0))]) hx hb dX12_either_32 rfl hl (by decide) rfl (fun ls hl => ?_)
            refine lv_goto (tgt := 5) hx hb dX12_either_33 (by decide) ?_
            exact ih_5 0 f_41 _ _ _ (hs.trans ((if_pos c_61).trans rfl)) (by have kc0 : (0 : Int32).toInt = 0 := ti_0; have zz0_13 : (f_41 0 13).toInt = v_49.toInt := (congrArg Int32.toInt (show f_41 0 13 = v_49 from ev_49.symm)); omega) (by have kc0 : (0 : Int32).toInt = 0 := ti_0; have zz0_13 : (f_41 0 13).toInt = v_49.toInt := (congrArg Int32.toInt (show f_41 0 13 = v_49 from ev_49.symm)); omega) (by have kc0 : (0 : Int32).toInt = 0 := ti_0; have zz0_16 : (f_41 0 16).toInt = v_52.toInt := (congrArg Int32.toInt (show f_41 0 16 = v_52 from ev_52.symm)); omega) (by have kc0 : (0 : Int32).toInt = 0 := ti_0; have zz0_15 : (f_41 0 15).toInt = v_55.toInt := (congrArg Int32.toInt (show f_41 0 15 = v_55 from ev_55.symm)); have zz0_16 : (f_41 0 16).toInt = v_52.toInt := (congrArg Int32.toInt (show f_41 0 16 = v_52 from ev_52.symm)); omega) hI hF hP hS (lv_sub hl [2, 0] rfl)
          · skip
            have c_62 : r_44.toInt ≠ 0 := (by first | exact (cm_ne1 ti_0 c) | (have z := bn_ne c; have k1 : (0 : Int32).toInt = 0 := ti_0; omega))
            refine lv_iconst (v := 1) hx hb dX12_either_27 ic_1 ?_
            refine lv_goto (tgt := 32) hx hb dX12_either_28 (by decide) ?_
            refine lv_istore_n (lv' := [(1, .int 1), (2, .int r_44), (0, .ref (h 0))]) hx hb dX12_either_32 rfl hl (by decide) rfl (fun ls hl => ?_)
            refine lv_goto (tgt := 5) hx hb dX12_either_33 (by decide) ?_
            exact ih_5 1 f_41 _ _ _ (hs.trans ((if_neg c_62).trans rfl)) (by have kc0 : (1 : Int32).toInt = 1 := ti_1; have zz0_13 : (f_41 0 13).toInt = v_49.toInt := (congrArg Int32.toInt (show f_41 0 13 = v_49 from ev_49.symm)); omega) (by have kc0 : (1 : Int32).toInt = 1 := ti_1; have zz0_13 : (f_41 0 13).toInt = v_49.toInt := (congrArg Int32.toInt (show f_41 0 13 = v_49 from ev_49.symm)); omega) (by have kc0 : (1 : Int32).toInt = 1 := ti_1; have zz0_16 : (f_41 0 16).toInt = v_52.toInt := (congrArg Int32.toInt (show f_41 0 16 = v_52 from ev_52.symm)); omega) (by have kc0 : (1 : Int32).toInt = 1 := ti_1; have zz0_15 : (f_41 0 15).toInt = v_55.toInt := (congrArg Int32.toInt (show f_41 0 15 = v_55 from ev_55.symm)); have zz0_16 : (f_41 0 16).toInt = v_52.toInt := (congrArg Int32.toInt (show f_41 0 16 = v_52 from ev_52.symm)); omega) hI hF hP hS (lv_sub hl [2, 0] rfl)
      · skip
        have hc_36 := hq
        refine lv_if_eq (tgt := 36) hx hb dX12_either_11 (by decide) (fun c => ?_) (fun c => absurd c (by decide))
        refine lv_iload_n hx hb dX12_either_36 rfl (lv_at hl 1 rfl) ?_
        have q_64 : (f_26 0 16).toInt = v_13.toInt := (congrArg Int32.toInt (show f_26 0 16 = v_13 from ((hk_f_26 0 16 (by decide)).trans ev_13.symm)))
        have q_65 : (f_26 0 15).toInt = v_16.toInt := (congrArg Int32.toInt (show f_26 0 15 = v_16 from ((hk_f_26 0 15 (by decide)).trans ev_16.symm)))
        exact hret _ _ _ _ (y1_5) f_26 L Q dX12_either_37 hP hS ⟨⟨hI, hF, rfl, rfl⟩, trivial, (by omega), (by omega), (by omega), (Eq.trans (Eq.symm (hs.trans ((if_neg (by decide)).trans rfl))) hsp)⟩
  refine lv_aload_n hx hb dX12_either_0 rfl (lv_at hl 0 rfl) ?_
  have q_67 : (f 0 16).toInt = v_1.toInt := (congrArg Int32.toInt (show f 0 16 = v_1 from ev_1.symm))
  have q_68 : (f 0 15).toInt = v_3.toInt := (congrArg Int32.toInt (show f 0 15 = v_3 from ev_3.symm))
  have q_70 : (f 0 13).toInt = v_5.toInt := (congrArg Int32.toInt (show f 0 13 = v_5 from ev_5.symm))
  refine sg_calli (va_runV (As := []) (rest := []) ⟨hx, hb, hml, hown, hts⟩ (kX12_both_5 l D ca za h hh f L Q hI (by omega) (by omega) H.size) (sl_c12_both_11_0_0_250_12 hts ⟨Nat.le_of_ble_eq_true rfl, Nat.le_of_ble_eq_true rfl⟩) (sl_vM_0 hA hK hP hS hZ) rfl rfl hl.1 rfl (lv_room (Nat.le_of_ble_eq_true rfl)) dX12_either_1 ⟨Nat.le_refl _, Nat.le_refl _⟩) hA hS (fun r_74 f_71 L_72 Q_73 H locs hq hP hS => ?_)
  obtain ⟨⟨hI, hk_f_71, eL9, eQ9⟩, hq, p_75, p_76, p_77, u_78⟩ := hq
  rw [eL9, eQ9] at hP; clear eL9 eQ9
  have hF : sgK WkX12_either_5 f f_71 := sgK.tr hF hk_f_71 (by decide +kernel)
  obtain ⟨v_79, ev_79⟩ : ∃ z : Int32, z = f_71 0 13 := ⟨_, rfl⟩
  have q_80 : 0 ≤ v_79.toInt ∧ v_79.toInt ≤ 120 := by rw [ev_79]; exact hI 0 13
  have q_81 : (f_71 0 13).toInt = v_79.toInt := (congrArg Int32.toInt (show f_71 0 13 = v_79 from ev_79.symm))
  obtain ⟨v_82, ev_82⟩ : ∃ z : Int32, z = f_71 0 16 := ⟨_, rfl⟩
  have q_83 : 0 ≤ v_82.toInt ∧ v_82.toInt ≤ 6 := by rw [ev_82]; exact hI 0 16
  have q_84 : (f_71 0 16).toInt = v_82.toInt := (congrArg Int32.toInt (show f_71 0 16 = v_82 from ev_82.symm))
  obtain ⟨v_85, ev_85⟩ : ∃ z : Int32, z = f_71 0 15 := ⟨_, rfl⟩
  have q_86 : (-1) ≤ v_85.toInt ∧ v_85.toInt ≤ 120 := by rw [ev_85]; exact hI 0 15
  have q_87 : (f_71 0 15).toInt = v_85.toInt := (congrArg Int32.toInt (show f_71 0 15 = v_85 from ev_85.symm))
  refine lv_istore_n (lv' := [(1, .int r_74), (0, .ref (h 0))]) hx hb dX12_either_4 rfl hl (by decide) rfl (fun ls hl => ?_)
  exact loop_5 121 r_74 f_71 _ _ _ (hs.trans ((spl_e ev_1 (spl_e ev_3 (spl_e ev_5 (spl2_e u_78 (spl_e ev_79 (spl_e ev_82 (spl_e ev_85 rfl))))))))) (by have zz0_13 : (f_71 0 13).toInt = v_79.toInt := (congrArg Int32.toInt (show f_71 0 13 = v_79 from ev_79.symm)); omega) (by have zz0_13 : (f_71 0 13).toInt = v_79.toInt := (congrArg Int32.toInt (show f_71 0 13 = v_79 from ev_79.symm)); omega) (by have zz0_16 : (f_71 0 16).toInt = v_82.toInt := (congrArg Int32.toInt (show f_71 0 16 = v_82 from ev_82.symm)); omega) (by have zz0_15 : (f_71 0 15).toInt = v_85.toInt := (congrArg Int32.toInt (show f_71 0 15 = v_85 from ev_85.symm)); have zz0_16 : (f_71 0 16).toInt = v_82.toInt := (congrArg Int32.toInt (show f_71 0 16 = v_82 from ev_82.symm)); omega) hI hF hP hS (lv_sub hl [1, 0] rfl)

abbrev WkX12_one_4 : List (Nat × Nat × Option Nat) := [(0, 0, some 13), (0, 0, some 15), (0, 0, some 16)]
set_option maxHeartbeats 4000000 in
set_option maxRecDepth 100000 in
theorem kX12_one_4 (l : Launch) (D : va_G) (ca : Nat → ClassId) (za h : Nat → Nat) (hh : sgH 26 h) (f : sg_F) (L : sg_L) (Q : sg_Q) (hI : sgI loM hiM f) (p0 : 4 ≤ (f 0 16).toInt) (p1 : 0 ≤ (f 0 15).toInt ∨ (f 0 16).toInt = 4) (sz : Nat) : Met l yX12_one gwX12_one { frames := 13, cells := 0, slots := 0, locals := 294 } (sgP D vwCl (tyX ca) 26 h (eM ca h) zcM za f L Q sz [.ref (h 0)]) (sgQi D vwCl 26 h (eM ca h) sz (fun r f1 L1 Q1 => ((sgI loM hiM f1 ∧ sgK WkX12_one_4 f f1 ∧ L1 = L ∧ Q1 = Q) ∧ True ∧ ((f 0 13).toInt ≤ (f1 0 13).toInt) ∧ (4 ≤ (f1 0 16).toInt) ∧ (0 ≤ (f1 0 15).toInt ∨ (f1 0 16).toInt = 4) ∧ (r, f1) = sX12_one_4 f L))) 0 0 (sgA 26 h sz) := by
  refine sg_ofWi (cc := cX12_one) (maxL := 5) RX12 (by decide) rfl rfl (Nat.le_of_ble_eq_true rfl) ?_
  intro p e s m below meth cd Qz ls hx hb hml hown hts hK hZ hP hS hl hret
  have hA := sgY.self (n := 26) (h := h) (sz := s.heap.size)
  have hl : lv_has ls 5 [(0, .ref (h 0))] := hl
  obtain ⟨H, hH⟩ : ∃ z : Heap, z = s.heap := ⟨_, rfl⟩
  obtain ⟨locs, hlo⟩ : ∃ z : List Loc, z = [] := ⟨_, rfl⟩
  have hP : va_P D vwCl (sgw 26 h (eM ca h) f L Q) H := by rw [hH]; exact hP
  have hS : va_S (sgA 26 h s.heap.size) s.heap H locs := by rw [hH, hlo]; exact hS
  suffices hgo : W p l e ({ frames := 13, cells := 0, slots := 0, locals := 294 }) s m ([.ref (h 0)] : List Value).toArray below meth cd H locs 0 0 Qz (F0 m 0 ls []) by rw [hH, hlo] at hgo; exact hgo
  clear hH hlo
  obtain ⟨sp, hsp⟩ : ∃ z : Int32 × sg_F, z = sX12_one_4 f L := ⟨_, rfl⟩
  have hs : sp = sX12_one_4 f L := hsp
  obtain ⟨v_1, ev_1⟩ : ∃ z : Int32, z = f 0 16 := ⟨_, rfl⟩
  have q_2 : 0 ≤ v_1.toInt ∧ v_1.toInt ≤ 6 := by rw [ev_1]; exact hI 0 16
  obtain ⟨v_3, ev_3⟩ : ∃ z : Int32, z = f 0 15 := ⟨_, rfl⟩
  have q_4 : (-1) ≤ v_3.toInt ∧ v_3.toInt ≤ 120 := by rw [ev_3]; exact hI 0 15
  obtain ⟨v_5, ev_5⟩ : ∃ z : Int32, z = f 0 13 := ⟨_, rfl⟩
  replace hs := hs.trans (spl_e ev_1 (spl_e ev_3 (spl_e ev_5 rfl)))
  have q_6 : 0 ≤ v_5.toInt ∧ v_5.toInt ≤ 120 := by rw [ev_5]; exact hI 0 13
  have o_7 : (f 0 16).toInt = v_1.toInt := (congrArg Int32.toInt (show f 0 16 = v_1 from ev_1.symm))
  have o_8 : (f 0 15).toInt = v_3.toInt := (congrArg Int32.toInt (show f 0 15 = v_3 from ev_3.symm))
  have o_9 : (f 0 13).toInt = v_5.toInt := (congrArg Int32.toInt (show f 0 13 = v_5 from ev_5.symm))
  have hF : sgK WkX12_one_4 f f := sgK.rf
  have blk_229 : ∀ (y3_229 : Int32) (y4_229 : Int32) (fp_229 : sg_F) (H : Heap) (locs : List Loc) (ls : Array Slot), sp = sX12_one_4_b229 y3_229 y4_229 fp_229 L → (-1) ≤ (fp_229 0 15).toInt ∧ (fp_229 0 15).toInt ≤ (-1) → 0 ≤ y4_229.toInt ∧ y4_229.toInt ≤ 4 → (f 0 13).toInt ≤ (fp_229 0 13).toInt → 4 ≤ (fp_229 0 16).toInt → 0 ≤ (fp_229 0 15).toInt ∨ (fp_229 0 16).toInt = 4 → sgI loM hiM fp_229 → sgK WkX12_one_4 f fp_229 → va_P D vwCl (sgw 26 h (eM ca h) fp_229 L Q) H → va_S (sgA 26 h s.heap.size) s.heap H locs → lv_has ls 5 [(0, .ref (h 0)), (3, .int y3_229), (4, .int y4_229)] → W p l e ({ frames := 13, cells := 0, slots := 0, locals := 294 }) s m ([.ref (h 0)] : List Value).toArray below meth cd H locs 0 0 Qz (F0 m 229 ls []) := by
    intro y3_229 y4_229 fp_229 H locs ls hs hy0_229 hy1_229 hg0_229 hg1_229 hg2_229 hI hF hP hS hl
    obtain ⟨v_10, ev_10⟩ : ∃ z : Int32, z = fp_229 0 15 := ⟨_, rfl⟩
    have q_11 : (-1) ≤ v_10.toInt ∧ v_10.toInt ≤ 120 := by rw [ev_10]; exact hI 0 15
    have q_12 : (fp_229 0 15).toInt = v_10.toInt := by rw [ev_10]
    obtain ⟨v_13, ev_13⟩ : ∃ z : Int32, z = fp_229 0 13 := ⟨_, rfl⟩
    have q_14 : 0 ≤ v_13.toInt ∧ v_13.toInt ≤ 120 := by rw [ev_13]; exact hI 0 13
    have q_15 : (fp_229 0 13).toInt = v_13.toInt := by rw [ev_13]
    obtain ⟨v_16, ev_16⟩ : ∃ z : Int32, z = fp_229 0 16 := ⟨_, rfl⟩
    replace hs := hs.trans (spl_e ev_10 (spl_e ev_13 (spl_e ev_16 rfl)))
    have q_17 : 0 ≤ v_16.toInt ∧ v_16.toInt ≤ 6 := by rw [ev_16]; exact hI 0 16
    have q_18 : (fp_229 0 16).toInt = v_16.toInt := by rw [ev_16]
    refine lv_iload hx hb dX12_one_229 (lv_at hl 2 rfl) ?_
    refine lv_if_ne (tgt := 241) hx hb dX12_one_231 (by decide) (fun c => ?_) (fun c => ?_)
    · skip
      have c_19 : y4_229.toInt ≠ 0 := (by first | exact (cm_ne1 ti_0 c) | (have z := bn_ne c; have k1 : (0 : Int32).toInt = 0 := ti_0; omega))
      refine lv_iload_n hx hb dX12_one_241 rfl (lv_at hl 1 rfl) ?_
      exact hret _ _ _ _ (y3_229) fp_229 L Q dX12_one_242 hP hS ⟨⟨hI, hF, rfl, rfl⟩, trivial, (by omega), (by omega), (by omega), (Eq.trans (Eq.symm (hs.trans ((if_neg c_19).trans rfl))) hsp)⟩
    · skip
      have c_20 : y4_229.toInt = 0 := (by first | exact (cm_eq1 ti_0 c) | (have z := Int32.toInt_inj.mpr c; have k1 : (0 : Int32).toInt = 0 := ti_0; omega))
      refine lv_aload_n hx hb dX12_one_234 rfl (lv_at hl 0 rfl) ?_
      refine sg_calli (va_runV (As := []) (rest := []) ⟨hx, hb, hml, hown, hts⟩ (kX12_wrong l D ca za h hh fp_229 L Q hI H.size) (sl_c12_wrong_0_0_0_0_12 hts ⟨Nat.le_of_ble_eq_true rfl, Nat.le_of_ble_eq_true rfl⟩) (sl_vM_0 hA hK hP hS hZ) rfl rfl hl.1 rfl (lv_room (Nat.le_of_ble_eq_true rfl)) dX12_one_235 ⟨Nat.le_refl _, Nat.le_refl _⟩) hA hS (fun r_28 f_25 L_26 Q_27 H locs hq hP hS => ?_)
      obtain ⟨⟨hI, hk_f_25, eL9, eQ9⟩, hq, p_29, u_30⟩ := hq
      rw [eL9, eQ9] at hP; clear eL9 eQ9
      have hF : sgK WkX12_one_4 f f_25 := sgK.tr hF hk_f_25 (by decide +kernel)
      obtain ⟨v_31, ev_31⟩ : ∃ z : Int32, z = f_25 0 15 := ⟨_, rfl⟩
      have q_32 : (-1) ≤ v_31.toInt ∧ v_31.toInt ≤ 120 := by rw [ev_31]; exact hI 0 15
      have q_33 : (f_25 0 15).toInt = v_31.toInt := (congrArg Int32.toInt (show f_25 0 15 = v_31 from ev_31.symm))
      obtain rfl : r_28 = 0 := Int32.toInt_inj.mp (by have k9 : (0 : Int32).toInt = 0 := ti_0; omega)
      refine lv_goto (tgt := 242) hx hb dX12_one_238 (by decide) ?_
      have q_34 : (f_25 0 13).toInt = v_13.toInt := (congrArg Int32.toInt (show f_25 0 13 = v_13 from ((hk_f_25 0 13 (by decide)).trans ev_13.symm)))
      have q_35 : (f_25 0 16).toInt = v_16.toInt := (congrArg Int32.toInt (show f_25 0 16 = v_16 from ((hk_f_25 0 16 (by decide)).trans ev_16.symm)))
      have k99 : (0 : Int32).toInt = 0 := ti_0
      exact hret _ _ _ _ (0) f_25 L Q dX12_one_242 hP hS ⟨⟨hI, hF, rfl, rfl⟩, trivial, (by omega), (by omega), (by omega), (Eq.trans (Eq.symm (hs.trans ((if_pos c_20).trans (spl2_e u_30 (spl_e ev_31 rfl))))) hsp)⟩
  have loop_176 : ∀ (n_176 : Nat) (y3_176 : Int32) (y4_176 : Int32) (fp_176 : sg_F) (H : Heap) (locs : List Loc) (ls : Array Slot), sp = sX12_one_4_l176 n_176 y3_176 y4_176 fp_176 L → 4 - y4_176.toInt < (n_176 : Int) → (-1) ≤ (fp_176 0 15).toInt ∧ (fp_176 0 15).toInt ≤ (-1) → 0 ≤ y4_176.toInt ∧ y4_176.toInt ≤ 4 → (f 0 13).toInt ≤ (fp_176 0 13).toInt → 4 ≤ (fp_176 0 16).toInt → 0 ≤ (fp_176 0 15).toInt ∨ (fp_176 0 16).toInt = 4 → sgI loM hiM fp_176 → sgK WkX12_one_4 f fp_176 → va_P D vwCl (sgw 26 h (eM ca h) fp_176 L Q) H → va_S (sgA 26 h s.heap.size) s.heap H locs → lv_has ls 5 [(0, .ref (h 0)), (3, .int y3_176), (4, .int y4_176)] → W p l e ({ frames := 13, cells := 0, slots := 0, locals := 294 }) s m ([.ref (h 0)] : List Value).toArray below meth cd H locs 0 0 Qz (F0 m 176 ls []) := by
    intro n_176
    induction n_176 with
    | zero => intro y3_176 y4_176 fp_176 H locs ls hs hm_176 hy0_176 hy1_176 hg0_176 hg1_176 hg2_176 hI hF hP hS hl; exact absurd hm_176 (by omega)
    | succ n_176 ih_176 =>
      intro y3_176 y4_176 fp_176 H locs ls hs hm_176 hy0_176 hy1_176 hg0_176 hg1_176 hg2_176 hI hF hP hS hl
      have hs : sp = sX12_one_4_h176 (sX12_one_4_l176 n_176) y3_176 y4_176 fp_176 L := hs
      obtain ⟨v_38, ev_38⟩ : ∃ z : Int32, z = fp_176 0 15 := ⟨_, rfl⟩
      have q_39 : (-1) ≤ v_38.toInt ∧ v_38.toInt ≤ 120 := by rw [ev_38]; exact hI 0 15
      have q_40 : (fp_176 0 15).toInt = v_38.toInt := by rw [ev_38]
      obtain ⟨v_41, ev_41⟩ : ∃ z : Int32, z = fp_176 0 13 := ⟨_, rfl⟩
      have q_42 : 0 ≤ v_41.toInt ∧ v_41.toInt ≤ 120 := by rw [ev_41]; exact hI 0 13
      have q_43 : (fp_176 0 13).toInt = v_41.toInt := by rw [ev_41]
      obtain ⟨v_44, ev_44⟩ : ∃ z : Int32, z = fp_176 0 16 := ⟨_, rfl⟩
      replace hs := hs.trans (spl_e ev_38 (spl_e ev_41 (spl_e ev_44 rfl)))
      have q_45 : 0 ≤ v_44.toInt ∧ v_44.toInt ≤ 6 := by rw [ev_44]; exact hI 0 16
      have q_46 : (fp_176 0 16).toInt = v_44.toInt := by rw [ev_44]
      refine lv_iload hx hb dX12_one_176 (lv_at hl 2 rfl) ?_
      refine lv_iconst (v := 4) hx hb dX12_one_178 ic_4 ?_
      refine lv_icmp_ge (tgt := 229) hx hb dX12_one_179 (by decide) (fun c => ?_) (fun c => ?_)
      · skip
        have c_47 : 4 ≤ y4_176.toInt := (by first | exact (cm_le0 ti_4 c) | (have z := bn_le c; have k1 : (4 : Int32).toInt = 4 := ti_4; omega))
        exact blk_229 y3_176 y4_176 fp_176 _ _ _ (hs.trans ((if_neg (Int.not_lt.mpr c_47)).trans rfl)) (by have zz0_15 : (fp_176 0 15).toInt = v_38.toInt := (congrArg Int32.toInt (show fp_176 0 15 = v_38 from ev_38.symm)); exact ⟨by omega, by omega⟩) hy1_176 (by have zz0_13 : (fp_176 0 13).toInt = v_41.toInt := (congrArg Int32.toInt (show fp_176 0 13 = v_41 from ev_41.symm)); omega) (by have zz0_16 : (fp_176 0 16).toInt = v_44.toInt := (congrArg Int32.toInt (show fp_176 0 16 = v_44 from ev_44.symm)); omega) (by have zz0_15 : (fp_176 0 15).toInt = v_38.toInt := (congrArg Int32.toInt (show fp_176 0 15 = v_38 from ev_38.symm)); have zz0_16 : (fp_176 0 16).toInt = v_44.toInt := (congrArg Int32.toInt (show fp_176 0 16 = v_44 from ev_44.symm)); omega) hI hF hP hS (lv_sub hl [0, 1, 2] rfl)
      · skip
        have c_48 : y4_176.toInt < 4 := (by first | exact (cm_nle0 ti_4 c) | (have z := bn_nle c; have k1 : (4 : Int32).toInt = 4 := ti_4; omega))
        refine lv_aload_n hx hb dX12_one_182 rfl (lv_at hl 0 rfl) ?_
        obtain ⟨v_50, ev_50⟩ : ∃ z : Int32, z = fp_176 0 14 := ⟨_, rfl⟩
        have q_51 : 0 ≤ v_50.toInt ∧ v_50.toInt ≤ 120 := by rw [ev_50]; exact hI 0 14
        have q_52 : (fp_176 0 14).toInt = v_50.toInt := (congrArg Int32.toInt (show fp_176 0 14 = v_50 from ev_50.symm))
        refine sg_calli (va_runV (As := []) (rest := []) ⟨hx, hb, hml, hown, hts⟩ (kX12_byteAt l D ca za h hh fp_176 L Q hI H.size) (sl_c12_byteAt_0_0_0_0_12 hts ⟨Nat.le_of_ble_eq_true rfl, Nat.le_of_ble_eq_true rfl⟩) (sl_vM_0 hA hK hP hS hZ) rfl rfl hl.1 rfl (lv_room (Nat.le_of_ble_eq_true rfl)) dX12_one_183 ⟨Nat.le_refl _, Nat.le_refl _⟩) hA hS (fun r_56 f_53 L_54 Q_55 H locs hq hP hS => ?_)
        obtain ⟨⟨ef9, eL9, eQ9⟩, hq, p_57, u_58⟩ := hq
        replace hs := hs.trans ((if_pos c_48).trans (spl_e ev_50 (spl_e u_58 rfl)))
        rw [ef9, eL9, eQ9] at hP; clear ef9 eL9 eQ9
        refine lv_bipush (v := 48) hx hb dX12_one_186 bp_48 ?_
        refine lv_icmp_lt (tgt := 229) hx hb dX12_one_188 (by decide) (fun c => ?_) (fun c => ?_)
        · skip
          have c_59 : r_56.toInt < 48 := (by first | exact (cm_lt1 ti_48 c) | (have z := bn_lt c; have k1 : (48 : Int32).toInt = 48 := ti_48; omega))
          exact blk_229 y3_176 y4_176 fp_176 _ _ _ (hs.trans ((if_pos c_59).trans rfl)) (by have zz0_15 : (fp_176 0 15).toInt = v_38.toInt := (congrArg Int32.toInt (show fp_176 0 15 = v_38 from ev_38.symm)); exact ⟨by omega, by omega⟩) hy1_176 (by have zz0_13 : (fp_176 0 13).toInt = v_41.toInt := (congrArg Int32.toInt (show fp_176 0 13 = v_41 from ev_41.symm)); omega) (by have zz0_16 : (fp_176 0 16).toInt = v_44.toInt := (congrArg Int32.toInt (show fp_176 0 16 = v_44 from ev_44.symm)); omega) (by have zz0_15 : (fp_176 0 15).toInt = v_38.toInt := (congrArg Int32.toInt (show fp_176 0 15 = v_38 from ev_38.symm)); have zz0_16 : (fp_176 0 16).toInt = v_44.toInt := (congrArg Int32.toInt (show fp_176 0 16 = v_44 from ev_44.symm)); omega) hI hF hP hS (lv_sub hl [0, 1, 2] rfl)
        · skip
          have c_60 : 48 ≤ r_56.toInt := (by first | exact (cm_nlt1 ti_48 c) | (have z := bn_nlt c; have k1 : (48 : Int32).toInt = 48 := ti_48; omega))
          replace hs := hs.trans ((if_neg (Int.not_lt.mpr c_60)).trans rfl)
          refine lv_aload_n hx hb dX12_one_191 rfl (lv_at hl 0 rfl) ?_
          refine sg_calli (va_runV (As := []) (rest := []) ⟨hx, hb, hml, hown, hts⟩ (kX12_byteAt l D ca za h hh fp_176 L Q hI H.size) (sl_c12_byteAt_0_0_0_0_12 hts ⟨Nat.le_of_ble_eq_true rfl, Nat.le_of_ble_eq_true rfl⟩) (sl_vM_0 hA hK hP hS hZ) rfl rfl hl.1 rfl (lv_room (Nat.le_of_ble_eq_true rfl)) dX12_one_192 ⟨Nat.le_refl _, Nat.le_refl _⟩) hA hS (fun r_66 f_63 L_64 Q_65 H locs hq hP hS => ?_)
          obtain ⟨⟨ef9, eL9, eQ9⟩, hq, p_67, u_68⟩ := hq
          rw [ef9, eL9, eQ9] at hP; clear ef9 eL9 eQ9
          rw [show r_66 = r_56 from u_68.trans u_58.symm]
          refine lv_bipush (v := 57) hx hb dX12_one_195 bp_57 ?_
          refine lv_icmp_gt (tgt := 229) hx hb dX12_one_197 (by decide) (fun c => ?_) (fun c => ?_)
          · skip
            have c_69 : 57 < r_56.toInt := (by first | exact (cm_lt0 ti_57 c) | (have z := bn_lt c; have k1 : (57 : Int32).toInt = 57 := ti_57; omega))
            exact blk_229 y3_176 y4_176 fp_176 _ _ _ (hs.trans ((if_pos c_69).trans rfl)) (by have zz0_15 : (fp_176 0 15).toInt = v_38.toInt := (congrArg Int32.toInt (show fp_176 0 15 = v_38 from ev_38.symm)); exact ⟨by omega, by omega⟩) hy1_176 (by have zz0_13 : (fp_176 0 13).toInt = v_41.toInt := (congrArg Int32.toInt (show fp_176 0 13 = v_41 from ev_41.symm)); omega) (by have zz0_16 : (fp_176 0 16).toInt = v_44.toInt := (congrArg Int32.toInt (show fp_176 0 16 = v_44 from ev_44.symm)); omega) (by have zz0_15 : (fp_176 0 15).toInt = v_38.toInt := (congrArg Int32.toInt (show fp_176 0 15 = v_38 from ev_38.symm)); have zz0_16 : (fp_176 0 16).toInt = v_44.toInt := (congrArg Int32.toInt (show fp_176 0 16 = v_44 from ev_44.symm)); omega) hI hF hP hS (lv_sub hl [0, 1, 2] rfl)
          · skip
            have c_70 : r_56.toInt ≤ 57 := (by first | exact (cm_nlt0 ti_57 c) | (have z := bn_nlt c; have k1 : (57 : Int32).toInt = 57 := ti_57; omega))
            refine lv_bipush (v := 10) hx hb dX12_one_200 bp_10 ?_
            refine lv_iload_n hx hb dX12_one_202 rfl (lv_at hl 1 rfl) ?_
            refine lv_imul hx hb dX12_one_203 ?_
            refine lv_topi (fun v_71 ev_71 => ?_)
            refine lv_aload_n hx hb dX12_one_204 rfl (lv_at hl 0 rfl) ?_
            refine sg_calli (va_runV (As := []) (rest := [.int v_71]) ⟨hx, hb, hml, hown, hts⟩ (kX12_byteAt l D ca za h hh fp_176 L Q hI H.size) (sl_c12_byteAt_0_0_0_0_12 hts ⟨Nat.le_of_ble_eq_true rfl, Nat.le_of_ble_eq_true rfl⟩) (sl_vM_0 hA hK hP hS hZ) rfl rfl hl.1 rfl (lv_room (Nat.le_of_ble_eq_true rfl)) dX12_one_205 ⟨Nat.le_refl _, Nat.le_refl _⟩) hA hS (fun r_77 f_74 L_75 Q_76 H locs hq hP hS => ?_)
            obtain ⟨⟨ef9, eL9, eQ9⟩, hq, p_78, u_79⟩ := hq
            rw [ef9, eL9, eQ9] at hP; clear ef9 eL9 eQ9
            rw [show r_77 = r_56 from u_79.trans u_58.symm]
            refine lv_iadd hx hb dX12_one_208 ?_
            refine lv_topi (fun v_80 ev_80 => ?_)
            refine lv_bipush (v := 48) hx hb dX12_one_209 bp_48 ?_
            refine lv_isub hx hb dX12_one_211 ?_
            refine lv_topi (fun v_81 ev_81 => ?_)
            refine lv_istore_n (lv' := [(3, .int v_81), (0, .ref (h 0)), (4, .int y4_176)]) hx hb dX12_one_212 rfl hl (by decide) rfl (fun ls hl => ?_)
            obtain ⟨v_82, ev_82⟩ : ∃ z : Int32, z = y4_176 + 1 := ⟨_, rfl⟩
            have q_83 : v_82.toInt = y4_176.toInt + 1 := by rw [ev_82]; exact (bn_addc y4_176 1 (by decide) (by omega) (by omega))
            refine lv_iinc (v := v_82) (lv' := [(4, .int v_82), (3, .int v_81), (0, .ref (h 0))]) hx hb dX12_one_213 hl (k := 2) rfl (by rw [ev_82]; rfl) (by decide) rfl (fun ls hl => ?_)
            refine lv_aload_n hx hb dX12_one_216 rfl (lv_at hl 2 rfl) ?_
            refine lv_dup hx hb dX12_one_217 rfl ?_
            refine sl_gM_0_13_12 (v := v_41) hx hb hts hown hK hP (show fp_176 0 13 = v_41 from ev_41.symm) dX12_one_218 ?_
            refine lv_iconst (v := 1) hx hb dX12_one_221 ic_1 ?_
            refine lv_iadd hx hb dX12_one_222 ?_
            refine lv_topi (fun v_84 ev_84 => ?_)
            have q_85 : v_84.toInt = v_41.toInt + 1 := by rw [ev_84]; first | exact cm_add ti_1 (by omega) (by omega) | (have k1 : (1 : Int32).toInt = 1 := ti_1; exact (bn_addI (by omega) (by omega)).trans (by omega))
            refine sl_pM_0_13_12 (x := v_84) hx hb hts hown hh hA hK hP hS dX12_one_223 (fun f_86 H locs ef_86 hP hS => ?_)
            have hI : sgI loM hiM f_86 := by rw [ef_86]; exact sgI.put hI 0 13 (show 0 ≤ (v_84 : Int32).toInt ∧ (v_84 : Int32).toInt ≤ 120 from ⟨by omega, by omega⟩)
            have hF : sgK WkX12_one_4 f f_86 := sgK.put hF ef_86 (by rfl)
            refine lv_goto (tgt := 176) hx hb dX12_one_226 (by decide) ?_
            exact ih_176 v_81 v_82 f_86 _ _ _ (hs.trans ((if_neg (Int.not_lt.mpr c_70)).trans (spl_e ev_71 (spl_e ev_80 (spl_e ev_81 (spl_e ev_82 (spl_e ev_84 (spl_e ef_86 rfl)))))))) (by omega) (by have zz0_15 : (f_86 0 15).toInt = v_38.toInt := (congrArg Int32.toInt (show f_86 0 15 = v_38 from (by rw [ef_86, sg_up_s, sgu_n (by decide)]; exact ev_38.symm))); exact ⟨by omega, by omega⟩) ⟨by omega, by omega⟩ (by have zz0_13 : (f_86 0 13).toInt = v_84.toInt := (congrArg Int32.toInt (show f_86 0 13 = v_84 from (by rw [ef_86, sg_up_s, sgu_s]))); omega) (by have zz0_16 : (f_86 0 16).toInt = v_44.toInt := (congrArg Int32.toInt (show f_86 0 16 = v_44 from (by rw [ef_86, sg_up_s, sgu_n (by decide)]; exact ev_44.symm))); omega) (by have zz0_15 : (f_86 0 15).toInt = v_38.toInt := (congrArg Int32.toInt (show f_86 0 15 = v_38 from (by rw [ef_86, sg_up_s, sgu_n (by decide)]; exact ev_38.symm))); have zz0_16 : (f_86 0 16).toInt = v_44.toInt := (congrArg Int32.toInt (show f_86 0 16 = v_44 from (by rw [ef_86, sg_up_s, sgu_n (by decide)]; exact ev_44.symm))); omega) hI hF hP hS (lv_sub hl [2, 1, 0] rfl)
  refine lv_aload_n hx hb dX12_one_0 rfl (lv_at hl 0 rfl) ?_
  refine sl_gM_0_15_12 (v := v_3) hx hb hts hown hK hP (show f 0 15 = v_3 from ev_3.symm) dX12_one_1 ?_
  refine lv_if_lt (tgt := 9) hx hb dX12_one_4 (by decide) (fun c => ?_) (fun c => ?_)
  · skip
    have c_87 : v_3.toInt < 0 := (by first | exact (cm_lt1 ti_0 c) | (have z := bn_lt c; have k1 : (0 : Int32).toInt = 0 := ti_0; omega))
    refine lv_aload_n hx hb dX12_one_9 rfl (lv_at hl 0 rfl) ?_
    have q_89 : (f 0 13).toInt = v_5.toInt := (congrArg Int32.toInt (show f 0 13 = v_5 from ev_5.symm))
    obtain ⟨v_90, ev_90⟩ : ∃ z : Int32, z = f 0 14 := ⟨_, rfl⟩
    have q_91 : 0 ≤ v_90.toInt ∧ v_90.toInt ≤ 120 := by rw [ev_90]; exact hI 0 14
    have q_92 : (f 0 14).toInt = v_90.toInt := (congrArg Int32.toInt (show f 0 14 = v_90 from ev_90.symm))
    refine sg_calli (va_runV (As := []) (rest := []) ⟨hx, hb, hml, hown, hts⟩ (kX12_byteAt l D ca za h hh f L Q hI H.size) (sl_c12_byteAt_0_0_0_0_12 hts ⟨Nat.le_of_ble_eq_true rfl, Nat.le_of_ble_eq_true rfl⟩) (sl_vM_0 hA hK hP hS hZ) rfl rfl hl.1 rfl (lv_room (Nat.le_of_ble_eq_true rfl)) dX12_one_10 ⟨Nat.le_refl _, Nat.le_refl _⟩) hA hS (fun r_96 f_93 L_94 Q_95 H locs hq hP hS => ?_)
    obtain ⟨⟨ef9, eL9, eQ9⟩, hq, p_97, u_98⟩ := hq
    replace hs := hs.trans ((if_pos c_87).trans (spl_e ev_90 (spl_e u_98 rfl)))
    rw [ef9, eL9, eQ9] at hP; clear ef9 eL9 eQ9
    refine lv_istore_n (lv' := [(1, .int r_96), (0, .ref (h 0))]) hx hb dX12_one_13 rfl hl (by decide) rfl (fun ls hl => ?_)
    refine lv_iload_n hx hb dX12_one_14 rfl (lv_at hl 0 rfl) ?_
    refine lv_bipush (v := 33) hx hb dX12_one_15 bp_33 ?_
    refine lv_icmp_eq (tgt := 32) hx hb dX12_one_17 (by decide) (fun c => ?_) (fun c => ?_)
    · skip
      have c_99 : r_96.toInt = 33 := (by first | exact (cm_eq1 ti_33 c) | (have z := Int32.toInt_inj.mpr c; have k1 : (33 : Int32).toInt = 33 := ti_33; omega))
      refine lv_aload_n hx hb dX12_one_32 rfl (lv_at hl 1 rfl) ?_
      have c_101 : v_1 = 4 := Int32.toInt_inj.mp (by have k9 : (4 : Int32).toInt = 4 := ti_4; omega)
      refine sl_gM_0_16_12 (v := 4) hx hb hts hown hK hP (show f 0 16 = 4 from (Eq.trans ev_1.symm c_101)) dX12_one_33 ?_
      refine lv_bipush (v := 6) hx hb dX12_one_36 bp_6 ?_
      refine lv_icmp_ne (tgt := 46) hx hb dX12_one_38 (by decide) (fun c => ?_) (fun c => absurd c (by decide))
      refine lv_aload_n hx hb dX12_one_46 rfl (lv_at hl 1 rfl) ?_
      refine lv_dup hx hb dX12_one_47 rfl ?_
      refine sl_gM_0_16_12 (v := 4) hx hb hts hown hK hP (show f 0 16 = 4 from (Eq.trans ev_1.symm c_101)) dX12_one_48 ?_
      refine lv_iconst (v := 1) hx hb dX12_one_51 ic_1 ?_
      refine lv_iadd hx hb dX12_one_52 ?_
      refine W.eq (g2 := F0 m 53 ls [.int 5, .ref (h 0)]) (by rw [show (4 + 1 : Int32) = 5 from by decide]) ?_
      refine sl_pM_0_16_12 (x := 5) hx hb hts hown hh hA hK hP hS dX12_one_53 (fun f_102 H locs ef_102 hP hS => ?_)
      have hI : sgI loM hiM f_102 := by rw [ef_102]; exact sgI.put hI 0 16 (show 0 ≤ (5 : Int32).toInt ∧ (5 : Int32).toInt ≤ 6 from by decide)
      have hF : sgK WkX12_one_4 f f_102 := sgK.put hF ef_102 (by rfl)
      refine lv_aload_n hx hb dX12_one_56 rfl (lv_at hl 1 rfl) ?_
      refine lv_dup hx hb dX12_one_57 rfl ?_
      refine sl_gM_0_13_12 (v := v_5) hx hb hts hown hK hP (show f_102 0 13 = v_5 from (by rw [ef_102, sg_up_s, sgu_n (by decide)]; exact ev_5.symm)) dX12_one_58 ?_
      refine lv_iconst (v := 1) hx hb dX12_one_61 ic_1 ?_
      refine lv_iadd hx hb dX12_one_62 ?_
      refine lv_topi (fun v_103 ev_103 => ?_)
      have q_104 : v_103.toInt = v_5.toInt + 1 := by rw [ev_103]; first | exact cm_add ti_1 (by omega) (by omega) | (have k1 : (1 : Int32).toInt = 1 := ti_1; exact (bn_addI (by omega) (by omega)).trans (by omega))
      refine sl_pM_0_13_12 (x := v_103) hx hb hts hown hh hA hK hP hS dX12_one_63 (fun f_105 H locs ef_105 hP hS => ?_)
      have hI : sgI loM hiM f_105 := by rw [ef_105]; exact sgI.put hI 0 13 (show 0 ≤ (v_103 : Int32).toInt ∧ (v_103 : Int32).toInt ≤ 120 from ⟨by omega, by omega⟩)
      have hF : sgK WkX12_one_4 f f_105 := sgK.put hF ef_105 (by rfl)
      refine lv_iload_n hx hb dX12_one_66 rfl (lv_at hl 0 rfl) ?_
      refine lv_bipush (v := 40) hx hb dX12_one_67 bp_40 ?_
      refine lv_icmp_ne (tgt := 79) hx hb dX12_one_69 (by decide) (fun c => ?_) (fun c => ?_)
      · skip
        have c_106 : r_96.toInt ≠ 40 := (by first | exact (cm_ne1 ti_40 c) | (have z := bn_ne c; have k1 : (40 : Int32).toInt = 40 := ti_40; omega))
        refine lv_aload_n hx hb dX12_one_79 rfl (lv_at hl 1 rfl) ?_
        have q_108 : (f_105 0 16).toInt = 5 := (congrArg Int32.toInt (show f_105 0 16 = 5 from (by rw [ef_105, sg_up_s, sgu_n (by decide)]; exact (by rw [ef_102, sg_up_s, sgu_s])))).trans (by decide)
        have q_109 : (f_105 0 15).toInt = v_3.toInt := (congrArg Int32.toInt (show f_105 0 15 = v_3 from (by rw [ef_105, sg_up_s, sgu_n (by decide)]; exact (by rw [ef_102, sg_up_s, sgu_n (by decide)]; exact ev_3.symm))))
        have q_111 : (f_105 0 13).toInt = v_103.toInt := (congrArg Int32.toInt (show f_105 0 13 = v_103 from (by rw [ef_105, sg_up_s, sgu_s])))
        refine sg_calli (va_runV (As := []) (rest := []) ⟨hx, hb, hml, hown, hts⟩ (kX12_one_5 l D ca za h hh f_105 L Q hI (by omega) (by omega) H.size) (sl_c12_one_7_0_0_157_12 hts ⟨Nat.le_of_ble_eq_true rfl, Nat.le_of_ble_eq_true rfl⟩) (sl_vM_0 hA hK hP hS hZ) rfl rfl hl.1 rfl (lv_room (Nat.le_of_ble_eq_true rfl)) dX12_one_80 ⟨Nat.le_refl _, Nat.le_refl _⟩) hA hS (fun r_115 f_112 L_113 Q_114 H locs hq hP hS => ?_)
        obtain ⟨⟨hI, hk_f_112, eL9, eQ9⟩, hq, p_116, p_117, p_118, u_119⟩ := hq
        rw [eL9, eQ9] at hP; clear eL9 eQ9
        have hF : sgK WkX12_one_4 f f_112 := sgK.tr hF hk_f_112 (by decide +kernel)
        obtain ⟨v_120, ev_120⟩ : ∃ z : Int32, z = f_112 0 13 := ⟨_, rfl⟩
        have q_121 : 0 ≤ v_120.toInt ∧ v_120.toInt ≤ 120 := by rw [ev_120]; exact hI 0 13
        have q_122 : (f_112 0 13).toInt = v_120.toInt := (congrArg Int32.toInt (show f_112 0 13 = v_120 from ev_120.symm))
        obtain ⟨v_123, ev_123⟩ : ∃ z : Int32, z = f_112 0 16 := ⟨_, rfl⟩
        have q_124 : 0 ≤ v_123.toInt ∧ v_123.toInt ≤ 6 := by rw [ev_123]; exact hI 0 16
        have q_125 : (f_112 0 16).toInt = v_123.toInt := (congrArg Int32.toInt (show f_112 0 16 = v_123 from ev_123.symm))
        obtain ⟨v_126, ev_126⟩ : ∃ z : Int32, z = f_112 0 15 := ⟨_, rfl⟩
        have q_127 : (-1) ≤ v_126.toInt ∧ v_126.toInt ≤ 120 := by rw [ev_126]; exact hI 0 15
        have q_128 : (f_112 0 15).toInt = v_126.toInt := (congrArg Int32.toInt (show f_112 0 15 = v_126 from ev_126.symm))
        refine lv_istore_n (lv' := [(2, .int r_115), (1, .int r_96), (0, .ref (h 0))]) hx hb dX12_one_83 rfl hl (by decide) rfl (fun ls hl => ?_)
        refine lv_iload_n hx hb dX12_one_84 rfl (lv_at hl 1 rfl) ?_
        refine lv_bipush (v := 40) hx hb dX12_one_85 bp_40 ?_
        refine lv_icmp_ne (tgt := 104) hx hb dX12_one_87 (by decide) (fun c => ?_) (fun c => ?_)
        · skip
          have c_130 : r_96.toInt ≠ 40 := (by first | exact (cm_ne1 ti_40 c) | (have z := bn_ne c; have k1 : (40 : Int32).toInt = 40 := ti_40; omega))
          refine lv_aload_n hx hb dX12_one_104 rfl (lv_at hl 2 rfl) ?_
          refine lv_dup hx hb dX12_one_105 rfl ?_
          refine sl_gM_0_16_12 (v := v_123) hx hb hts hown hK hP (show f_112 0 16 = v_123 from ev_123.symm) dX12_one_106 ?_
          refine lv_iconst (v := 1) hx hb dX12_one_109 ic_1 ?_
          refine lv_isub hx hb dX12_one_110 ?_
          refine lv_topi (fun v_132 ev_132 => ?_)
          have q_133 : v_132.toInt = v_123.toInt - 1 := by rw [ev_132]; first | exact cm_sub ti_1 (by omega) (by omega) | (have k1 : (1 : Int32).toInt = 1 := ti_1; exact (bn_subI (by omega) (by omega)).trans (by omega))
          refine sl_pM_0_16_12 (x := v_132) hx hb hts hown hh hA hK hP hS dX12_one_111 (fun f_134 H locs ef_134 hP hS => ?_)
          replace hs := hs.trans ((if_pos c_99).trans (spl_e ef_102 (spl_e ev_103 (spl_e ef_105 (spl2_e u_119 (spl_e ev_120 (spl_e ev_123 (spl_e ev_126 (spl_e ev_132 (spl_e ef_134 rfl))))))))))
          have hI : sgI loM hiM f_134 := by rw [ef_134]; exact sgI.put hI 0 16 (show 0 ≤ (v_132 : Int32).toInt ∧ (v_132 : Int32).toInt ≤ 6 from ⟨by omega, by omega⟩)
          have hF : sgK WkX12_one_4 f f_134 := sgK.put hF ef_134 (by rfl)
          refine lv_iload_n hx hb dX12_one_114 rfl (lv_at hl 1 rfl) ?_
          refine lv_bipush (v := 40) hx hb dX12_one_115 bp_40 ?_
          refine lv_icmp_ne (tgt := 124) hx hb dX12_one_117 (by decide) (fun c => ?_) (fun c => ?_)
          · skip
            have c_135 : r_96.toInt ≠ 40 := (by first | exact (cm_ne1 ti_40 c) | (have z := bn_ne c; have k1 : (40 : Int32).toInt = 40 := ti_40; omega))
            refine lv_iload_n hx hb dX12_one_124 rfl (lv_at hl 1 rfl) ?_
            refine lv_bipush (v := 45) hx hb dX12_one_125 bp_45 ?_
            refine lv_icmp_ne (tgt := 135) hx hb dX12_one_127 (by decide) (fun c => ?_) (fun c => ?_)
            · skip
              have c_137 : r_96.toInt ≠ 45 := (by first | exact (cm_ne1 ti_45 c) | (have z := bn_ne c; have k1 : (45 : Int32).toInt = 45 := ti_45; omega))
              refine lv_iload_n hx hb dX12_one_135 rfl (lv_at hl 0 rfl) ?_
              refine lv_if_ne (tgt := 143) hx hb dX12_one_136 (by decide) (fun c => ?_) (fun c => ?_)
              · skip
                have c_139 : r_115.toInt ≠ 0 := (by first | exact (cm_ne1 ti_0 c) | (have z := bn_ne c; have k1 : (0 : Int32).toInt = 0 := ti_0; omega))
                refine lv_iconst (v := 0) hx hb dX12_one_143 ic_0 ?_
                have q_141 : (f_134 0 13).toInt = v_120.toInt := (congrArg Int32.toInt (show f_134 0 13 = v_120 from (by rw [ef_134, sg_up_s, sgu_n (by decide)]; exact ev_120.symm)))
                have q_142 : (f_134 0 16).toInt = v_132.toInt := (congrArg Int32.toInt (show f_134 0 16 = v_132 from (by rw [ef_134, sg_up_s, sgu_s])))
                have q_143 : (f_134 0 15).toInt = v_126.toInt := (congrArg Int32.toInt (show f_134 0 15 = v_126 from (by rw [ef_134, sg_up_s, sgu_n (by decide)]; exact ev_126.symm)))
                have k99 : (0 : Int32).toInt = 0 := ti_0
                exact hret _ _ _ _ (0) f_134 L Q dX12_one_144 hP hS ⟨⟨hI, hF, rfl, rfl⟩, trivial, (by omega), (by omega), (by omega), (Eq.trans (Eq.symm (hs.trans ((if_neg c_139).trans rfl))) hsp)⟩
              · skip
                have c_140 : r_115.toInt = 0 := (by first | exact (cm_eq1 ti_0 c) | (have z := Int32.toInt_inj.mpr c; have k1 : (0 : Int32).toInt = 0 := ti_0; omega))
                refine lv_iconst (v := 1) hx hb dX12_one_139 ic_1 ?_
                refine lv_goto (tgt := 144) hx hb dX12_one_140 (by decide) ?_
                have q_145 : (f_134 0 13).toInt = v_120.toInt := (congrArg Int32.toInt (show f_134 0 13 = v_120 from (by rw [ef_134, sg_up_s, sgu_n (by decide)]; exact ev_120.symm)))
                have q_146 : (f_134 0 16).toInt = v_132.toInt := (congrArg Int32.toInt (show f_134 0 16 = v_132 from (by rw [ef_134, sg_up_s, sgu_s])))
                have q_147 : (f_134 0 15).toInt = v_126.toInt := (congrArg Int32.toInt (show f_134 0 15 = v_126 from (by rw [ef_134, sg_up_s, sgu_n (by decide)]; exact ev_126.symm)))
                have k99 : (1 : Int32).toInt = 1 := ti_1
                exact hret _ _ _ _ (1) f_134 L Q dX12_one_144 hP hS ⟨⟨hI, hF, rfl, rfl⟩, trivial, (by omega), (by omega), (by omega), (Eq.trans (Eq.symm (hs.trans ((if_pos c_140).trans rfl))) hsp)⟩
            · skip
              exfalso; have c_138 : r_96.toInt = 45 := (by first | exact (cm_eq1 ti_45 c) | (have z := Int32.toInt_inj.mpr c; have k1 : (45 : Int32).toInt = 45 := ti_45; omega)); first | exact absurd c_138 (by assumption) | omega
          · skip
            exfalso; have c_136 : r_96.toInt = 40 := (by first | exact (cm_eq1 ti_40 c) | (have z := Int32.toInt_inj.mpr c; have k1 : (40 : Int32).toInt = 40 := ti_40; omega)); first | exact absurd c_136 (by assumption) | omega
        · skip
          exfalso; have c_131 : r_96.toInt = 40 := (by first | exact (cm_eq1 ti_40 c) | (have z := Int32.toInt_inj.mpr c; have k1 : (40 : Int32).toInt = 40 := ti_40; omega)); first | exact absurd c_131 (by assumption) | omega
      · skip
        exfalso; have c_107 : r_96.toInt = 40 := (by first | exact (cm_eq1 ti_40 c) | (have z := Int32.toInt_inj.mpr c; have k1 : (40 : Int32).toInt = 40 := ti_40; omega)); first | exact absurd c_107 (by assumption) | omega
    · skip
      have c_100 : r_96.toInt ≠ 33 := (by first | exact (cm_ne1 ti_33 c) | (have z := bn_ne c; have k1 : (33 : Int32).toInt = 33 := ti_33; omega))
      replace hs := hs.trans ((if_neg c_100).trans rfl)
      refine lv_iload_n hx hb dX12_one_20 rfl (lv_at hl 0 rfl) ?_
      refine lv_bipush (v := 45) hx hb dX12_one_21 bp_45 ?_
      refine lv_icmp_eq (tgt := 32) hx hb dX12_one_23 (by decide) (fun c => ?_) (fun c => ?_)
      · skip
        have c_149 : r_96.toInt = 45 := (by first | exact (cm_eq1 ti_45 c) | (have z := Int32.toInt_inj.mpr c; have k1 : (45 : Int32).toInt = 45 := ti_45; omega))
        refine lv_aload_n hx hb dX12_one_32 rfl (lv_at hl 1 rfl) ?_
        have c_151 : v_1 = 4 := Int32.toInt_inj.mp (by have k9 : (4 : Int32).toInt = 4 := ti_4; omega)
        refine sl_gM_0_16_12 (v := 4) hx hb hts hown hK hP (show f 0 16 = 4 from (Eq.trans ev_1.symm c_151)) dX12_one_33 ?_
        refine lv_bipush (v := 6) hx hb dX12_one_36 bp_6 ?_
        refine lv_icmp_ne (tgt := 46) hx hb dX12_one_38 (by decide) (fun c => ?_) (fun c => absurd c (by decide))
        refine lv_aload_n hx hb dX12_one_46 rfl (lv_at hl 1 rfl) ?_
        refine lv_dup hx hb dX12_one_47 rfl ?_
        refine sl_gM_0_16_12 (v := 4) hx hb hts hown hK hP (show f 0 16 = 4 from (Eq.trans ev_1.symm c_151)) dX12_one_48 ?_
        refine lv_iconst (v := 1) hx hb dX12_one_51 ic_1 ?_
        refine lv_iadd hx hb dX12_one_52 ?_
        refine W.eq (g2 := F0 m 53 ls [.int 5, .ref (h 0)]) (by rw [show (4 + 1 : Int32) = 5 from by decide]) ?_
        refine sl_pM_0_16_12 (x := 5) hx hb hts hown hh hA hK hP hS dX12_one_53 (fun f_152 H locs ef_152 hP hS => ?_)
        have hI : sgI loM hiM f_152 := by rw [ef_152]; exact sgI.put hI 0 16 (show 0 ≤ (5 : Int32).toInt ∧ (5 : Int32).toInt ≤ 6 from by decide)
        have hF : sgK WkX12_one_4 f f_152 := sgK.put hF ef_152 (by rfl)
        refine lv_aload_n hx hb dX12_one_56 rfl (lv_at hl 1 rfl) ?_
        refine lv_dup hx hb dX12_one_57 rfl ?_
        refine sl_gM_0_13_12 (v := v_5) hx hb hts hown hK hP (show f_152 0 13 = v_5 from (by rw [ef_152, sg_up_s, sgu_n (by decide)]; exact ev_5.symm)) dX12_one_58 ?_
        refine lv_iconst (v := 1) hx hb dX12_one_61 ic_1 ?_
        refine lv_iadd hx hb dX12_one_62 ?_
        refine lv_topi (fun v_153 ev_153 => ?_)
        have q_154 : v_153.toInt = v_5.toInt + 1 := by rw [ev_153]; first | exact cm_add ti_1 (by omega) (by omega) | (have k1 : (1 : Int32).toInt = 1 := ti_1; exact (bn_addI (by omega) (by omega)).trans (by omega))
        refine sl_pM_0_13_12 (x := v_153) hx hb hts hown hh hA hK hP hS dX12_one_63 (fun f_155 H locs ef_155 hP hS => ?_)
        have hI : sgI loM hiM f_155 := by rw [ef_155]; exact sgI.put hI 0 13 (show 0 ≤ (v_153 : Int32).toInt ∧ (v_153 : Int32).toInt ≤ 120 from ⟨by omega, by omega⟩)
        have hF : sgK WkX12_one_4 f f_155 := sgK.put hF ef_155 (by rfl)
        refine lv_iload_n hx hb dX12_one_66 rfl (lv_at hl 0 rfl) ?_
        refine lv_bipush (v := 40) hx hb dX12_one_67 bp_40 ?_
        refine lv_icmp_ne (tgt := 79) hx hb dX12_one_69 (by decide) (fun c => ?_) (fun c => ?_)
        · skip
          have c_156 : r_96.toInt ≠ 40 := (by first | exact (cm_ne1 ti_40 c) | (have z := bn_ne c; have k1 : (40 : Int32).toInt = 40 := ti_40; omega))
          refine lv_aload_n hx hb dX12_one_79 rfl (lv_at hl 1 rfl) ?_
          have q_158 : (f_155 0 16).toInt = 5 := (congrArg Int32.toInt (show f_155 0 16 = 5 from (by rw [ef_155, sg_up_s, sgu_n (by decide)]; exact (by rw [ef_152, sg_up_s, sgu_s])))).trans (by decide)
          have q_159 : (f_155 0 15).toInt = v_3.toInt := (congrArg Int32.toInt (show f_155 0 15 = v_3 from (by rw [ef_155, sg_up_s, sgu_n (by decide)]; exact (by rw [ef_152, sg_up_s, sgu_n (by decide)]; exact ev_3.symm))))
          have q_161 : (f_155 0 13).toInt = v_153.toInt := (congrArg Int32.toInt (show f_155 0 13 = v_153 from (by rw [ef_155, sg_up_s, sgu_s])))
          refine sg_calli (va_runV (As := []) (rest := []) ⟨hx, hb, hml, hown, hts⟩ (kX12_one_5 l D ca za h hh f_155 L Q hI (by omega) (by omega) H.size) (sl_c12_one_7_0_0_157_12 hts ⟨Nat.le_of_ble_eq_true rfl, Nat.le_of_ble_eq_true rfl⟩) (sl_vM_0 hA hK hP hS hZ) rfl rfl hl.1 rfl (lv_room (Nat.le_of_ble_eq_true rfl)) dX12_one_80 ⟨Nat.le_refl _, Nat.le_refl _⟩) hA hS (fun r_165 f_162 L_163 Q_164 H locs hq hP hS => ?_)
          obtain ⟨⟨hI, hk_f_162, eL9, eQ9⟩, hq, p_166, p_167, p_168, u_169⟩ := hq
          rw [eL9, eQ9] at hP; clear eL9 eQ9
          have hF : sgK WkX12_one_4 f f_162 := sgK.tr hF hk_f_162 (by decide +kernel)
          obtain ⟨v_170, ev_170⟩ : ∃ z : Int32, z = f_162 0 13 := ⟨_, rfl⟩
          have q_171 : 0 ≤ v_170.toInt ∧ v_170.toInt ≤ 120 := by rw [ev_170]; exact hI 0 13
          have q_172 : (f_162 0 13).toInt = v_170.toInt := (congrArg Int32.toInt (show f_162 0 13 = v_170 from ev_170.symm))
          obtain ⟨v_173, ev_173⟩ : ∃ z : Int32, z = f_162 0 16 := ⟨_, rfl⟩
          have q_174 : 0 ≤ v_173.toInt ∧ v_173.toInt ≤ 6 := by rw [ev_173]; exact hI 0 16
          have q_175 : (f_162 0 16).toInt = v_173.toInt := (congrArg Int32.toInt (show f_162 0 16 = v_173 from ev_173.symm))
          obtain ⟨v_176, ev_176⟩ : ∃ z : Int32, z = f_162 0 15 := ⟨_, rfl⟩
          have q_177 : (-1) ≤ v_176.toInt ∧ v_176.toInt ≤ 120 := by rw [ev_176]; exact hI 0 15
          have q_178 : (f_162 0 15).toInt = v_176.toInt := (congrArg Int32.toInt (show f_162 0 15 = v_176 from ev_176.symm))
          refine lv_istore_n (lv' := [(2, .int r_165), (1, .int r_96), (0, .ref (h 0))]) hx hb dX12_one_83 rfl hl (by decide) rfl (fun ls hl => ?_)
          refine lv_iload_n hx hb dX12_one_84 rfl (lv_at hl 1 rfl) ?_
          refine lv_bipush (v := 40) hx hb dX12_one_85 bp_40 ?_
          refine lv_icmp_ne (tgt := 104) hx hb dX12_one_87 (by decide) (fun c => ?_) (fun c => ?_)
          · skip
            have c_180 : r_96.toInt ≠ 40 := (by first | exact (cm_ne1 ti_40 c) | (have z := bn_ne c; have k1 : (40 : Int32).toInt = 40 := ti_40; omega))
            refine lv_aload_n hx hb dX12_one_104 rfl (lv_at hl 2 rfl) ?_
            refine lv_dup hx hb dX12_one_105 rfl ?_
            refine sl_gM_0_16_12 (v := v_173) hx hb hts hown hK hP (show f_162 0 16 = v_173 from ev_173.symm) dX12_one_106 ?_
            refine lv_iconst (v := 1) hx hb dX12_one_109 ic_1 ?_
            refine lv_isub hx hb dX12_one_110 ?_
            refine lv_topi (fun v_182 ev_182 => ?_)
            have q_183 : v_182.toInt = v_173.toInt - 1 := by rw [ev_182]; first | exact cm_sub ti_1 (by omega) (by omega) | (have k1 : (1 : Int32).toInt = 1 := ti_1; exact (bn_subI (by omega) (by omega)).trans (by omega))
            refine sl_pM_0_16_12 (x := v_182) hx hb hts hown hh hA hK hP hS dX12_one_111 (fun f_184 H locs ef_184 hP hS => ?_)
            have hI : sgI loM hiM f_184 := by rw [ef_184]; exact sgI.put hI 0 16 (show 0 ≤ (v_182 : Int32).toInt ∧ (v_182 : Int32).toInt ≤ 6 from ⟨by omega, by omega⟩)
            have hF : sgK WkX12_one_4 f f_184 := sgK.put hF ef_184 (by rfl)
            refine lv_iload_n hx hb dX12_one_114 rfl (lv_at hl 1 rfl) ?_
            refine lv_bipush (v := 40) hx hb dX12_one_115 bp_40 ?_
            refine lv_icmp_ne (tgt := 124) hx hb dX12_one_117 (by decide) (fun c => ?_) (fun c => ?_)
            · skip
              have c_185 : r_96.toInt ≠ 40 := (by first | exact (cm_ne1 ti_40 c) | (have z := bn_ne c; have k1 : (40 : Int32).toInt = 40 := ti_40; omega))
              refine lv_iload_n hx hb dX12_one_124 rfl (lv_at hl 1 rfl) ?_
              refine lv_bipush (v := 45) hx hb dX12_one_125 bp_45 ?_
              refine lv_icmp_ne (tgt := 135) hx hb dX12_one_127 (by decide) (fun c => ?_) (fun c => ?_)
              · skip
                exfalso; have c_187 : r_96.toInt ≠ 45 := (by first | exact (cm_ne1 ti_45 c) | (have z := bn_ne c; have k1 : (45 : Int32).toInt = 45 := ti_45; omega)); first | exact absurd (by assumption) c_187 | omega
              · skip
                have c_188 : r_96.toInt = 45 := (by first | exact (cm_eq1 ti_45 c) | (have z := Int32.toInt_inj.mpr c; have k1 : (45 : Int32).toInt = 45 := ti_45; omega))
                refine lv_iload_n hx hb dX12_one_130 rfl (lv_at hl 0 rfl) ?_
                refine lv_ineg hx hb dX12_one_131 ?_
                refine lv_topi (fun v_189 ev_189 => ?_)
                refine lv_goto (tgt := 144) hx hb dX12_one_132 (by decide) ?_
                have q_190 : (f_184 0 13).toInt = v_170.toInt := (congrArg Int32.toInt (show f_184 0 13 = v_170 from (by rw [ef_184, sg_up_s, sgu_n (by decide)]; exact ev_170.symm)))
                have q_191 : (f_184 0 16).toInt = v_182.toInt := (congrArg Int32.toInt (show f_184 0 16 = v_182 from (by rw [ef_184, sg_up_s, sgu_s])))
                have q_192 : (f_184 0 15).toInt = v_176.toInt := (congrArg Int32.toInt (show f_184 0 15 = v_176 from (by rw [ef_184, sg_up_s, sgu_n (by decide)]; exact ev_176.symm)))
                exact hret _ _ _ _ (v_189) f_184 L Q dX12_one_144 hP hS ⟨⟨hI, hF, rfl, rfl⟩, trivial, (by omega), (by omega), (by omega), (Eq.trans (Eq.symm (hs.trans ((if_pos c_149).trans (spl_e ef_152 (spl_e ev_153 (spl_e ef_155 (spl2_e u_169 (spl_e ev_170 (spl_e ev_173 (spl_e ev_176 (spl_e ev_182 (spl_e ef_184 (spl_e ev_189 rfl))))))))))))) hsp)⟩
            · skip
              exfalso; have c_186 : r_96.toInt = 40 := (by first | exact (cm_eq1 ti_40 c) | (have z := Int32.toInt_inj.mpr c; have k1 : (40 : Int32).toInt = 40 := ti_40; omega)); first | exact absurd c_186 (by assumption) | omega
          · skip
            exfalso; have c_181 : r_96.toInt = 40 := (by first | exact (cm_eq1 ti_40 c) | (have z := Int32.toInt_inj.mpr c; have k1 : (40 : Int32).toInt = 40 := ti_40; omega)); first | exact absurd c_181 (by assumption) | omega
        · skip
          exfalso; have c_157 : r_96.toInt = 40 := (by first | exact (cm_eq1 ti_40 c) | (have z := Int32.toInt_inj.mpr c; have k1 : (40 : Int32).toInt = 40 := ti_40; omega)); first | exact absurd c_157 (by assumption) | omega
      · skip
        have c_150 : r_96.toInt ≠ 45 := (by first | exact (cm_ne1 ti_45 c) | (have z := bn_ne c; have k1 : (45 : Int32).toInt = 45 := ti_45; omega))
        replace hs := hs.trans ((if_neg c_150).trans rfl)
        refine lv_iload_n hx hb dX12_one_26 rfl (lv_at hl 0 rfl) ?_
        refine lv_bipush (v := 40) hx hb dX12_one_27 bp_40 ?_
        refine lv_icmp_ne (tgt := 145) hx hb dX12_one_29 (by decide) (fun c => ?_) (fun c => ?_)
        · skip
          have c_194 : r_96.toInt ≠ 40 := (by first | exact (cm_ne1 ti_40 c) | (have z := bn_ne c; have k1 : (40 : Int32).toInt = 40 := ti_40; omega))
          refine lv_iload_n hx hb dX12_one_145 rfl (lv_at hl 0 rfl) ?_
          refine sg_calli (va_runS (As := [.int r_96]) (rest := []) ⟨hx, hb, hml, hown, hts⟩ (kX12_nameOf l D ca za h hh f L Q hI r_96 ⟨by omega, by omega⟩ H.size) (va_cwS 1 hts (gw_S (fun _ h => List.mem_cons_of_mem _ h) mw_869 mw_870 mw_619 mw_868) rfl rfl rfl hd_yX12_nameOf.2 ⟨Nat.le_of_ble_eq_true rfl, Nat.le_of_ble_eq_true rfl⟩) (sg_preS hA hK hP hS hZ) rfl rfl hl.1 rfl (lv_room (Nat.le_of_ble_eq_true rfl)) dX12_one_146 ⟨Nat.le_refl _, Nat.le_refl _⟩) hA hS (fun r_199 f_196 L_197 Q_198 H locs hq hP hS => ?_)
          obtain ⟨⟨ef9, eL9, eQ9⟩, hq, p_200, u_201⟩ := hq
          replace hs := hs.trans ((if_neg c_194).trans (spl_e u_201 rfl))
          rw [ef9, eL9, eQ9] at hP; clear ef9 eL9 eQ9
          refine lv_istore_n (lv' := [(2, .int r_199), (1, .int r_96), (0, .ref (h 0))]) hx hb dX12_one_149 rfl hl (by decide) rfl (fun ls hl => ?_)
          refine lv_iload_n hx hb dX12_one_150 rfl (lv_at hl 0 rfl) ?_
          refine lv_if_lt (tgt := 171) hx hb dX12_one_151 (by decide) (fun c => ?_) (fun c => ?_)
          · skip
            have c_202 : r_199.toInt < 0 := (by first | exact (cm_lt1 ti_0 c) | (have z := bn_lt c; have k1 : (0 : Int32).toInt = 0 := ti_0; omega))
            refine lv_iconst (v := 0) hx hb dX12_one_171 ic_0 ?_
            refine lv_istore_n (lv' := [(3, .int 0), (2, .int r_199), (1, .int r_96), (0, .ref (h 0))]) hx hb dX12_one_172 rfl hl (by decide) rfl (fun ls hl => ?_)
            refine lv_iconst (v := 0) hx hb dX12_one_173 ic_0 ?_
            refine lv_istore (lv' := [(4, .int 0), (3, .int 0), (2, .int r_199), (1, .int r_96), (0, .ref (h 0))]) hx hb dX12_one_174 hl (by decide) rfl (fun ls hl => ?_)
            exact loop_176 5 0 0 f _ _ _ (hs.trans ((if_pos c_202).trans rfl)) (by have kc0 : (0 : Int32).toInt = 0 := ti_0; have kc1 : (0 : Int32).toInt = 0 := ti_0; omega) (by have zz0_15 : (f 0 15).toInt = v_3.toInt := (congrArg Int32.toInt (show f 0 15 = v_3 from ev_3.symm)); exact ⟨by omega, by omega⟩) (by decide) (by have kc0 : (0 : Int32).toInt = 0 := ti_0; have kc1 : (0 : Int32).toInt = 0 := ti_0; have zz0_13 : (f 0 13).toInt = v_5.toInt := (congrArg Int32.toInt (show f 0 13 = v_5 from ev_5.symm)); omega) (by have kc0 : (0 : Int32).toInt = 0 := ti_0; have kc1 : (0 : Int32).toInt = 0 := ti_0; have zz0_16 : (f 0 16).toInt = v_1.toInt := (congrArg Int32.toInt (show f 0 16 = v_1 from ev_1.symm)); omega) (by have kc0 : (0 : Int32).toInt = 0 := ti_0; have kc1 : (0 : Int32).toInt = 0 := ti_0; have zz0_15 : (f 0 15).toInt = v_3.toInt := (congrArg Int32.toInt (show f 0 15 = v_3 from ev_3.symm)); have zz0_16 : (f 0 16).toInt = v_1.toInt := (congrArg Int32.toInt (show f 0 16 = v_1 from ev_1.symm)); omega) hI hF hP hS (lv_sub hl [4, 1, 0] rfl)
          · skip
            have c_203 : 0 ≤ r_199.toInt := (by first | exact (cm_nlt1 ti_0 c) | (have z := bn_nlt c; have k1 : (0 : Int32).toInt = 0 := ti_0; omega))
            refine lv_aload_n hx hb dX12_one_154 rfl (lv_at hl 2 rfl) ?_
            refine lv_dup hx hb dX12_one_155 rfl ?_
            refine sl_gM_0_13_12 (v := v_5) hx hb hts hown hK hP (show f 0 13 = v_5 from ev_5.symm) dX12_one_156 ?_
            refine lv_iconst (v := 1) hx hb dX12_one_159 ic_1 ?_
            refine lv_iadd hx hb dX12_one_160 ?_
            refine lv_topi (fun v_204 ev_204 => ?_)
            have q_205 : v_204.toInt = v_5.toInt + 1 := by rw [ev_204]; first | exact cm_add ti_1 (by omega) (by omega) | (have k1 : (1 : Int32).toInt = 1 := ti_1; exact (bn_addI (by omega) (by omega)).trans (by omega))
            refine sl_pM_0_13_12 (x := v_204) hx hb hts hown hh hA hK hP hS dX12_one_161 (fun f_206 H locs ef_206 hP hS => ?_)
            have hI : sgI loM hiM f_206 := by rw [ef_206]; exact sgI.put hI 0 13 (show 0 ≤ (v_204 : Int32).toInt ∧ (v_204 : Int32).toInt ≤ 120 from ⟨by omega, by omega⟩)
            have hF : sgK WkX12_one_4 f f_206 := sgK.put hF ef_206 (by rfl)
            refine lv_aload_n hx hb dX12_one_164 rfl (lv_at hl 2 rfl) ?_
            refine sl_gM_0_17_12 hx hb hts hown hK hP dX12_one_165 ?_
            refine lv_iload_n hx hb dX12_one_168 rfl (lv_at hl 0 rfl) ?_
            refine sg_iald hx hb hK hP 8 (by decide) 0 rfl rfl (i := r_199) (vp_in_iff.mpr ⟨by omega, by omega⟩) dX12_one_169 ?_
            refine lv_topi (fun v_207 ev_207 => ?_)
            have q_208 : 0 ≤ v_207.toInt ∧ v_207.toInt ≤ 60 := by rw [ev_207]; exact hI 8 _
            have q_209 : (f_206 0 13).toInt = v_204.toInt := (congrArg Int32.toInt (show f_206 0 13 = v_204 from (by rw [ef_206, sg_up_s, sgu_s])))
            have q_210 : (f_206 0 16).toInt = v_1.toInt := (congrArg Int32.toInt (show f_206 0 16 = v_1 from (by rw [ef_206, sg_up_s, sgu_n (by decide)]; exact ev_1.symm)))
            have q_211 : (f_206 0 15).toInt = v_3.toInt := (congrArg Int32.toInt (show f_206 0 15 = v_3 from (by rw [ef_206, sg_up_s, sgu_n (by decide)]; exact ev_3.symm)))
            exact hret _ _ _ _ (v_207) f_206 L Q dX12_one_170 hP hS ⟨⟨hI, hF, rfl, rfl⟩, trivial, (by omega), (by omega), (by omega), (Eq.trans (Eq.symm (hs.trans ((if_neg (Int.not_lt.mpr c_203)).trans (spl_e ev_204 (spl_e ef_206 (spl_e ev_207 rfl)))))) hsp)⟩
        · skip
          have c_195 : r_96.toInt = 40 := (by first | exact (cm_eq1 ti_40 c) | (have z := Int32.toInt_inj.mpr c; have k1 : (40 : Int32).toInt = 40 := ti_40; omega))
          refine lv_aload_n hx hb dX12_one_32 rfl (lv_at hl 1 rfl) ?_
          have c_213 : v_1 = 4 := Int32.toInt_inj.mp (by have k9 : (4 : Int32).toInt = 4 := ti_4; omega)
          refine sl_gM_0_16_12 (v := 4) hx hb hts hown hK hP (show f 0 16 = 4 from (Eq.trans ev_1.symm c_213)) dX12_one_33 ?_
          refine lv_bipush (v := 6) hx hb dX12_one_36 bp_6 ?_
          refine lv_icmp_ne (tgt := 46) hx hb dX12_one_38 (by decide) (fun c => ?_) (fun c => absurd c (by decide))
          refine lv_aload_n hx hb dX12_one_46 rfl (lv_at hl 1 rfl) ?_
          refine lv_dup hx hb dX12_one_47 rfl ?_
          refine sl_gM_0_16_12 (v := 4) hx hb hts hown hK hP (show f 0 16 = 4 from (Eq.trans ev_1.symm c_213)) dX12_one_48 ?_
          refine lv_iconst (v := 1) hx hb dX12_one_51 ic_1 ?_
          refine lv_iadd hx hb dX12_one_52 ?_
          refine W.eq (g2 := F0 m 53 ls [.int 5, .ref (h 0)]) (by rw [show (4 + 1 : Int32) = 5 from by decide]) ?_
          refine sl_pM_0_16_12 (x := 5) hx hb hts hown hh hA hK hP hS dX12_one_53 (fun f_214 H locs ef_214 hP hS => ?_)
          have hI : sgI loM hiM f_214 := by rw [ef_214]; exact sgI.put hI 0 16 (show 0 ≤ (5 : Int32).toInt ∧ (5 : Int32).toInt ≤ 6 from by decide)
          have hF : sgK WkX12_one_4 f f_214 := sgK.put hF ef_214 (by rfl)
          refine lv_aload_n hx hb dX12_one_56 rfl (lv_at hl 1 rfl) ?_
          refine lv_dup hx hb dX12_one_57 rfl ?_
          refine sl_gM_0_13_12 (v := v_5) hx hb hts hown hK hP (show f_214 0 13 = v_5 from (by rw [ef_214, sg_up_s, sgu_n (by decide)]; exact ev_5.symm)) dX12_one_58 ?_
          refine lv_iconst (v := 1) hx hb dX12_one_61 ic_1 ?_
          refine lv_iadd hx hb dX12_one_62 ?_
          refine lv_topi (fun v_215 ev_215 => ?_)
          have q_216 : v_215.toInt = v_5.toInt + 1 := by rw [ev_215]; first | exact cm_add ti_1 (by omega) (by omega) | (have k1 : (1 : Int32).toInt = 1 := ti_1; exact (bn_addI (by omega) (by omega)).trans (by omega))
          refine sl_pM_0_13_12 (x := v_215) hx hb hts hown hh hA hK hP hS dX12_one_63 (fun f_217 H locs ef_217 hP hS => ?_)
          have hI : sgI loM hiM f_217 := by rw [ef_217]; exact sgI.put hI 0 13 (show 0 ≤ (v_215 : Int32).toInt ∧ (v_215 : Int32).toInt ≤ 120 from ⟨by omega, by omega⟩)
          have hF : sgK WkX12_one_4 f f_217 := sgK.put hF ef_217 (by rfl)
          refine lv_iload_n hx hb dX12_one_66 rfl (lv_at hl 0 rfl) ?_
          refine lv_bipush (v := 40) hx hb dX12_one_67 bp_40 ?_
          refine lv_icmp_ne (tgt := 79) hx hb dX12_one_69 (by decide) (fun c => ?_) (fun c => ?_)
          · skip
            exfalso; have c_218 : r_96.toInt ≠ 40 := (by first | exact (cm_ne1 ti_40 c) | (have z := bn_ne c; have k1 : (40 : Int32).toInt = 40 := ti_40; omega)); first | exact absurd (by assumption) c_218 | omega
          · skip
            have c_219 : r_96.toInt = 40 := (by first | exact (cm_eq1 ti_40 c) | (have z := Int32.toInt_inj.mpr c; have k1 : (40 : Int32).toInt = 40 := ti_40; omega))
            refine lv_aload_n hx hb dX12_one_72 rfl (lv_at hl 1 rfl) ?_
            have q_220 : (f_217 0 16).toInt = 5 := (congrArg Int32.toInt (show f_217 0 16 = 5 from (by rw [ef_217, sg_up_s, sgu_n (by decide)]; exact (by rw [ef_214, sg_up_s, sgu_s])))).trans (by decide)
            have q_221 : (f_217 0 15).toInt = v_3.toInt := (congrArg Int32.toInt (show f_217 0 15 = v_3 from (by rw [ef_217, sg_up_s, sgu_n (by decide)]; exact (by rw [ef_214, sg_up_s, sgu_n (by decide)]; exact ev_3.symm))))
            have q_223 : (f_217 0 13).toInt = v_215.toInt := (congrArg Int32.toInt (show f_217 0 13 = v_215 from (by rw [ef_217, sg_up_s, sgu_s])))
            refine sg_calli (va_runV (As := []) (rest := []) ⟨hx, hb, hml, hown, hts⟩ (kX12_either_5 l D ca za h hh f_217 L Q hI (by omega) (by omega) H.size) (sl_c12_either_12_0_0_272_12 hts ⟨Nat.le_of_ble_eq_true rfl, Nat.le_of_ble_eq_true rfl⟩) (sl_vM_0 hA hK hP hS hZ) rfl rfl hl.1 rfl (lv_room (Nat.le_of_ble_eq_true rfl)) dX12_one_73 ⟨Nat.le_refl _, Nat.le_refl _⟩) hA hS (fun r_227 f_224 L_225 Q_226 H locs hq hP hS => ?_)
            obtain ⟨⟨hI, hk_f_224, eL9, eQ9⟩, hq, p_228, p_229, p_230, u_231⟩ := hq
            rw [eL9, eQ9] at hP; clear eL9 eQ9
            have hF : sgK WkX12_one_4 f f_224 := sgK.tr hF hk_f_224 (by decide +kernel)
            obtain ⟨v_232, ev_232⟩ : ∃ z : Int32, z = f_224 0 13 := ⟨_, rfl⟩
            have q_233 : 0 ≤ v_232.toInt ∧ v_232.toInt ≤ 120 := by rw [ev_232]; exact hI 0 13
            have q_234 : (f_224 0 13).toInt = v_232.toInt := (congrArg Int32.toInt (show f_224 0 13 = v_232 from ev_232.symm))
            obtain ⟨v_235, ev_235⟩ : ∃ z : Int32, z = f_224 0 16 := ⟨_, rfl⟩
            have q_236 : 0 ≤ v_235.toInt ∧ v_235.toInt ≤ 6 := by rw [ev_235]; exact hI 0 16
            have q_237 : (f_224 0 16).toInt = v_235.toInt := (congrArg Int32.toInt (show f_224 0 16 = v_235 from ev_235.symm))
            obtain ⟨v_238, ev_238⟩ : ∃ z : Int32, z = f_224 0 15 := ⟨_, rfl⟩
            have q_239 : (-1) ≤ v_238.toInt ∧ v_238.toInt ≤ 120 := by rw [ev_238]; exact hI 0 15
            have q_240 : (f_224 0 15).toInt = v_238.toInt := (congrArg Int32.toInt (show f_224 0 15 = v_238 from ev_238.symm))
            refine lv_goto (tgt := 83) hx hb dX12_one_76 (by decide) ?_
            refine lv_istore_n (lv' := [(2, .int r_227), (1, .int r_96), (0, .ref (h 0))]) hx hb dX12_one_83 rfl hl (by decide) rfl (fun ls hl => ?_)
            refine lv_iload_n hx hb dX12_one_84 rfl (lv_at hl 1 rfl) ?_
            refine lv_bipush (v := 40) hx hb dX12_one_85 bp_40 ?_
            refine lv_icmp_ne (tgt := 104) hx hb dX12_one_87 (by decide) (fun c => ?_) (fun c => ?_)
            · skip
              exfalso; have c_242 : r_96.toInt ≠ 40 := (by first | exact (cm_ne1 ti_40 c) | (have z := bn_ne c; have k1 : (40 : Int32).toInt = 40 := ti_40; omega)); first | exact absurd (by assumption) c_242 | omega
            · skip
              have c_243 : r_96.toInt = 40 := (by first | exact (cm_eq1 ti_40 c) | (have z := Int32.toInt_inj.mpr c; have k1 : (40 : Int32).toInt = 40 := ti_40; omega))
              refine lv_aload_n hx hb dX12_one_90 rfl (lv_at hl 2 rfl) ?_
              refine lv_bipush (v := 41) hx hb dX12_one_91 bp_41 ?_
              have q_246 : (f_224 0 14).toInt = v_90.toInt := (congrArg Int32.toInt (show f_224 0 14 = v_90 from ((hk_f_224 0 14 (by decide)).trans (by rw [ef_217, sg_up_s, sgu_n (by decide)]; exact (by rw [ef_214, sg_up_s, sgu_n (by decide)]; exact ev_90.symm)))))
              refine sg_calli (va_runV (As := [.int 41]) (rest := []) ⟨hx, hb, hml, hown, hts⟩ (kX12_takes_41 l D ca za h hh f_224 L Q hI H.size) (sl_c12_takes_1_0_0_20_12 hts ⟨Nat.le_of_ble_eq_true rfl, Nat.le_of_ble_eq_true rfl⟩) (sl_vM_0 hA hK hP hS hZ) rfl rfl hl.1 rfl (lv_room (Nat.le_of_ble_eq_true rfl)) dX12_one_93 ⟨Nat.le_refl _, Nat.le_refl _⟩) hA hS (fun r_252 f_249 L_250 Q_251 H locs hq hP hS => ?_)
              obtain ⟨⟨hI, hk_f_249, eL9, eQ9⟩, hq, u_253⟩ := hq
              rw [eL9, eQ9] at hP; clear eL9 eQ9
              have hF : sgK WkX12_one_4 f f_249 := sgK.tr hF hk_f_249 (by decide +kernel)
              obtain ⟨v_254, ev_254⟩ : ∃ z : Int32, z = f_249 0 13 := ⟨_, rfl⟩
              replace hs := hs.trans ((if_pos c_195).trans (spl_e ef_214 (spl_e ev_215 (spl_e ef_217 (spl2_e u_231 (spl_e ev_232 (spl_e ev_235 (spl_e ev_238 (spl2_e u_253 (spl_e ev_254 rfl))))))))))
              have q_255 : 0 ≤ v_254.toInt ∧ v_254.toInt ≤ 120 := by rw [ev_254]; exact hI 0 13
              have q_256 : (f_249 0 13).toInt = v_254.toInt := (congrArg Int32.toInt (show f_249 0 13 = v_254 from ev_254.symm))
              have k_258 : (41 : Int32).toInt = 41 := by decide
              rcases hq with ⟨rfl, hq⟩ | ⟨rfl, hq⟩
              · skip
                have hc_259 := hq
                refine lv_if_ne (tgt := 104) hx hb dX12_one_96 (by decide) (fun c => ?_) (fun c => absurd c (by decide))
                refine lv_aload_n hx hb dX12_one_104 rfl (lv_at hl 2 rfl) ?_
                refine lv_dup hx hb dX12_one_105 rfl ?_
                refine sl_gM_0_16_12 (v := v_235) hx hb hts hown hK hP (show f_249 0 16 = v_235 from ((hk_f_249 0 16 (by decide)).trans ev_235.symm)) dX12_one_106 ?_
                refine lv_iconst (v := 1) hx hb dX12_one_109 ic_1 ?_
                refine lv_isub hx hb dX12_one_110 ?_
                refine lv_topi (fun v_260 ev_260 => ?_)
                have q_261 : v_260.toInt = v_235.toInt - 1 := by rw [ev_260]; first | exact cm_sub ti_1 (by omega) (by omega) | (have k1 : (1 : Int32).toInt = 1 := ti_1; exact (bn_subI (by omega) (by omega)).trans (by omega))
                refine sl_pM_0_16_12 (x := v_260) hx hb hts hown hh hA hK hP hS dX12_one_111 (fun f_262 H locs ef_262 hP hS => ?_)
                have hI : sgI loM hiM f_262 := by rw [ef_262]; exact sgI.put hI 0 16 (show 0 ≤ (v_260 : Int32).toInt ∧ (v_260 : Int32).toInt ≤ 6 from ⟨by omega, by omega⟩)
                have hF : sgK WkX12_one_4 f f_262 := sgK.put hF ef_262 (by rfl)
                refine lv_iload_n hx hb dX12_one_114 rfl (lv_at hl 1 rfl) ?_
                refine lv_bipush (v := 40) hx hb dX12_one_115 bp_40 ?_
                refine lv_icmp_ne (tgt := 124) hx hb dX12_one_117 (by decide) (fun c => ?_) (fun c => ?_)
                · skip
                  exfalso; have c_263 : r_96.toInt ≠ 40 := (by first | exact (cm_ne1 ti_40 c) | (have z := bn_ne c; have k1 : (40 : Int32).toInt = 40 := ti_40; omega)); first | exact absurd (by assumption) c_263 | omega
                · skip
                  have c_264 : r_96.toInt = 40 := (by first | exact (cm_eq1 ti_40 c) | (have z := Int32.toInt_inj.mpr c; have k1 : (40 : Int32).toInt = 40 := ti_40; omega))
                  refine lv_iload_n hx hb dX12_one_120 rfl (lv_at hl 0 rfl) ?_
                  refine lv_goto (tgt := 144) hx hb dX12_one_121 (by decide) ?_
                  have q_265 : (f_262 0 13).toInt = v_254.toInt := (congrArg Int32.toInt (show f_262 0 13 = v_254 from (by rw [ef_262, sg_up_s, sgu_n (by decide)]; exact ev_254.symm)))
                  have q_266 : (f_262 0 16).toInt = v_260.toInt := (congrArg Int32.toInt (show f_262 0 16 = v_260 from (by rw [ef_262, sg_up_s, sgu_s])))
                  have q_267 : (f_262 0 15).toInt = v_238.toInt := (congrArg Int32.toInt (show f_262 0 15 = v_238 from (by rw [ef_262, sg_up_s, sgu_n (by decide)]; exact ((hk_f_249 0 15 (by decide)).trans ev_238.symm))))
                  exact hret _ _ _ _ (r_227) f_262 L Q dX12_one_144 hP hS ⟨⟨hI, hF, rfl, rfl⟩, trivial, (by omega), (by omega), (by omega), (Eq.trans (Eq.symm (hs.trans ((if_pos rfl).trans (spl_e ev_260 (spl_e ef_262 rfl))))) hsp)⟩
              · skip
                have hc_259 := hq
                refine lv_if_ne (tgt := 104) hx hb dX12_one_96 (by decide) (fun c => absurd c (by decide)) (fun c => ?_)
                refine lv_aload_n hx hb dX12_one_99 rfl (lv_at hl 2 rfl) ?_
                refine sg_calli (va_runV (As := []) (rest := []) ⟨hx, hb, hml, hown, hts⟩ (kX12_wrong l D ca za h hh f_249 L Q hI H.size) (sl_c12_wrong_0_0_0_0_12 hts ⟨Nat.le_of_ble_eq_true rfl, Nat.le_of_ble_eq_true rfl⟩) (sl_vM_0 hA hK hP hS hZ) rfl rfl hl.1 rfl (lv_room (Nat.le_of_ble_eq_true rfl)) dX12_one_100 ⟨Nat.le_refl _, Nat.le_refl _⟩) hA hS (fun r_272 f_269 L_270 Q_271 H locs hq hP hS => ?_)
                obtain ⟨⟨hI, hk_f_269, eL9, eQ9⟩, hq, p_273, u_274⟩ := hq
                rw [eL9, eQ9] at hP; clear eL9 eQ9
                have hF : sgK WkX12_one_4 f f_269 := sgK.tr hF hk_f_269 (by decide +kernel)
                obtain ⟨v_275, ev_275⟩ : ∃ z : Int32, z = f_269 0 15 := ⟨_, rfl⟩
                have q_276 : (-1) ≤ v_275.toInt ∧ v_275.toInt ≤ 120 := by rw [ev_275]; exact hI 0 15
                have q_277 : (f_269 0 15).toInt = v_275.toInt := (congrArg Int32.toInt (show f_269 0 15 = v_275 from ev_275.symm))
                obtain rfl : r_272 = 0 := Int32.toInt_inj.mp (by have k9 : (0 : Int32).toInt = 0 := ti_0; omega)
                have q_278 : (f_269 0 13).toInt = v_254.toInt := (congrArg Int32.toInt (show f_269 0 13 = v_254 from ((hk_f_269 0 13 (by decide)).trans ev_254.symm)))
                have q_279 : (f_269 0 16).toInt = v_235.toInt := (congrArg Int32.toInt (show f_269 0 16 = v_235 from ((hk_f_269 0 16 (by decide)).trans ((hk_f_249 0 16 (by decide)).trans ev_235.symm))))
                have k99 : (0 : Int32).toInt = 0 := ti_0
                exact hret _ _ _ _ (0) f_269 L Q dX12_one_103 hP hS ⟨⟨hI, hF, rfl, rfl⟩, trivial, (by omega), (by omega), (by omega), (Eq.trans (Eq.symm (hs.trans ((if_neg (by decide)).trans (spl2_e u_274 (spl_e ev_275 rfl))))) hsp)⟩
  · skip
    have c_88 : 0 ≤ v_3.toInt := (by first | exact (cm_nlt1 ti_0 c) | (have z := bn_nlt c; have k1 : (0 : Int32).toInt = 0 := ti_0; omega))
    refine lv_iconst (v := 0) hx hb dX12_one_7 ic_0 ?_
    have q_282 : (f 0 13).toInt = v_5.toInt := (congrArg Int32.toInt (show f 0 13 = v_5 from ev_5.symm))
    have q_283 : (f 0 16).toInt = v_1.toInt := (congrArg Int32.toInt (show f 0 16 = v_1 from ev_1.symm))
    have q_284 : (f 0 15).toInt = v_3.toInt := (congrArg Int32.toInt (show f 0 15 = v_3 from ev_3.symm))
    have k99 : (0 : Int32).toInt = 0 := ti_0
    exact hret _ _ _ _ (0) f L Q dX12_one_8 hP hS ⟨⟨hI, hF, rfl, rfl⟩, trivial, (by omega), (by omega), (by omega), (Eq.trans (Eq.symm (hs.trans ((if_neg (Int.not_lt.mpr c_88)).trans rfl))) hsp)⟩

abbrev WkX12_product_4 : List (Nat × Nat × Option Nat) := [(0, 0, some 13), (0, 0, some 15), (0, 0, some 16)]
set_option maxHeartbeats 4000000 in
set_option maxRecDepth 100000 in
theorem kX12_product_4 (l : Launch) (D : va_G) (ca : Nat → ClassId) (za h : Nat → Nat) (hh : sgH 26 h) (f : sg_F) (L : sg_L) (Q : sg_Q) (hI : sgI loM hiM f) (p0 : 4 ≤ (f 0 16).toInt) (p1 : 0 ≤ (f 0 15).toInt ∨ (f 0 16).toInt = 4) (sz : Nat) : Met l yX12_product gwX12_product { frames := 14, cells := 0, slots := 0, locals := 318 } (sgP D vwCl (tyX ca) 26 h (eM ca h) zcM za f L Q sz [.ref (h 0)]) (sgQi D vwCl 26 h (eM ca h) sz (fun r f1 L1 Q1 => ((sgI loM hiM f1 ∧ sgK WkX12_product_4 f f1 ∧ L1 = L ∧ Q1 = Q) ∧ True ∧ ((f 0 13).toInt ≤ (f1 0 13).toInt) ∧ (4 ≤ (f1 0 16).toInt) ∧ (0 ≤ (f1 0 15).toInt ∨ (f1 0 16).toInt = 4) ∧ (r, f1) = sX12_product_4 f L))) 0 0 (sgA 26 h sz) := by
  refine sg_ofWi (cc := cX12_product) (maxL := 4) RX12 (by decide) rfl rfl (Nat.le_of_ble_eq_true rfl) ?_
  intro p e s m below meth cd Qz ls hx hb hml hown hts hK hZ hP hS hl hret
  have hA := sgY.self (n := 26) (h := h) (sz := s.heap.size)
  have hl : lv_has ls 4 [(0, .ref (h 0))] := hl
  obtain ⟨H, hH⟩ : ∃ z : Heap, z = s.heap := ⟨_, rfl⟩
  obtain ⟨locs, hlo⟩ : ∃ z : List Loc, z = [] := ⟨_, rfl⟩
  have hP : va_P D vwCl (sgw 26 h (eM ca h) f L Q) H := by rw [hH]; exact hP
  have hS : va_S (sgA 26 h s.heap.size) s.heap H locs := by rw [hH, hlo]; exact hS
  suffices hgo : W p l e ({ frames := 14, cells := 0, slots := 0, locals := 318 }) s m ([.ref (h 0)] : List Value).toArray below meth cd H locs 0 0 Qz (F0 m 0 ls []) by rw [hH, hlo] at hgo; exact hgo
  clear hH hlo
  obtain ⟨sp, hsp⟩ : ∃ z : Int32 × sg_F, z = sX12_product_4 f L := ⟨_, rfl⟩
  have hs : sp = sX12_product_4 f L := hsp
  obtain ⟨v_1, ev_1⟩ : ∃ z : Int32, z = f 0 16 := ⟨_, rfl⟩
  have q_2 : 0 ≤ v_1.toInt ∧ v_1.toInt ≤ 6 := by rw [ev_1]; exact hI 0 16
  obtain ⟨v_3, ev_3⟩ : ∃ z : Int32, z = f 0 15 := ⟨_, rfl⟩
  have q_4 : (-1) ≤ v_3.toInt ∧ v_3.toInt ≤ 120 := by rw [ev_3]; exact hI 0 15
  obtain ⟨v_5, ev_5⟩ : ∃ z : Int32, z = f 0 13 := ⟨_, rfl⟩
  have q_6 : 0 ≤ v_5.toInt ∧ v_5.toInt ≤ 120 := by rw [ev_5]; exact hI 0 13
  obtain ⟨v_7, ev_7⟩ : ∃ z : Int32, z = f 0 14 := ⟨_, rfl⟩
  have q_8 : 0 ≤ v_7.toInt ∧ v_7.toInt ≤ 120 := by rw [ev_7]; exact hI 0 14
  have o_9 : (f 0 16).toInt = v_1.toInt := (congrArg Int32.toInt (show f 0 16 = v_1 from ev_1.symm))
  have o_10 : (f 0 15).toInt = v_3.toInt := (congrArg Int32.toInt (show f 0 15 = v_3 from ev_3.symm))
  have o_11 : (f 0 13).toInt = v_5.toInt := (congrArg Int32.toInt (show f 0 13 = v_5 from ev_5.symm))
  have o_12 : (f 0 14).toInt = v_7.toInt := (congrArg Int32.toInt (show f 0 14 = v_7 from ev_7.symm))
  have hF : sgK WkX12_product_4 f f := sgK.rf
  have loop_10 : ∀ (n_10 : Nat) (y1_10 : Int32) (y2_10 : Int32) (fp_10 : sg_F) (H : Heap) (locs : List Loc) (ls : Array Slot), sp = sX12_product_4_l10 n_10 y1_10 y2_10 fp_10 L → 120 - (fp_10 0 13).toInt < (n_10 : Int) → 0 ≤ y2_10.toInt ∧ y2_10.toInt ≤ 255 → (f 0 13).toInt ≤ (fp_10 0 13).toInt → 4 ≤ (fp_10 0 16).toInt → 0 ≤ (fp_10 0 15).toInt ∨ (fp_10 0 16).toInt = 4 → y2_10.toInt = 0 ∨ (fp_10 0 13).toInt < (fp_10 0 14).toInt → sgI loM hiM fp_10 → sgK WkX12_product_4 f fp_10 → va_P D vwCl (sgw 26 h (eM ca h) fp_10 L Q) H → va_S (sgA 26 h s.heap.size) s.heap H locs → lv_has ls 4 [(0, .ref (h 0)), (1, .int y1_10), (2, .int y2_10)] → W p l e ({ frames := 14, cells := 0, slots := 0, locals := 318 }) s m ([.ref (h 0)] : List Value).toArray below meth cd H locs 0 0 Qz (F0 m 10 ls []) := by
    intro n_10
    induction n_10 with
    | zero => intro y1_10 y2_10 fp_10 H locs ls hs hm_10 hy0_10 hg0_10 hg1_10 hg2_10 hg3_10 hI hF hP hS hl; have zb := (show 0 ≤ (fp_10 0 13).toInt ∧ (fp_10 0 13).toInt ≤ 120 from hI 0 13); exact absurd hm_10 (by omega)
    | succ n_10 ih_10 =>
      intro y1_10 y2_10 fp_10 H locs ls hs hm_10 hy0_10 hg0_10 hg1_10 hg2_10 hg3_10 hI hF hP hS hl
      have hs : sp = sX12_product_4_h10 (sX12_product_4_l10 n_10) y1_10 y2_10 fp_10 L := hs
      obtain ⟨v_13, ev_13⟩ : ∃ z : Int32, z = fp_10 0 13 := ⟨_, rfl⟩
      have q_14 : 0 ≤ v_13.toInt ∧ v_13.toInt ≤ 120 := by rw [ev_13]; exact hI 0 13
      have q_15 : (fp_10 0 13).toInt = v_13.toInt := by rw [ev_13]
      obtain ⟨v_16, ev_16⟩ : ∃ z : Int32, z = fp_10 0 16 := ⟨_, rfl⟩
      have q_17 : 0 ≤ v_16.toInt ∧ v_16.toInt ≤ 6 := by rw [ev_16]; exact hI 0 16
      have q_18 : (fp_10 0 16).toInt = v_16.toInt := by rw [ev_16]
      obtain ⟨v_19, ev_19⟩ : ∃ z : Int32, z = fp_10 0 15 := ⟨_, rfl⟩
      have q_20 : (-1) ≤ v_19.toInt ∧ v_19.toInt ≤ 120 := by rw [ev_19]; exact hI 0 15
      have q_21 : (fp_10 0 15).toInt = v_19.toInt := by rw [ev_19]
      obtain ⟨v_22, ev_22⟩ : ∃ z : Int32, z = fp_10 0 14 := ⟨_, rfl⟩
      replace hs := hs.trans (spl_e ev_13 (spl_e ev_16 (spl_e ev_19 (spl_e ev_22 rfl))))
      have q_23 : 0 ≤ v_22.toInt ∧ v_22.toInt ≤ 120 := by rw [ev_22]; exact hI 0 14
      have q_24 : (fp_10 0 14).toInt = v_22.toInt := by rw [ev_22]
      refine lv_aload_n hx hb dX12_product_10 rfl (lv_at hl 0 rfl) ?_
      refine sl_gM_0_15_12 (v := v_19) hx hb hts hown hK hP (show fp_10 0 15 = v_19 from ev_19.symm) dX12_product_11 ?_
      refine lv_if_ge (tgt := 94) hx hb dX12_product_14 (by decide) (fun c => ?_) (fun c => ?_)
      · skip
        have c_25 : 0 ≤ v_19.toInt := (by first | exact (cm_le0 ti_0 c) | (have z := bn_le c; have k1 : (0 : Int32).toInt = 0 := ti_0; omega))
        refine lv_iload_n hx hb dX12_product_94 rfl (lv_at hl 1 rfl) ?_
        exact hret _ _ _ _ (y1_10) fp_10 L Q dX12_product_95 hP hS ⟨⟨hI, hF, rfl, rfl⟩, trivial, (by omega), (by omega), (by omega), (Eq.trans (Eq.symm (hs.trans ((if_neg (Int.not_lt.mpr c_25)).trans rfl))) hsp)⟩
      · skip
        have c_26 : v_19.toInt < 0 := (by first | exact (cm_nle0 ti_0 c) | (have z := bn_nle c; have k1 : (0 : Int32).toInt = 0 := ti_0; omega))
        replace hs := hs.trans ((if_pos c_26).trans rfl)
        refine lv_iload_n hx hb dX12_product_17 rfl (lv_at hl 2 rfl) ?_
        refine lv_bipush (v := 42) hx hb dX12_product_18 bp_42 ?_
        refine lv_icmp_eq (tgt := 35) hx hb dX12_product_20 (by decide) (fun c => ?_) (fun c => ?_)
        · skip
          have c_31 : y2_10.toInt = 42 := (by first | exact (cm_eq1 ti_42 c) | (have z := Int32.toInt_inj.mpr c; have k1 : (42 : Int32).toInt = 42 := ti_42; omega))
          refine lv_aload_n hx hb dX12_product_35 rfl (lv_at hl 0 rfl) ?_
          refine lv_dup hx hb dX12_product_36 rfl ?_
          refine sl_gM_0_13_12 (v := v_13) hx hb hts hown hK hP (show fp_10 0 13 = v_13 from ev_13.symm) dX12_product_37 ?_
          refine lv_iconst (v := 1) hx hb dX12_product_40 ic_1 ?_
          refine lv_iadd hx hb dX12_product_41 ?_
          refine lv_topi (fun v_33 ev_33 => ?_)
          have q_34 : v_33.toInt = v_13.toInt + 1 := by rw [ev_33]; first | exact cm_add ti_1 (by omega) (by omega) | (have k1 : (1 : Int32).toInt = 1 := ti_1; exact (bn_addI (by omega) (by omega)).trans (by omega))
          refine sl_pM_0_13_12 (x := v_33) hx hb hts hown hh hA hK hP hS dX12_product_42 (fun f_35 H locs ef_35 hP hS => ?_)
          have hI : sgI loM hiM f_35 := by rw [ef_35]; exact sgI.put hI 0 13 (show 0 ≤ (v_33 : Int32).toInt ∧ (v_33 : Int32).toInt ≤ 120 from ⟨by omega, by omega⟩)
          have hF : sgK WkX12_product_4 f f_35 := sgK.put hF ef_35 (by rfl)
          refine lv_aload_n hx hb dX12_product_45 rfl (lv_at hl 0 rfl) ?_
          have q_36 : (f_35 0 16).toInt = v_16.toInt := (congrArg Int32.toInt (show f_35 0 16 = v_16 from (by rw [ef_35, sg_up_s, sgu_n (by decide)]; exact ev_16.symm)))
          have q_37 : (f_35 0 15).toInt = v_19.toInt := (congrArg Int32.toInt (show f_35 0 15 = v_19 from (by rw [ef_35, sg_up_s, sgu_n (by decide)]; exact ev_19.symm)))
          have q_39 : (f_35 0 13).toInt = v_33.toInt := (congrArg Int32.toInt (show f_35 0 13 = v_33 from (by rw [ef_35, sg_up_s, sgu_s])))
          refine sg_calli (va_runV (As := []) (rest := []) ⟨hx, hb, hml, hown, hts⟩ (kX12_one_4 l D ca za h hh f_35 L Q hI (by omega) (by omega) H.size) (sl_c12_one_13_0_0_294_12 hts ⟨Nat.le_of_ble_eq_true rfl, Nat.le_of_ble_eq_true rfl⟩) (sl_vM_0 hA hK hP hS hZ) rfl rfl hl.1 rfl (lv_room (Nat.le_of_ble_eq_true rfl)) dX12_product_46 ⟨Nat.le_refl _, Nat.le_refl _⟩) hA hS (fun r_43 f_40 L_41 Q_42 H locs hq hP hS => ?_)
          obtain ⟨⟨hI, hk_f_40, eL9, eQ9⟩, hq, p_44, p_45, p_46, u_47⟩ := hq
          rw [eL9, eQ9] at hP; clear eL9 eQ9
          have hF : sgK WkX12_product_4 f f_40 := sgK.tr hF hk_f_40 (by decide +kernel)
          obtain ⟨v_48, ev_48⟩ : ∃ z : Int32, z = f_40 0 13 := ⟨_, rfl⟩
          have q_49 : 0 ≤ v_48.toInt ∧ v_48.toInt ≤ 120 := by rw [ev_48]; exact hI 0 13
          have q_50 : (f_40 0 13).toInt = v_48.toInt := (congrArg Int32.toInt (show f_40 0 13 = v_48 from ev_48.symm))
          obtain ⟨v_51, ev_51⟩ : ∃ z : Int32, z = f_40 0 16 := ⟨_, rfl⟩
          have q_52 : 0 ≤ v_51.toInt ∧ v_51.toInt ≤ 6 := by rw [ev_51]; exact hI 0 16
          have q_53 : (f_40 0 16).toInt = v_51.toInt := (congrArg Int32.toInt (show f_40 0 16 = v_51 from ev_51.symm))
          obtain ⟨v_54, ev_54⟩ : ∃ z : Int32, z = f_40 0 15 := ⟨_, rfl⟩
          have q_55 : (-1) ≤ v_54.toInt ∧ v_54.toInt ≤ 120 := by rw [ev_54]; exact hI 0 15
          have q_56 : (f_40 0 15).toInt = v_54.toInt := (congrArg Int32.toInt (show f_40 0 15 = v_54 from ev_54.symm))
          refine lv_istore_n (lv' := [(3, .int r_43), (0, .ref (h 0)), (1, .int y1_10), (2, .int y2_10)]) hx hb dX12_product_49 rfl hl (by decide) rfl (fun ls hl => ?_)
          refine lv_iload_n hx hb dX12_product_50 rfl (lv_at hl 3 rfl) ?_
          refine lv_bipush (v := 42) hx hb dX12_product_51 bp_42 ?_
          refine lv_icmp_ne (tgt := 62) hx hb dX12_product_53 (by decide) (fun c => ?_) (fun c => ?_)
          · skip
            exfalso; have c_58 : y2_10.toInt ≠ 42 := (by first | exact (cm_ne1 ti_42 c) | (have z := bn_ne c; have k1 : (42 : Int32).toInt = 42 := ti_42; omega)); first | exact absurd (by assumption) c_58 | omega
          · skip
            have c_59 : y2_10.toInt = 42 := (by first | exact (cm_eq1 ti_42 c) | (have z := Int32.toInt_inj.mpr c; have k1 : (42 : Int32).toInt = 42 := ti_42; omega))
            refine lv_iload_n hx hb dX12_product_56 rfl (lv_at hl 2 rfl) ?_
            refine lv_iload_n hx hb dX12_product_57 rfl (lv_at hl 0 rfl) ?_
            refine lv_imul hx hb dX12_product_58 ?_
            refine lv_topi (fun v_60 ev_60 => ?_)
            refine lv_goto (tgt := 85) hx hb dX12_product_59 (by decide) ?_
            refine lv_istore_n (lv' := [(1, .int v_60), (3, .int r_43), (0, .ref (h 0)), (2, .int y2_10)]) hx hb dX12_product_85 rfl hl (by decide) rfl (fun ls hl => ?_)
            refine lv_aload_n hx hb dX12_product_86 rfl (lv_at hl 2 rfl) ?_
            have q_62 : (f_40 0 14).toInt = v_22.toInt := (congrArg Int32.toInt (show f_40 0 14 = v_22 from ((hk_f_40 0 14 (by decide)).trans (by rw [ef_35, sg_up_s, sgu_n (by decide)]; exact ev_22.symm))))
            refine sg_calli (va_runV (As := []) (rest := []) ⟨hx, hb, hml, hown, hts⟩ (kX12_byteAt l D ca za h hh f_40 L Q hI H.size) (sl_c12_byteAt_0_0_0_0_12 hts ⟨Nat.le_of_ble_eq_true rfl, Nat.le_of_ble_eq_true rfl⟩) (sl_vM_0 hA hK hP hS hZ) rfl rfl hl.1 rfl (lv_room (Nat.le_of_ble_eq_true rfl)) dX12_product_87 ⟨Nat.le_refl _, Nat.le_refl _⟩) hA hS (fun r_66 f_63 L_64 Q_65 H locs hq hP hS => ?_)
            obtain ⟨⟨ef9, eL9, eQ9⟩, hq, p_67, u_68⟩ := hq
            rw [ef9, eL9, eQ9] at hP; clear ef9 eL9 eQ9
            refine lv_istore_n (lv' := [(2, .int r_66), (1, .int v_60), (3, .int r_43), (0, .ref (h 0))]) hx hb dX12_product_90 rfl hl (by decide) rfl (fun ls hl => ?_)
            refine lv_goto (tgt := 10) hx hb dX12_product_91 (by decide) ?_
            exact ih_10 v_60 r_66 f_40 _ _ _ (hs.trans ((if_pos c_31).trans (spl_e ev_33 (spl_e ef_35 (spl2_e u_47 (spl_e ev_48 (spl_e ev_51 (spl_e ev_54 (spl_e ev_60 (spl_e u_68 rfl)))))))))) (by have zz0_13 : (f_40 0 13).toInt = v_48.toInt := (congrArg Int32.toInt (show f_40 0 13 = v_48 from ev_48.symm)); omega) ⟨by omega, by omega⟩ (by have zz0_13 : (f_40 0 13).toInt = v_48.toInt := (congrArg Int32.toInt (show f_40 0 13 = v_48 from ev_48.symm)); omega) (by have zz0_16 : (f_40 0 16).toInt = v_51.toInt := (congrArg Int32.toInt (show f_40 0 16 = v_51 from ev_51.symm)); omega) (by have zz0_15 : (f_40 0 15).toInt = v_54.toInt := (congrArg Int32.toInt (show f_40 0 15 = v_54 from ev_54.symm)); have zz0_16 : (f_40 0 16).toInt = v_51.toInt := (congrArg Int32.toInt (show f_40 0 16 = v_51 from ev_51.symm)); omega) (by have zz0_13 : (f_40 0 13).toInt = v_48.toInt := (congrArg Int32.toInt (show f_40 0 13 = v_48 from ev_48.symm)); have zz0_14 : (f_40 0 14).toInt = v_22.toInt := (congrArg Int32.toInt (show f_40 0 14 = v_22 from ((hk_f_40 0 14 (by decide)).trans (by rw [ef_35, sg_up_s, sgu_n (by decide)]; exact ev_22.symm)))); omega) hI hF hP hS (lv_sub hl [3, 1, 0] rfl)
        · skip
          have c_32 : y2_10.toInt ≠ 42 := (by first | exact (cm_ne1 ti_42 c) | (have z := bn_ne c; have k1 : (42 : Int32).toInt = 42 := ti_42; omega))
          replace hs := hs.trans ((if_neg c_32).trans rfl)
          refine lv_iload_n hx hb dX12_product_23 rfl (lv_at hl 2 rfl) ?_
          refine lv_bipush (v := 47) hx hb dX12_product_24 bp_47 ?_
          refine lv_icmp_eq (tgt := 35) hx hb dX12_product_26 (by decide) (fun c => ?_) (fun c => ?_)
          · skip
            have c_69 : y2_10.toInt = 47 := (by first | exact (cm_eq1 ti_47 c) | (have z := Int32.toInt_inj.mpr c; have k1 : (47 : Int32).toInt = 47 := ti_47; omega))
            refine lv_aload_n hx hb dX12_product_35 rfl (lv_at hl 0 rfl) ?_
            refine lv_dup hx hb dX12_product_36 rfl ?_
            refine sl_gM_0_13_12 (v := v_13) hx hb hts hown hK hP (show fp_10 0 13 = v_13 from ev_13.symm) dX12_product_37 ?_
            refine lv_iconst (v := 1) hx hb dX12_product_40 ic_1 ?_
            refine lv_iadd hx hb dX12_product_41 ?_
            refine lv_topi (fun v_71 ev_71 => ?_)
            have q_72 : v_71.toInt = v_13.toInt + 1 := by rw [ev_71]; first | exact cm_add ti_1 (by omega) (by omega) | (have k1 : (1 : Int32).toInt = 1 := ti_1; exact (bn_addI (by omega) (by omega)).trans (by omega))
            refine sl_pM_0_13_12 (x := v_71) hx hb hts hown hh hA hK hP hS dX12_product_42 (fun f_73 H locs ef_73 hP hS => ?_)
            have hI : sgI loM hiM f_73 := by rw [ef_73]; exact sgI.put hI 0 13 (show 0 ≤ (v_71 : Int32).toInt ∧ (v_71 : Int32).toInt ≤ 120 from ⟨by omega, by omega⟩)
            have hF : sgK WkX12_product_4 f f_73 := sgK.put hF ef_73 (by rfl)
            refine lv_aload_n hx hb dX12_product_45 rfl (lv_at hl 0 rfl) ?_
            have q_74 : (f_73 0 16).toInt = v_16.toInt := (congrArg Int32.toInt (show f_73 0 16 = v_16 from (by rw [ef_73, sg_up_s, sgu_n (by decide)]; exact ev_16.symm)))
            have q_75 : (f_73 0 15).toInt = v_19.toInt := (congrArg Int32.toInt (show f_73 0 15 = v_19 from (by rw [ef_73, sg_up_s, sgu_n (by decide)]; exact ev_19.symm)))
            have q_77 : (f_73 0 13).toInt = v_71.toInt := (congrArg Int32.toInt (show f_73 0 13 = v_71 from (by rw [ef_73, sg_up_s, sgu_s])))
            refine sg_calli (va_runV (As := []) (rest := []) ⟨hx, hb, hml, hown, hts⟩ (kX12_one_4 l D ca za h hh f_73 L Q hI (by omega) (by omega) H.size) (sl_c12_one_13_0_0_294_12 hts ⟨Nat.le_of_ble_eq_true rfl, Nat.le_of_ble_eq_true rfl⟩) (sl_vM_0 hA hK hP hS hZ) rfl rfl hl.1 rfl (lv_room (Nat.le_of_ble_eq_true rfl)) dX12_product_46 ⟨Nat.le_refl _, Nat.le_refl _⟩) hA hS (fun r_81 f_78 L_79 Q_80 H locs hq hP hS => ?_)
            obtain ⟨⟨hI, hk_f_78, eL9, eQ9⟩, hq, p_82, p_83, p_84, u_85⟩ := hq
            rw [eL9, eQ9] at hP; clear eL9 eQ9
            have hF : sgK WkX12_product_4 f f_78 := sgK.tr hF hk_f_78 (by decide +kernel)
            obtain ⟨v_86, ev_86⟩ : ∃ z : Int32, z = f_78 0 13 := ⟨_, rfl⟩
            have q_87 : 0 ≤ v_86.toInt ∧ v_86.toInt ≤ 120 := by rw [ev_86]; exact hI 0 13
            have q_88 : (f_78 0 13).toInt = v_86.toInt := (congrArg Int32.toInt (show f_78 0 13 = v_86 from ev_86.symm))
            obtain ⟨v_89, ev_89⟩ : ∃ z : Int32, z = f_78 0 16 := ⟨_, rfl⟩
            have q_90 : 0 ≤ v_89.toInt ∧ v_89.toInt ≤ 6 := by rw [ev_89]; exact hI 0 16
            have q_91 : (f_78 0 16).toInt = v_89.toInt := (congrArg Int32.toInt (show f_78 0 16 = v_89 from ev_89.symm))
            obtain ⟨v_92, ev_92⟩ : ∃ z : Int32, z = f_78 0 15 := ⟨_, rfl⟩
            replace hs := hs.trans ((if_pos c_69).trans (spl_e ev_71 (spl_e ef_73 (spl2_e u_85 (spl_e ev_86 (spl_e ev_89 (spl_e ev_92 rfl)))))))
            have q_93 : (-1) ≤ v_92.toInt ∧ v_92.toInt ≤ 120 := by rw [ev_92]; exact hI 0 15
            have q_94 : (f_78 0 15).toInt = v_92.toInt := (congrArg Int32.toInt (show f_78 0 15 = v_92 from ev_92.symm))
            refine lv_istore_n (lv' := [(3, .int r_81), (0, .ref (h 0)), (1, .int y1_10), (2, .int y2_10)]) hx hb dX12_product_49 rfl hl (by decide) rfl (fun ls hl => ?_)
            refine lv_iload_n hx hb dX12_product_50 rfl (lv_at hl 3 rfl) ?_
            refine lv_bipush (v := 42) hx hb dX12_product_51 bp_42 ?_
            refine lv_icmp_ne (tgt := 62) hx hb dX12_product_53 (by decide) (fun c => ?_) (fun c => ?_)
            · skip
              have c_96 : y2_10.toInt ≠ 42 := (by first | exact (cm_ne1 ti_42 c) | (have z := bn_ne c; have k1 : (42 : Int32).toInt = 42 := ti_42; omega))
              refine lv_iload_n hx hb dX12_product_62 rfl (lv_at hl 0 rfl) ?_
              refine lv_if_ne (tgt := 70) hx hb dX12_product_63 (by decide) (fun c => ?_) (fun c => ?_)
              · skip
                have c_98 : r_81.toInt ≠ 0 := (by first | exact (cm_ne1 ti_0 c) | (have z := bn_ne c; have k1 : (0 : Int32).toInt = 0 := ti_0; omega))
                refine lv_iload_n hx hb dX12_product_70 rfl (lv_at hl 3 rfl) ?_
                refine lv_bipush (v := 47) hx hb dX12_product_71 bp_47 ?_
                refine lv_icmp_ne (tgt := 82) hx hb dX12_product_73 (by decide) (fun c => ?_) (fun c => ?_)
                · skip
                  exfalso; have c_100 : y2_10.toInt ≠ 47 := (by first | exact (cm_ne1 ti_47 c) | (have z := bn_ne c; have k1 : (47 : Int32).toInt = 47 := ti_47; omega)); first | exact absurd (by assumption) c_100 | omega
                · skip
                  have c_101 : y2_10.toInt = 47 := (by first | exact (cm_eq1 ti_47 c) | (have z := Int32.toInt_inj.mpr c; have k1 : (47 : Int32).toInt = 47 := ti_47; omega))
                  refine lv_iload_n hx hb dX12_product_76 rfl (lv_at hl 2 rfl) ?_
                  refine lv_iload_n hx hb dX12_product_77 rfl (lv_at hl 0 rfl) ?_
                  refine lv_idiv hx hb dX12_product_78 (bn_nz (by omega)) ?_
                  refine lv_topi (fun v_102 ev_102 => ?_)
                  refine lv_goto (tgt := 85) hx hb dX12_product_79 (by decide) ?_
                  refine lv_istore_n (lv' := [(1, .int v_102), (3, .int r_81), (0, .ref (h 0)), (2, .int y2_10)]) hx hb dX12_product_85 rfl hl (by decide) rfl (fun ls hl => ?_)
                  refine lv_aload_n hx hb dX12_product_86 rfl (lv_at hl 2 rfl) ?_
                  have q_104 : (f_78 0 14).toInt = v_22.toInt := (congrArg Int32.toInt (show f_78 0 14 = v_22 from ((hk_f_78 0 14 (by decide)).trans (by rw [ef_73, sg_up_s, sgu_n (by decide)]; exact ev_22.symm))))
                  refine sg_calli (va_runV (As := []) (rest := []) ⟨hx, hb, hml, hown, hts⟩ (kX12_byteAt l D ca za h hh f_78 L Q hI H.size) (sl_c12_byteAt_0_0_0_0_12 hts ⟨Nat.le_of_ble_eq_true rfl, Nat.le_of_ble_eq_true rfl⟩) (sl_vM_0 hA hK hP hS hZ) rfl rfl hl.1 rfl (lv_room (Nat.le_of_ble_eq_true rfl)) dX12_product_87 ⟨Nat.le_refl _, Nat.le_refl _⟩) hA hS (fun r_108 f_105 L_106 Q_107 H locs hq hP hS => ?_)
                  obtain ⟨⟨ef9, eL9, eQ9⟩, hq, p_109, u_110⟩ := hq
                  rw [ef9, eL9, eQ9] at hP; clear ef9 eL9 eQ9
                  refine lv_istore_n (lv' := [(2, .int r_108), (1, .int v_102), (3, .int r_81), (0, .ref (h 0))]) hx hb dX12_product_90 rfl hl (by decide) rfl (fun ls hl => ?_)
                  refine lv_goto (tgt := 10) hx hb dX12_product_91 (by decide) ?_
                  exact ih_10 v_102 r_108 f_78 _ _ _ (hs.trans ((if_neg c_98).trans (spl_e ev_102 (spl_e u_110 rfl)))) (by have zz0_13 : (f_78 0 13).toInt = v_86.toInt := (congrArg Int32.toInt (show f_78 0 13 = v_86 from ev_86.symm)); omega) ⟨by omega, by omega⟩ (by have zz0_13 : (f_78 0 13).toInt = v_86.toInt := (congrArg Int32.toInt (show f_78 0 13 = v_86 from ev_86.symm)); omega) (by have zz0_16 : (f_78 0 16).toInt = v_89.toInt := (congrArg Int32.toInt (show f_78 0 16 = v_89 from ev_89.symm)); omega) (by have zz0_15 : (f_78 0 15).toInt = v_92.toInt := (congrArg Int32.toInt (show f_78 0 15 = v_92 from ev_92.symm)); have zz0_16 : (f_78 0 16).toInt = v_89.toInt := (congrArg Int32.toInt (show f_78 0 16 = v_89 from ev_89.symm)); omega) (by have zz0_13 : (f_78 0 13).toInt = v_86.toInt := (congrArg Int32.toInt (show f_78 0 13 = v_86 from ev_86.symm)); have zz0_14 : (f_78 0 14).toInt = v_22.toInt := (congrArg Int32.toInt (show f_78 0 14 = v_22 from ((hk_f_78 0 14 (by decide)).trans (by rw [ef_73, sg_up_s, sgu_n (by decide)]; exact ev_22.symm)))); omega) hI hF hP hS (lv_sub hl [3, 1, 0] rfl)
              · skip
                have c_99 : r_81.toInt = 0 := (by first | exact (cm_eq1 ti_0 c) | (have z := Int32.toInt_inj.mpr c; have k1 : (0 : Int32).toInt = 0 := ti_0; omega))
                refine lv_iconst (v := 0) hx hb dX12_product_66 ic_0 ?_
                refine lv_goto (tgt := 85) hx hb dX12_product_67 (by decide) ?_
                refine lv_istore_n (lv' := [(1, .int 0), (3, .int r_81), (0, .ref (h 0)), (2, .int y2_10)]) hx hb dX12_product_85 rfl hl (by decide) rfl (fun ls hl => ?_)
                refine lv_aload_n hx hb dX12_product_86 rfl (lv_at hl 2 rfl) ?_
                have q_112 : (f_78 0 14).toInt = v_22.toInt := (congrArg Int32.toInt (show f_78 0 14 = v_22 from ((hk_f_78 0 14 (by decide)).trans (by rw [ef_73, sg_up_s, sgu_n (by decide)]; exact ev_22.symm))))
                refine sg_calli (va_runV (As := []) (rest := []) ⟨hx, hb, hml, hown, hts⟩ (kX12_byteAt l D ca za h hh f_78 L Q hI H.size) (sl_c12_byteAt_0_0_0_0_12 hts ⟨Nat.le_of_ble_eq_true rfl, Nat.le_of_ble_eq_true rfl⟩) (sl_vM_0 hA hK hP hS hZ) rfl rfl hl.1 rfl (lv_room (Nat.le_of_ble_eq_true rfl)) dX12_product_87 ⟨Nat.le_refl _, Nat.le_refl _⟩) hA hS (fun r_116 f_113 L_114 Q_115 H locs hq hP hS => ?_)
                obtain ⟨⟨ef9, eL9, eQ9⟩, hq, p_117, u_118⟩ := hq
                rw [ef9, eL9, eQ9] at hP; clear ef9 eL9 eQ9
                refine lv_istore_n (lv' := [(2, .int r_116), (1, .int 0), (3, .int r_81), (0, .ref (h 0))]) hx hb dX12_product_90 rfl hl (by decide) rfl (fun ls hl => ?_)
                refine lv_goto (tgt := 10) hx hb dX12_product_91 (by decide) ?_
                exact ih_10 0 r_116 f_78 _ _ _ (hs.trans ((if_pos c_99).trans (spl_e u_118 rfl))) (by have kc0 : (0 : Int32).toInt = 0 := ti_0; have zz0_13 : (f_78 0 13).toInt = v_86.toInt := (congrArg Int32.toInt (show f_78 0 13 = v_86 from ev_86.symm)); omega) ⟨by omega, by omega⟩ (by have kc0 : (0 : Int32).toInt = 0 := ti_0; have zz0_13 : (f_78 0 13).toInt = v_86.toInt := (congrArg Int32.toInt (show f_78 0 13 = v_86 from ev_86.symm)); omega) (by have kc0 : (0 : Int32).toInt = 0 := ti_0; have zz0_16 : (f_78 0 16).toInt = v_89.toInt := (congrArg Int32.toInt (show f_78 0 16 = v_89 from ev_89.symm)); omega) (by have kc0 : (0 : Int32).toInt = 0 := ti_0; have zz0_15 : (f_78 0 15).toInt = v_92.toInt := (congrArg Int32.toInt (show f_78 0 15 = v_92 from ev_92.symm)); have zz0_16 : (f_78 0 16).toInt = v_89.toInt := (congrArg Int32.toInt (show f_78 0 16 = v_89 from ev_89.symm)); omega) (by have kc0 : (0 : Int32).toInt = 0 := ti_0; have zz0_13 : (f_78 0 13).toInt = v_86.toInt := (congrArg Int32.toInt (show f_78 0 13 = v_86 from ev_86.symm)); have zz0_14 : (f_78 0 14).toInt = v_22.toInt := (congrArg Int32.toInt (show f_78 0 14 = v_22 from ((hk_f_78 0 14 (by decide)).trans (by rw [ef_73, sg_up_s, sgu_n (by decide)]; exact ev_22.symm)))); omega) hI hF hP hS (lv_sub hl [3, 1, 0] rfl)
            · skip
              exfalso; have c_97 : y2_10.toInt = 42 := (by first | exact (cm_eq1 ti_42 c) | (have z := Int32.toInt_inj.mpr c; have k1 : (42 : Int32).toInt = 42 := ti_42; omega)); first | exact absurd c_97 (by assumption) | omega
          · skip
            have c_70 : y2_10.toInt ≠ 47 := (by first | exact (cm_ne1 ti_47 c) | (have z := bn_ne c; have k1 : (47 : Int32).toInt = 47 := ti_47; omega))
            replace hs := hs.trans ((if_neg c_70).trans rfl)
            refine lv_iload_n hx hb dX12_product_29 rfl (lv_at hl 2 rfl) ?_
            refine lv_bipush (v := 37) hx hb dX12_product_30 bp_37 ?_
            refine lv_icmp_ne (tgt := 94) hx hb dX12_product_32 (by decide) (fun c => ?_) (fun c => ?_)
            · skip
              have c_119 : y2_10.toInt ≠ 37 := (by first | exact (cm_ne1 ti_37 c) | (have z := bn_ne c; have k1 : (37 : Int32).toInt = 37 := ti_37; omega))
              refine lv_iload_n hx hb dX12_product_94 rfl (lv_at hl 1 rfl) ?_
              exact hret _ _ _ _ (y1_10) fp_10 L Q dX12_product_95 hP hS ⟨⟨hI, hF, rfl, rfl⟩, trivial, (by omega), (by omega), (by omega), (Eq.trans (Eq.symm (hs.trans ((if_neg c_119).trans rfl))) hsp)⟩
            · skip
              have c_120 : y2_10.toInt = 37 := (by first | exact (cm_eq1 ti_37 c) | (have z := Int32.toInt_inj.mpr c; have k1 : (37 : Int32).toInt = 37 := ti_37; omega))
              refine lv_aload_n hx hb dX12_product_35 rfl (lv_at hl 0 rfl) ?_
              refine lv_dup hx hb dX12_product_36 rfl ?_
              refine sl_gM_0_13_12 (v := v_13) hx hb hts hown hK hP (show fp_10 0 13 = v_13 from ev_13.symm) dX12_product_37 ?_
              refine lv_iconst (v := 1) hx hb dX12_product_40 ic_1 ?_
              refine lv_iadd hx hb dX12_product_41 ?_
              refine lv_topi (fun v_125 ev_125 => ?_)
              have q_126 : v_125.toInt = v_13.toInt + 1 := by rw [ev_125]; first | exact cm_add ti_1 (by omega) (by omega) | (have k1 : (1 : Int32).toInt = 1 := ti_1; exact (bn_addI (by omega) (by omega)).trans (by omega))
              refine sl_pM_0_13_12 (x := v_125) hx hb hts hown hh hA hK hP hS dX12_product_42 (fun f_127 H locs ef_127 hP hS => ?_)
              have hI : sgI loM hiM f_127 := by rw [ef_127]; exact sgI.put hI 0 13 (show 0 ≤ (v_125 : Int32).toInt ∧ (v_125 : Int32).toInt ≤ 120 from ⟨by omega, by omega⟩)
              have hF : sgK WkX12_product_4 f f_127 := sgK.put hF ef_127 (by rfl)
              refine lv_aload_n hx hb dX12_product_45 rfl (lv_at hl 0 rfl) ?_
              have q_128 : (f_127 0 16).toInt = v_16.toInt := (congrArg Int32.toInt (show f_127 0 16 = v_16 from (by rw [ef_127, sg_up_s, sgu_n (by decide)]; exact ev_16.symm)))
              have q_129 : (f_127 0 15).toInt = v_19.toInt := (congrArg Int32.toInt (show f_127 0 15 = v_19 from (by rw [ef_127, sg_up_s, sgu_n (by decide)]; exact ev_19.symm)))
              have q_131 : (f_127 0 13).toInt = v_125.toInt := (congrArg Int32.toInt (show f_127 0 13 = v_125 from (by rw [ef_127, sg_up_s, sgu_s])))
              refine sg_calli (va_runV (As := []) (rest := []) ⟨hx, hb, hml, hown, hts⟩ (kX12_one_4 l D ca za h hh f_127 L Q hI (by omega) (by omega) H.size) (sl_c12_one_13_0_0_294_12 hts ⟨Nat.le_of_ble_eq_true rfl, Nat.le_of_ble_eq_true rfl⟩) (sl_vM_0 hA hK hP hS hZ) rfl rfl hl.1 rfl (lv_room (Nat.le_of_ble_eq_true rfl)) dX12_product_46 ⟨Nat.le_refl _, Nat.le_refl _⟩) hA hS (fun r_135 f_132 L_133 Q_134 H locs hq hP hS => ?_)
              obtain ⟨⟨hI, hk_f_132, eL9, eQ9⟩, hq, p_136, p_137, p_138, u_139⟩ := hq
              rw [eL9, eQ9] at hP; clear eL9 eQ9
              have hF : sgK WkX12_product_4 f f_132 := sgK.tr hF hk_f_132 (by decide +kernel)
              obtain ⟨v_140, ev_140⟩ : ∃ z : Int32, z = f_132 0 13 := ⟨_, rfl⟩
              have q_141 : 0 ≤ v_140.toInt ∧ v_140.toInt ≤ 120 := by rw [ev_140]; exact hI 0 13
              have q_142 : (f_132 0 13).toInt = v_140.toInt := (congrArg Int32.toInt (show f_132 0 13 = v_140 from ev_140.symm))
              obtain ⟨v_143, ev_143⟩ : ∃ z : Int32, z = f_132 0 16 := ⟨_, rfl⟩
              have q_144 : 0 ≤ v_143.toInt ∧ v_143.toInt ≤ 6 := by rw [ev_143]; exact hI 0 16
              have q_145 : (f_132 0 16).toInt = v_143.toInt := (congrArg Int32.toInt (show f_132 0 16 = v_143 from ev_143.symm))
              obtain ⟨v_146, ev_146⟩ : ∃ z : Int32, z = f_132 0 15 := ⟨_, rfl⟩
              replace hs := hs.trans ((if_pos c_120).trans (spl_e ev_125 (spl_e ef_127 (spl2_e u_139 (spl_e ev_140 (spl_e ev_143 (spl_e ev_146 rfl)))))))
              have q_147 : (-1) ≤ v_146.toInt ∧ v_146.toInt ≤ 120 := by rw [ev_146]; exact hI 0 15
              have q_148 : (f_132 0 15).toInt = v_146.toInt := (congrArg Int32.toInt (show f_132 0 15 = v_146 from ev_146.symm))
              refine lv_istore_n (lv' := [(3, .int r_135), (0, .ref (h 0)), (1, .int y1_10), (2, .int y2_10)]) hx hb dX12_product_49 rfl hl (by decide) rfl (fun ls hl => ?_)
              refine lv_iload_n hx hb dX12_product_50 rfl (lv_at hl 3 rfl) ?_
              refine lv_bipush (v := 42) hx hb dX12_product_51 bp_42 ?_
              refine lv_icmp_ne (tgt := 62) hx hb dX12_product_53 (by decide) (fun c => ?_) (fun c => ?_)
              · skip
                have c_150 : y2_10.toInt ≠ 42 := (by first | exact (cm_ne1 ti_42 c) | (have z := bn_ne c; have k1 : (42 : Int32).toInt = 42 := ti_42; omega))
                refine lv_iload_n hx hb dX12_product_62 rfl (lv_at hl 0 rfl) ?_
                refine lv_if_ne (tgt := 70) hx hb dX12_product_63 (by decide) (fun c => ?_) (fun c => ?_)
                · skip
                  have c_152 : r_135.toInt ≠ 0 := (by first | exact (cm_ne1 ti_0 c) | (have z := bn_ne c; have k1 : (0 : Int32).toInt = 0 := ti_0; omega))
                  refine lv_iload_n hx hb dX12_product_70 rfl (lv_at hl 3 rfl) ?_
                  refine lv_bipush (v := 47) hx hb dX12_product_71 bp_47 ?_
                  refine lv_icmp_ne (tgt := 82) hx hb dX12_product_73 (by decide) (fun c => ?_) (fun c => ?_)
                  · skip
                    have c_154 : y2_10.toInt ≠ 47 := (by first | exact (cm_ne1 ti_47 c) | (have z := bn_ne c; have k1 : (47 : Int32).toInt = 47 := ti_47; omega))
                    refine lv_iload_n hx hb dX12_product_82 rfl (lv_at hl 2 rfl) ?_
                    refine lv_iload_n hx hb dX12_product_83 rfl (lv_at hl 0 rfl) ?_
                    refine lv_irem hx hb dX12_product_84 (bn_nz (by omega)) ?_
                    refine lv_topi (fun v_156 ev_156 => ?_)
                    refine lv_istore_n (lv' := [(1, .int v_156), (3, .int r_135), (0, .ref (h 0)), (2, .int y2_10)]) hx hb dX12_product_85 rfl hl (by decide) rfl (fun ls hl => ?_)
                    refine lv_aload_n hx hb dX12_product_86 rfl (lv_at hl 2 rfl) ?_
                    have q_158 : (f_132 0 14).toInt = v_22.toInt := (congrArg Int32.toInt (show f_132 0 14 = v_22 from ((hk_f_132 0 14 (by decide)).trans (by rw [ef_127, sg_up_s, sgu_n (by decide)]; exact ev_22.symm))))
                    refine sg_calli (va_runV (As := []) (rest := []) ⟨hx, hb, hml, hown, hts⟩ (kX12_byteAt l D ca za h hh f_132 L Q hI H.size) (sl_c12_byteAt_0_0_0_0_12 hts ⟨Nat.le_of_ble_eq_true rfl, Nat.le_of_ble_eq_true rfl⟩) (sl_vM_0 hA hK hP hS hZ) rfl rfl hl.1 rfl (lv_room (Nat.le_of_ble_eq_true rfl)) dX12_product_87 ⟨Nat.le_refl _, Nat.le_refl _⟩) hA hS (fun r_162 f_159 L_160 Q_161 H locs hq hP hS => ?_)
                    obtain ⟨⟨ef9, eL9, eQ9⟩, hq, p_163, u_164⟩ := hq
                    rw [ef9, eL9, eQ9] at hP; clear ef9 eL9 eQ9
                    refine lv_istore_n (lv' := [(2, .int r_162), (1, .int v_156), (3, .int r_135), (0, .ref (h 0))]) hx hb dX12_product_90 rfl hl (by decide) rfl (fun ls hl => ?_)
                    refine lv_goto (tgt := 10) hx hb dX12_product_91 (by decide) ?_
                    exact ih_10 v_156 r_162 f_132 _ _ _ (hs.trans ((if_neg c_152).trans (spl_e ev_156 (spl_e u_164 rfl)))) (by have zz0_13 : (f_132 0 13).toInt = v_140.toInt := (congrArg Int32.toInt (show f_132 0 13 = v_140 from ev_140.symm)); omega) ⟨by omega, by omega⟩ (by have zz0_13 : (f_132 0 13).toInt = v_140.toInt := (congrArg Int32.toInt (show f_132 0 13 = v_140 from ev_140.symm)); omega) (by have zz0_16 : (f_132 0 16).toInt = v_143.toInt := (congrArg Int32.toInt (show f_132 0 16 = v_143 from ev_143.symm)); omega) (by have zz0_15 : (f_132 0 15).toInt = v_146.toInt := (congrArg Int32.toInt (show f_132 0 15 = v_146 from ev_146.symm)); have zz0_16 : (f_132 0 16).toInt = v_143.toInt := (congrArg Int32.toInt (show f_132 0 16 = v_143 from ev_143.symm)); omega) (by have zz0_13 : (f_132 0 13).toInt = v_140.toInt := (congrArg Int32.toInt (show f_132 0 13 = v_140 from ev_140.symm)); have zz0_14 : (f_132 0 14).toInt = v_22.toInt := (congrArg Int32.toInt (show f_132 0 14 = v_22 from ((hk_f_132 0 14 (by decide)).trans (by rw [ef_127, sg_up_s, sgu_n (by decide)]; exact ev_22.symm)))); omega) hI hF hP hS (lv_sub hl [3, 1, 0] rfl)
                  · skip
                    exfalso; have c_155 : y2_10.toInt = 47 := (by first | exact (cm_eq1 ti_47 c) | (have z := Int32.toInt_inj.mpr c; have k1 : (47 : Int32).toInt = 47 := ti_47; omega)); first | exact absurd c_155 (by assumption) | omega
                · skip
                  have c_153 : r_135.toInt = 0 := (by first | exact (cm_eq1 ti_0 c) | (have z := Int32.toInt_inj.mpr c; have k1 : (0 : Int32).toInt = 0 := ti_0; omega))
                  refine lv_iconst (v := 0) hx hb dX12_product_66 ic_0 ?_
                  refine lv_goto (tgt := 85) hx hb dX12_product_67 (by decide) ?_
                  refine lv_istore_n (lv' := [(1, .int 0), (3, .int r_135), (0, .ref (h 0)), (2, .int y2_10)]) hx hb dX12_product_85 rfl hl (by decide) rfl (fun ls hl => ?_)
                  refine lv_aload_n hx hb dX12_product_86 rfl (lv_at hl 2 rfl) ?_
                  have q_166 : (f_132 0 14).toInt = v_22.toInt := (congrArg Int32.toInt (show f_132 0 14 = v_22 from ((hk_f_132 0 14 (by decide)).trans (by rw [ef_127, sg_up_s, sgu_n (by decide)]; exact ev_22.symm))))
                  refine sg_calli (va_runV (As := []) (rest := []) ⟨hx, hb, hml, hown, hts⟩ (kX12_byteAt l D ca za h hh f_132 L Q hI H.size) (sl_c12_byteAt_0_0_0_0_12 hts ⟨Nat.le_of_ble_eq_true rfl, Nat.le_of_ble_eq_true rfl⟩) (sl_vM_0 hA hK hP hS hZ) rfl rfl hl.1 rfl (lv_room (Nat.le_of_ble_eq_true rfl)) dX12_product_87 ⟨Nat.le_refl _, Nat.le_refl _⟩) hA hS (fun r_170 f_167 L_168 Q_169 H locs hq hP hS => ?_)
                  obtain ⟨⟨ef9, eL9, eQ9⟩, hq, p_171, u_172⟩ := hq
                  rw [ef9, eL9, eQ9] at hP; clear ef9 eL9 eQ9
                  refine lv_istore_n (lv' := [(2, .int r_170), (1, .int 0), (3, .int r_135), (0, .ref (h 0))]) hx hb dX12_product_90 rfl hl (by decide) rfl (fun ls hl => ?_)
                  refine lv_goto (tgt := 10) hx hb dX12_product_91 (by decide) ?_
                  exact ih_10 0 r_170 f_132 _ _ _ (hs.trans ((if_pos c_153).trans (spl_e u_172 rfl))) (by have kc0 : (0 : Int32).toInt = 0 := ti_0; have zz0_13 : (f_132 0 13).toInt = v_140.toInt := (congrArg Int32.toInt (show f_132 0 13 = v_140 from ev_140.symm)); omega) ⟨by omega, by omega⟩ (by have kc0 : (0 : Int32).toInt = 0 := ti_0; have zz0_13 : (f_132 0 13).toInt = v_140.toInt := (congrArg Int32.toInt (show f_132 0 13 = v_140 from ev_140.symm)); omega) (by have kc0 : (0 : Int32).toInt = 0 := ti_0; have zz0_16 : (f_132 0 16).toInt = v_143.toInt := (congrArg Int32.toInt (show f_132 0 16 = v_143 from ev_143.symm)); omega) (by have kc0 : (0 : Int32).toInt = 0 := ti_0; have zz0_15 : (f_132 0 15).toInt = v_146.toInt := (congrArg Int32.toInt (show f_132 0 15 = v_146 from ev_146.symm)); have zz0_16 : (f_132 0 16).toInt = v_143.toInt := (congrArg Int32.toInt (show f_132 0 16 = v_143 from ev_143.symm)); omega) (by have kc0 : (0 : Int32).toInt = 0 := ti_0; have zz0_13 : (f_132 0 13).toInt = v_140.toInt := (congrArg Int32.toInt (show f_132 0 13 = v_140 from ev_140.symm)); have zz0_14 : (f_132 0 14).toInt = v_22.toInt := (congrArg Int32.toInt (show f_132 0 14 = v_22 from ((hk_f_132 0 14 (by decide)).trans (by rw [ef_127, sg_up_s, sgu_n (by decide)]; exact ev_22.symm)))); omega) hI hF hP hS (lv_sub hl [3, 1, 0] rfl)
              · skip
                exfalso; have c_151 : y2_10.toInt = 42 := (by first | exact (cm_eq1 ti_42 c) | (have z := Int32.toInt_inj.mpr c; have k1 : (42 : Int32).toInt = 42 := ti_42; omega)); first | exact absurd c_151 (by assumption) | omega
  refine lv_aload_n hx hb dX12_product_0 rfl (lv_at hl 0 rfl) ?_
  have q_173 : (f 0 16).toInt = v_1.toInt := (congrArg Int32.toInt (show f 0 16 = v_1 from ev_1.symm))
  have q_174 : (f 0 15).toInt = v_3.toInt := (congrArg Int32.toInt (show f 0 15 = v_3 from ev_3.symm))
  have q_176 : (f 0 13).toInt = v_5.toInt := (congrArg Int32.toInt (show f 0 13 = v_5 from ev_5.symm))
  refine sg_calli (va_runV (As := []) (rest := []) ⟨hx, hb, hml, hown, hts⟩ (kX12_one_4 l D ca za h hh f L Q hI (by omega) (by omega) H.size) (sl_c12_one_13_0_0_294_12 hts ⟨Nat.le_of_ble_eq_true rfl, Nat.le_of_ble_eq_true rfl⟩) (sl_vM_0 hA hK hP hS hZ) rfl rfl hl.1 rfl (lv_room (Nat.le_of_ble_eq_true rfl)) dX12_product_1 ⟨Nat.le_refl _, Nat.le_refl _⟩) hA hS (fun r_180 f_177 L_178 Q_179 H locs hq hP hS => ?_)
  obtain ⟨⟨hI, hk_f_177, eL9, eQ9⟩, hq, p_181, p_182, p_183, u_184⟩ := hq
  rw [eL9, eQ9] at hP; clear eL9 eQ9
  have hF : sgK WkX12_product_4 f f_177 := sgK.tr hF hk_f_177 (by decide +kernel)
  obtain ⟨v_185, ev_185⟩ : ∃ z : Int32, z = f_177 0 13 := ⟨_, rfl⟩
  have q_186 : 0 ≤ v_185.toInt ∧ v_185.toInt ≤ 120 := by rw [ev_185]; exact hI 0 13
  have q_187 : (f_177 0 13).toInt = v_185.toInt := (congrArg Int32.toInt (show f_177 0 13 = v_185 from ev_185.symm))
  obtain ⟨v_188, ev_188⟩ : ∃ z : Int32, z = f_177 0 16 := ⟨_, rfl⟩
  have q_189 : 0 ≤ v_188.toInt ∧ v_188.toInt ≤ 6 := by rw [ev_188]; exact hI 0 16
  have q_190 : (f_177 0 16).toInt = v_188.toInt := (congrArg Int32.toInt (show f_177 0 16 = v_188 from ev_188.symm))
  obtain ⟨v_191, ev_191⟩ : ∃ z : Int32, z = f_177 0 15 := ⟨_, rfl⟩
  have q_192 : (-1) ≤ v_191.toInt ∧ v_191.toInt ≤ 120 := by rw [ev_191]; exact hI 0 15
  have q_193 : (f_177 0 15).toInt = v_191.toInt := (congrArg Int32.toInt (show f_177 0 15 = v_191 from ev_191.symm))
  refine lv_istore_n (lv' := [(1, .int r_180), (0, .ref (h 0))]) hx hb dX12_product_4 rfl hl (by decide) rfl (fun ls hl => ?_)
  refine lv_aload_n hx hb dX12_product_5 rfl (lv_at hl 1 rfl) ?_
  have q_196 : (f_177 0 14).toInt = v_7.toInt := (congrArg Int32.toInt (show f_177 0 14 = v_7 from ((hk_f_177 0 14 (by decide)).trans ev_7.symm)))
  refine sg_calli (va_runV (As := []) (rest := []) ⟨hx, hb, hml, hown, hts⟩ (kX12_byteAt l D ca za h hh f_177 L Q hI H.size) (sl_c12_byteAt_0_0_0_0_12 hts ⟨Nat.le_of_ble_eq_true rfl, Nat.le_of_ble_eq_true rfl⟩) (sl_vM_0 hA hK hP hS hZ) rfl rfl hl.1 rfl (lv_room (Nat.le_of_ble_eq_true rfl)) dX12_product_6 ⟨Nat.le_refl _, Nat.le_refl _⟩) hA hS (fun r_200 f_197 L_198 Q_199 H locs hq hP hS => ?_)
  obtain ⟨⟨ef9, eL9, eQ9⟩, hq, p_201, u_202⟩ := hq
  rw [ef9, eL9, eQ9] at hP; clear ef9 eL9 eQ9
  refine lv_istore_n (lv' := [(2, .int r_200), (1, .int r_180), (0, .ref (h 0))]) hx hb dX12_product_9 rfl hl (by decide) rfl (fun ls hl => ?_)
  exact loop_10 121 r_180 r_200 f_177 _ _ _ (hs.trans ((spl_e ev_1 (spl_e ev_3 (spl_e ev_5 (spl_e ev_7 (spl2_e u_184 (spl_e ev_185 (spl_e ev_188 (spl_e ev_191 (spl_e u_202 rfl))))))))))) (by have zz0_13 : (f_177 0 13).toInt = v_185.toInt := (congrArg Int32.toInt (show f_177 0 13 = v_185 from ev_185.symm)); omega) ⟨by omega, by omega⟩ (by have zz0_13 : (f_177 0 13).toInt = v_185.toInt := (congrArg Int32.toInt (show f_177 0 13 = v_185 from ev_185.symm)); omega) (by have zz0_16 : (f_177 0 16).toInt = v_188.toInt := (congrArg Int32.toInt (show f_177 0 16 = v_188 from ev_188.symm)); omega) (by have zz0_15 : (f_177 0 15).toInt = v_191.toInt := (congrArg Int32.toInt (show f_177 0 15 = v_191 from ev_191.symm)); have zz0_16 : (f_177 0 16).toInt = v_188.toInt := (congrArg Int32.toInt (show f_177 0 16 = v_188 from ev_188.symm)); omega) (by have zz0_13 : (f_177 0 13).toInt = v_185.toInt := (congrArg Int32.toInt (show f_177 0 13 = v_185 from ev_185.symm)); have zz0_14 : (f_177 0 14).toInt = v_7.toInt := (congrArg Int32.toInt (show f_177 0 14 = v_7 from ((hk_f_177 0 14 (by decide)).trans ev_7.symm))); omega) hI hF hP hS (lv_sub hl [2, 1, 0] rfl)

abbrev WkX12_sums_4 : List (Nat × Nat × Option Nat) := [(0, 0, some 13), (0, 0, some 15), (0, 0, some 16)]
set_option maxHeartbeats 4000000 in
set_option maxRecDepth 100000 in
theorem kX12_sums_4 (l : Launch) (D : va_G) (ca : Nat → ClassId) (za h : Nat → Nat) (hh : sgH 26 h) (f : sg_F) (L : sg_L) (Q : sg_Q) (hI : sgI loM hiM f) (p0 : 4 ≤ (f 0 16).toInt) (p1 : 0 ≤ (f 0 15).toInt ∨ (f 0 16).toInt = 4) (sz : Nat) : Met l yX12_sums gwX12_sums { frames := 15, cells := 0, slots := 0, locals := 341 } (sgP D vwCl (tyX ca) 26 h (eM ca h) zcM za f L Q sz [.ref (h 0)]) (sgQi D vwCl 26 h (eM ca h) sz (fun r f1 L1 Q1 => ((sgI loM hiM f1 ∧ sgK WkX12_sums_4 f f1 ∧ L1 = L ∧ Q1 = Q) ∧ True ∧ ((f 0 13).toInt ≤ (f1 0 13).toInt) ∧ (4 ≤ (f1 0 16).toInt) ∧ (0 ≤ (f1 0 15).toInt ∨ (f1 0 16).toInt = 4) ∧ (r, f1) = sX12_sums_4 f L))) 0 0 (sgA 26 h sz) := by
  refine sg_ofWi (cc := cX12_sums) (maxL := 4) RX12 (by decide) rfl rfl (Nat.le_of_ble_eq_true rfl) ?_
  intro p e s m below meth cd Qz ls hx hb hml hown hts hK hZ hP hS hl hret
  have hA := sgY.self (n := 26) (h := h) (sz := s.heap.size)
  have hl : lv_has ls 4 [(0, .ref (h 0))] := hl
  obtain ⟨H, hH⟩ : ∃ z : Heap, z = s.heap := ⟨_, rfl⟩
  obtain ⟨locs, hlo⟩ : ∃ z : List Loc, z = [] := ⟨_, rfl⟩
  have hP : va_P D vwCl (sgw 26 h (eM ca h) f L Q) H := by rw [hH]; exact hP
  have hS : va_S (sgA 26 h s.heap.size) s.heap H locs := by rw [hH, hlo]; exact hS
  suffices hgo : W p l e ({ frames := 15, cells := 0, slots := 0, locals := 341 }) s m ([.ref (h 0)] : List Value).toArray below meth cd H locs 0 0 Qz (F0 m 0 ls []) by rw [hH, hlo] at hgo; exact hgo
  clear hH hlo
  obtain ⟨sp, hsp⟩ : ∃ z : Int32 × sg_F, z = sX12_sums_4 f L := ⟨_, rfl⟩
  have hs : sp = sX12_sums_4 f L := hsp
  obtain ⟨v_1, ev_1⟩ : ∃ z : Int32, z = f 0 16 := ⟨_, rfl⟩
  have q_2 : 0 ≤ v_1.toInt ∧ v_1.toInt ≤ 6 := by rw [ev_1]; exact hI 0 16
  obtain ⟨v_3, ev_3⟩ : ∃ z : Int32, z = f 0 15 := ⟨_, rfl⟩
  have q_4 : (-1) ≤ v_3.toInt ∧ v_3.toInt ≤ 120 := by rw [ev_3]; exact hI 0 15
  obtain ⟨v_5, ev_5⟩ : ∃ z : Int32, z = f 0 13 := ⟨_, rfl⟩
  have q_6 : 0 ≤ v_5.toInt ∧ v_5.toInt ≤ 120 := by rw [ev_5]; exact hI 0 13
  have o_7 : (f 0 16).toInt = v_1.toInt := (congrArg Int32.toInt (show f 0 16 = v_1 from ev_1.symm))
  have o_8 : (f 0 15).toInt = v_3.toInt := (congrArg Int32.toInt (show f 0 15 = v_3 from ev_3.symm))
  have o_9 : (f 0 13).toInt = v_5.toInt := (congrArg Int32.toInt (show f 0 13 = v_5 from ev_5.symm))
  have hF : sgK WkX12_sums_4 f f := sgK.rf
  have loop_5 : ∀ (n_5 : Nat) (y1_5 : Int32) (fp_5 : sg_F) (H : Heap) (locs : List Loc) (ls : Array Slot), sp = sX12_sums_4_l5 n_5 y1_5 fp_5 L → 120 - (fp_5 0 13).toInt < (n_5 : Int) → (f 0 13).toInt ≤ (fp_5 0 13).toInt → 4 ≤ (fp_5 0 16).toInt → 0 ≤ (fp_5 0 15).toInt ∨ (fp_5 0 16).toInt = 4 → sgI loM hiM fp_5 → sgK WkX12_sums_4 f fp_5 → va_P D vwCl (sgw 26 h (eM ca h) fp_5 L Q) H → va_S (sgA 26 h s.heap.size) s.heap H locs → lv_has ls 4 [(0, .ref (h 0)), (1, .int y1_5)] → W p l e ({ frames := 15, cells := 0, slots := 0, locals := 341 }) s m ([.ref (h 0)] : List Value).toArray below meth cd H locs 0 0 Qz (F0 m 5 ls []) := by
    intro n_5
    induction n_5 with
    | zero => intro y1_5 fp_5 H locs ls hs hm_5 hg0_5 hg1_5 hg2_5 hI hF hP hS hl; have zb := (show 0 ≤ (fp_5 0 13).toInt ∧ (fp_5 0 13).toInt ≤ 120 from hI 0 13); exact absurd hm_5 (by omega)
    | succ n_5 ih_5 =>
      intro y1_5 fp_5 H locs ls hs hm_5 hg0_5 hg1_5 hg2_5 hI hF hP hS hl
      have hs : sp = sX12_sums_4_h5 (sX12_sums_4_l5 n_5) y1_5 fp_5 L := hs
      obtain ⟨v_10, ev_10⟩ : ∃ z : Int32, z = fp_5 0 13 := ⟨_, rfl⟩
      have q_11 : 0 ≤ v_10.toInt ∧ v_10.toInt ≤ 120 := by rw [ev_10]; exact hI 0 13
      have q_12 : (fp_5 0 13).toInt = v_10.toInt := by rw [ev_10]
      obtain ⟨v_13, ev_13⟩ : ∃ z : Int32, z = fp_5 0 16 := ⟨_, rfl⟩
      have q_14 : 0 ≤ v_13.toInt ∧ v_13.toInt ≤ 6 := by rw [ev_13]; exact hI 0 16
      have q_15 : (fp_5 0 16).toInt = v_13.toInt := by rw [ev_13]
      obtain ⟨v_16, ev_16⟩ : ∃ z : Int32, z = fp_5 0 15 := ⟨_, rfl⟩
      replace hs := hs.trans (spl_e ev_10 (spl_e ev_13 (spl_e ev_16 rfl)))
      have q_17 : (-1) ≤ v_16.toInt ∧ v_16.toInt ≤ 120 := by rw [ev_16]; exact hI 0 15
      have q_18 : (fp_5 0 15).toInt = v_16.toInt := by rw [ev_16]
      refine lv_aload_n hx hb dX12_sums_5 rfl (lv_at hl 0 rfl) ?_
      refine sl_gM_0_15_12 (v := v_16) hx hb hts hown hK hP (show fp_5 0 15 = v_16 from ev_16.symm) dX12_sums_6 ?_
      refine lv_if_ge (tgt := 77) hx hb dX12_sums_9 (by decide) (fun c => ?_) (fun c => ?_)
      · skip
        have c_19 : 0 ≤ v_16.toInt := (by first | exact (cm_le0 ti_0 c) | (have z := bn_le c; have k1 : (0 : Int32).toInt = 0 := ti_0; omega))
        refine lv_iload_n hx hb dX12_sums_77 rfl (lv_at hl 1 rfl) ?_
        exact hret _ _ _ _ (y1_5) fp_5 L Q dX12_sums_78 hP hS ⟨⟨hI, hF, rfl, rfl⟩, trivial, (by omega), (by omega), (by omega), (Eq.trans (Eq.symm (hs.trans ((if_neg (Int.not_lt.mpr c_19)).trans rfl))) hsp)⟩
      · skip
        have c_20 : v_16.toInt < 0 := (by first | exact (cm_nle0 ti_0 c) | (have z := bn_nle c; have k1 : (0 : Int32).toInt = 0 := ti_0; omega))
        refine lv_aload_n hx hb dX12_sums_12 rfl (lv_at hl 0 rfl) ?_
        obtain ⟨v_26, ev_26⟩ : ∃ z : Int32, z = fp_5 0 14 := ⟨_, rfl⟩
        have q_27 : 0 ≤ v_26.toInt ∧ v_26.toInt ≤ 120 := by rw [ev_26]; exact hI 0 14
        have q_28 : (fp_5 0 14).toInt = v_26.toInt := (congrArg Int32.toInt (show fp_5 0 14 = v_26 from ev_26.symm))
        refine sg_calli (va_runV (As := []) (rest := []) ⟨hx, hb, hml, hown, hts⟩ (kX12_byteAt l D ca za h hh fp_5 L Q hI H.size) (sl_c12_byteAt_0_0_0_0_12 hts ⟨Nat.le_of_ble_eq_true rfl, Nat.le_of_ble_eq_true rfl⟩) (sl_vM_0 hA hK hP hS hZ) rfl rfl hl.1 rfl (lv_room (Nat.le_of_ble_eq_true rfl)) dX12_sums_13 ⟨Nat.le_refl _, Nat.le_refl _⟩) hA hS (fun r_32 f_29 L_30 Q_31 H locs hq hP hS => ?_)
        obtain ⟨⟨ef9, eL9, eQ9⟩, hq, p_33, u_34⟩ := hq
        replace hs := hs.trans ((if_pos c_20).trans (spl_e ev_26 (spl_e u_34 rfl)))
        rw [ef9, eL9, eQ9] at hP; clear ef9 eL9 eQ9
        refine lv_bipush (v := 43) hx hb dX12_sums_16 bp_43 ?_
        refine lv_icmp_eq (tgt := 30) hx hb dX12_sums_18 (by decide) (fun c => ?_) (fun c => ?_)
        · skip
          have c_35 : r_32.toInt = 43 := (by first | exact (cm_eq1 ti_43 c) | (have z := Int32.toInt_inj.mpr c; have k1 : (43 : Int32).toInt = 43 := ti_43; omega))
          refine lv_aload_n hx hb dX12_sums_30 rfl (lv_at hl 0 rfl) ?_
          refine sg_calli (va_runV (As := []) (rest := []) ⟨hx, hb, hml, hown, hts⟩ (kX12_byteAt l D ca za h hh fp_5 L Q hI H.size) (sl_c12_byteAt_0_0_0_0_12 hts ⟨Nat.le_of_ble_eq_true rfl, Nat.le_of_ble_eq_true rfl⟩) (sl_vM_0 hA hK hP hS hZ) rfl rfl hl.1 rfl (lv_room (Nat.le_of_ble_eq_true rfl)) dX12_sums_31 ⟨Nat.le_refl _, Nat.le_refl _⟩) hA hS (fun r_42 f_39 L_40 Q_41 H locs hq hP hS => ?_)
          obtain ⟨⟨ef9, eL9, eQ9⟩, hq, p_43, u_44⟩ := hq
          rw [ef9, eL9, eQ9] at hP; clear ef9 eL9 eQ9
          rw [show r_42 = r_32 from u_44.trans u_34.symm]
          refine lv_bipush (v := 43) hx hb dX12_sums_34 bp_43 ?_
          refine lv_icmp_ne (tgt := 43) hx hb dX12_sums_36 (by decide) (fun c => ?_) (fun c => ?_)
          · skip
            exfalso; have c_45 : r_32.toInt ≠ 43 := (by first | exact (cm_ne1 ti_43 c) | (have z := bn_ne c; have k1 : (43 : Int32).toInt = 43 := ti_43; omega)); first | exact absurd (by assumption) c_45 | omega
          · skip
            have c_46 : r_32.toInt = 43 := (by first | exact (cm_eq1 ti_43 c) | (have z := Int32.toInt_inj.mpr c; have k1 : (43 : Int32).toInt = 43 := ti_43; omega))
            refine lv_iconst (v := 1) hx hb dX12_sums_39 ic_1 ?_
            refine lv_goto (tgt := 44) hx hb dX12_sums_40 (by decide) ?_
            refine lv_istore_n (lv' := [(2, .int 1), (0, .ref (h 0)), (1, .int y1_5)]) hx hb dX12_sums_44 rfl hl (by decide) rfl (fun ls hl => ?_)
            refine lv_aload_n hx hb dX12_sums_45 rfl (lv_at hl 1 rfl) ?_
            refine lv_dup hx hb dX12_sums_46 rfl ?_
            refine sl_gM_0_13_12 (v := v_10) hx hb hts hown hK hP (show fp_5 0 13 = v_10 from ev_10.symm) dX12_sums_47 ?_
            refine lv_iconst (v := 1) hx hb dX12_sums_50 ic_1 ?_
            refine lv_iadd hx hb dX12_sums_51 ?_
            refine lv_topi (fun v_47 ev_47 => ?_)
            have q_48 : v_47.toInt = v_10.toInt + 1 := by rw [ev_47]; first | exact cm_add ti_1 (by omega) (by omega) | (have k1 : (1 : Int32).toInt = 1 := ti_1; exact (bn_addI (by omega) (by omega)).trans (by omega))
            refine sl_pM_0_13_12 (x := v_47) hx hb hts hown hh hA hK hP hS dX12_sums_52 (fun f_49 H locs ef_49 hP hS => ?_)
            have hI : sgI loM hiM f_49 := by rw [ef_49]; exact sgI.put hI 0 13 (show 0 ≤ (v_47 : Int32).toInt ∧ (v_47 : Int32).toInt ≤ 120 from ⟨by omega, by omega⟩)
            have hF : sgK WkX12_sums_4 f f_49 := sgK.put hF ef_49 (by rfl)
            refine lv_aload_n hx hb dX12_sums_55 rfl (lv_at hl 1 rfl) ?_
            have q_50 : (f_49 0 16).toInt = v_13.toInt := (congrArg Int32.toInt (show f_49 0 16 = v_13 from (by rw [ef_49, sg_up_s, sgu_n (by decide)]; exact ev_13.symm)))
            have q_51 : (f_49 0 15).toInt = v_16.toInt := (congrArg Int32.toInt (show f_49 0 15 = v_16 from (by rw [ef_49, sg_up_s, sgu_n (by decide)]; exact ev_16.symm)))
            have q_53 : (f_49 0 13).toInt = v_47.toInt := (congrArg Int32.toInt (show f_49 0 13 = v_47 from (by rw [ef_49, sg_up_s, sgu_s])))
            refine sg_calli (va_runV (As := []) (rest := []) ⟨hx, hb, hml, hown, hts⟩ (kX12_product_4 l D ca za h hh f_49 L Q hI (by omega) (by omega) H.size) (sl_c12_product_14_0_0_318_12 hts ⟨Nat.le_of_ble_eq_true rfl, Nat.le_of_ble_eq_true rfl⟩) (sl_vM_0 hA hK hP hS hZ) rfl rfl hl.1 rfl (lv_room (Nat.le_of_ble_eq_true rfl)) dX12_sums_56 ⟨Nat.le_refl _, Nat.le_refl _⟩) hA hS (fun r_57 f_54 L_55 Q_56 H locs hq hP hS => ?_)
            obtain ⟨⟨hI, hk_f_54, eL9, eQ9⟩, hq, p_58, p_59, p_60, u_61⟩ := hq
            rw [eL9, eQ9] at hP; clear eL9 eQ9
            have hF : sgK WkX12_sums_4 f f_54 := sgK.tr hF hk_f_54 (by decide +kernel)
            obtain ⟨v_62, ev_62⟩ : ∃ z : Int32, z = f_54 0 13 := ⟨_, rfl⟩
            have q_63 : 0 ≤ v_62.toInt ∧ v_62.toInt ≤ 120 := by rw [ev_62]; exact hI 0 13
            have q_64 : (f_54 0 13).toInt = v_62.toInt := (congrArg Int32.toInt (show f_54 0 13 = v_62 from ev_62.symm))
            obtain ⟨v_65, ev_65⟩ : ∃ z : Int32, z = f_54 0 16 := ⟨_, rfl⟩
            have q_66 : 0 ≤ v_65.toInt ∧ v_65.toInt ≤ 6 := by rw [ev_65]; exact hI 0 16
            have q_67 : (f_54 0 16).toInt = v_65.toInt := (congrArg Int32.toInt (show f_54 0 16 = v_65 from ev_65.symm))
            obtain ⟨v_68, ev_68⟩ : ∃ z : Int32, z = f_54 0 15 := ⟨_, rfl⟩
            have q_69 : (-1) ≤ v_68.toInt ∧ v_68.toInt ≤ 120 := by rw [ev_68]; exact hI 0 15
            have q_70 : (f_54 0 15).toInt = v_68.toInt := (congrArg Int32.toInt (show f_54 0 15 = v_68 from ev_68.symm))
            refine lv_istore_n (lv' := [(3, .int r_57), (2, .int 1), (0, .ref (h 0)), (1, .int y1_5)]) hx hb dX12_sums_59 rfl hl (by decide) rfl (fun ls hl => ?_)
            refine lv_iload_n hx hb dX12_sums_60 rfl (lv_at hl 1 rfl) ?_
            refine lv_if_eq (tgt := 70) hx hb dX12_sums_61 (by decide) (fun c => absurd c (by decide)) (fun c => ?_)
            refine lv_iload_n hx hb dX12_sums_64 rfl (lv_at hl 3 rfl) ?_
            refine lv_iload_n hx hb dX12_sums_65 rfl (lv_at hl 0 rfl) ?_
            refine lv_iadd hx hb dX12_sums_66 ?_
            refine lv_topi (fun v_72 ev_72 => ?_)
            refine lv_goto (tgt := 73) hx hb dX12_sums_67 (by decide) ?_
            refine lv_istore_n (lv' := [(1, .int v_72), (3, .int r_57), (2, .int 1), (0, .ref (h 0))]) hx hb dX12_sums_73 rfl hl (by decide) rfl (fun ls hl => ?_)
            refine lv_goto (tgt := 5) hx hb dX12_sums_74 (by decide) ?_
            exact ih_5 v_72 f_54 _ _ _ (hs.trans ((if_pos c_35).trans (spl_e ev_47 (spl_e ef_49 (spl2_e u_61 (spl_e ev_62 (spl_e ev_65 (spl_e ev_68 (spl_e ev_72 rfl))))))))) (by have zz0_13 : (f_54 0 13).toInt = v_62.toInt := (congrArg Int32.toInt (show f_54 0 13 = v_62 from ev_62.symm)); omega) (by have zz0_13 : (f_54 0 13).toInt = v_62.toInt := (congrArg Int32.toInt (show f_54 0 13 = v_62 from ev_62.symm)); omega) (by have zz0_16 : (f_54 0 16).toInt = v_65.toInt := (congrArg Int32.toInt (show f_54 0 16 = v_65 from ev_65.symm)); omega) (by have zz0_15 : (f_54 0 15).toInt = v_68.toInt := (congrArg Int32.toInt (show f_54 0 15 = v_68 from ev_68.symm)); have zz0_16 : (f_54 0 16).toInt = v_65.toInt := (congrArg Int32.toInt (show f_54 0 16 = v_65 from ev_65.symm)); omega) hI hF hP hS (lv_sub hl [3, 0] rfl)
        · skip
          have c_36 : r_32.toInt ≠ 43 := (by first | exact (cm_ne1 ti_43 c) | (have z := bn_ne c; have k1 : (43 : Int32).toInt = 43 := ti_43; omega))
          replace hs := hs.trans ((if_neg c_36).trans rfl)
          refine lv_aload_n hx hb dX12_sums_21 rfl (lv_at hl 0 rfl) ?_
          refine sg_calli (va_runV (As := []) (rest := []) ⟨hx, hb, hml, hown, hts⟩ (kX12_byteAt l D ca za h hh fp_5 L Q hI H.size) (sl_c12_byteAt_0_0_0_0_12 hts ⟨Nat.le_of_ble_eq_true rfl, Nat.le_of_ble_eq_true rfl⟩) (sl_vM_0 hA hK hP hS hZ) rfl rfl hl.1 rfl (lv_room (Nat.le_of_ble_eq_true rfl)) dX12_sums_22 ⟨Nat.le_refl _, Nat.le_refl _⟩) hA hS (fun r_78 f_75 L_76 Q_77 H locs hq hP hS => ?_)
          obtain ⟨⟨ef9, eL9, eQ9⟩, hq, p_79, u_80⟩ := hq
          rw [ef9, eL9, eQ9] at hP; clear ef9 eL9 eQ9
          rw [show r_78 = r_32 from u_80.trans u_34.symm]
          refine lv_bipush (v := 45) hx hb dX12_sums_25 bp_45 ?_
          refine lv_icmp_ne (tgt := 77) hx hb dX12_sums_27 (by decide) (fun c => ?_) (fun c => ?_)
          · skip
            have c_81 : r_32.toInt ≠ 45 := (by first | exact (cm_ne1 ti_45 c) | (have z := bn_ne c; have k1 : (45 : Int32).toInt = 45 := ti_45; omega))
            refine lv_iload_n hx hb dX12_sums_77 rfl (lv_at hl 1 rfl) ?_
            exact hret _ _ _ _ (y1_5) fp_5 L Q dX12_sums_78 hP hS ⟨⟨hI, hF, rfl, rfl⟩, trivial, (by omega), (by omega), (by omega), (Eq.trans (Eq.symm (hs.trans ((if_neg c_81).trans rfl))) hsp)⟩
          · skip
            have c_82 : r_32.toInt = 45 := (by first | exact (cm_eq1 ti_45 c) | (have z := Int32.toInt_inj.mpr c; have k1 : (45 : Int32).toInt = 45 := ti_45; omega))
            refine lv_aload_n hx hb dX12_sums_30 rfl (lv_at hl 0 rfl) ?_
            refine sg_calli (va_runV (As := []) (rest := []) ⟨hx, hb, hml, hown, hts⟩ (kX12_byteAt l D ca za h hh fp_5 L Q hI H.size) (sl_c12_byteAt_0_0_0_0_12 hts ⟨Nat.le_of_ble_eq_true rfl, Nat.le_of_ble_eq_true rfl⟩) (sl_vM_0 hA hK hP hS hZ) rfl rfl hl.1 rfl (lv_room (Nat.le_of_ble_eq_true rfl)) dX12_sums_31 ⟨Nat.le_refl _, Nat.le_refl _⟩) hA hS (fun r_92 f_89 L_90 Q_91 H locs hq hP hS => ?_)
            obtain ⟨⟨ef9, eL9, eQ9⟩, hq, p_93, u_94⟩ := hq
            rw [ef9, eL9, eQ9] at hP; clear ef9 eL9 eQ9
            rw [show r_92 = r_32 from u_94.trans u_34.symm]
            refine lv_bipush (v := 43) hx hb dX12_sums_34 bp_43 ?_
            refine lv_icmp_ne (tgt := 43) hx hb dX12_sums_36 (by decide) (fun c => ?_) (fun c => ?_)
            · skip
              have c_95 : r_32.toInt ≠ 43 := (by first | exact (cm_ne1 ti_43 c) | (have z := bn_ne c; have k1 : (43 : Int32).toInt = 43 := ti_43; omega))
              refine lv_iconst (v := 0) hx hb dX12_sums_43 ic_0 ?_
              refine lv_istore_n (lv' := [(2, .int 0), (0, .ref (h 0)), (1, .int y1_5)]) hx hb dX12_sums_44 rfl hl (by decide) rfl (fun ls hl => ?_)
              refine lv_aload_n hx hb dX12_sums_45 rfl (lv_at hl 1 rfl) ?_
              refine lv_dup hx hb dX12_sums_46 rfl ?_
              refine sl_gM_0_13_12 (v := v_10) hx hb hts hown hK hP (show fp_5 0 13 = v_10 from ev_10.symm) dX12_sums_47 ?_
              refine lv_iconst (v := 1) hx hb dX12_sums_50 ic_1 ?_
              refine lv_iadd hx hb dX12_sums_51 ?_
              refine lv_topi (fun v_97 ev_97 => ?_)
              have q_98 : v_97.toInt = v_10.toInt + 1 := by rw [ev_97]; first | exact cm_add ti_1 (by omega) (by omega) | (have k1 : (1 : Int32).toInt = 1 := ti_1; exact (bn_addI (by omega) (by omega)).trans (by omega))
              refine sl_pM_0_13_12 (x := v_97) hx hb hts hown hh hA hK hP hS dX12_sums_52 (fun f_99 H locs ef_99 hP hS => ?_)
              have hI : sgI loM hiM f_99 := by rw [ef_99]; exact sgI.put hI 0 13 (show 0 ≤ (v_97 : Int32).toInt ∧ (v_97 : Int32).toInt ≤ 120 from ⟨by omega, by omega⟩)
              have hF : sgK WkX12_sums_4 f f_99 := sgK.put hF ef_99 (by rfl)
              refine lv_aload_n hx hb dX12_sums_55 rfl (lv_at hl 1 rfl) ?_
              have q_100 : (f_99 0 16).toInt = v_13.toInt := (congrArg Int32.toInt (show f_99 0 16 = v_13 from (by rw [ef_99, sg_up_s, sgu_n (by decide)]; exact ev_13.symm)))
              have q_101 : (f_99 0 15).toInt = v_16.toInt := (congrArg Int32.toInt (show f_99 0 15 = v_16 from (by rw [ef_99, sg_up_s, sgu_n (by decide)]; exact ev_16.symm)))
              have q_103 : (f_99 0 13).toInt = v_97.toInt := (congrArg Int32.toInt (show f_99 0 13 = v_97 from (by rw [ef_99, sg_up_s, sgu_s])))
              refine sg_calli (va_runV (As := []) (rest := []) ⟨hx, hb, hml, hown, hts⟩ (kX12_product_4 l D ca za h hh f_99 L Q hI (by omega) (by omega) H.size) (sl_c12_product_14_0_0_318_12 hts ⟨Nat.le_of_ble_eq_true rfl, Nat.le_of_ble_eq_true rfl⟩) (sl_vM_0 hA hK hP hS hZ) rfl rfl hl.1 rfl (lv_room (Nat.le_of_ble_eq_true rfl)) dX12_sums_56 ⟨Nat.le_refl _, Nat.le_refl _⟩) hA hS (fun r_107 f_104 L_105 Q_106 H locs hq hP hS => ?_)
              obtain ⟨⟨hI, hk_f_104, eL9, eQ9⟩, hq, p_108, p_109, p_110, u_111⟩ := hq
              rw [eL9, eQ9] at hP; clear eL9 eQ9
              have hF : sgK WkX12_sums_4 f f_104 := sgK.tr hF hk_f_104 (by decide +kernel)
              obtain ⟨v_112, ev_112⟩ : ∃ z : Int32, z = f_104 0 13 := ⟨_, rfl⟩
              have q_113 : 0 ≤ v_112.toInt ∧ v_112.toInt ≤ 120 := by rw [ev_112]; exact hI 0 13
              have q_114 : (f_104 0 13).toInt = v_112.toInt := (congrArg Int32.toInt (show f_104 0 13 = v_112 from ev_112.symm))
              obtain ⟨v_115, ev_115⟩ : ∃ z : Int32, z = f_104 0 16 := ⟨_, rfl⟩
              have q_116 : 0 ≤ v_115.toInt ∧ v_115.toInt ≤ 6 := by rw [ev_115]; exact hI 0 16
              have q_117 : (f_104 0 16).toInt = v_115.toInt := (congrArg Int32.toInt (show f_104 0 16 = v_115 from ev_115.symm))
              obtain ⟨v_118, ev_118⟩ : ∃ z : Int32, z = f_104 0 15 := ⟨_, rfl⟩
              have q_119 : (-1) ≤ v_118.toInt ∧ v_118.toInt ≤ 120 := by rw [ev_118]; exact hI 0 15
              have q_120 : (f_104 0 15).toInt = v_118.toInt := (congrArg Int32.toInt (show f_104 0 15 = v_118 from ev_118.symm))
              refine lv_istore_n (lv' := [(3, .int r_107), (2, .int 0), (0, .ref (h 0)), (1, .int y1_5)]) hx hb dX12_sums_59 rfl hl (by decide) rfl (fun ls hl => ?_)
              refine lv_iload_n hx hb dX12_sums_60 rfl (lv_at hl 1 rfl) ?_
              refine lv_if_eq (tgt := 70) hx hb dX12_sums_61 (by decide) (fun c => ?_) (fun c => absurd c (by decide))
              refine lv_iload_n hx hb dX12_sums_70 rfl (lv_at hl 3 rfl) ?_
              refine lv_iload_n hx hb dX12_sums_71 rfl (lv_at hl 0 rfl) ?_
              refine lv_isub hx hb dX12_sums_72 ?_
              refine lv_topi (fun v_122 ev_122 => ?_)
              refine lv_istore_n (lv' := [(1, .int v_122), (3, .int r_107), (2, .int 0), (0, .ref (h 0))]) hx hb dX12_sums_73 rfl hl (by decide) rfl (fun ls hl => ?_)
              refine lv_goto (tgt := 5) hx hb dX12_sums_74 (by decide) ?_
              exact ih_5 v_122 f_104 _ _ _ (hs.trans ((if_pos c_82).trans (spl_e ev_97 (spl_e ef_99 (spl2_e u_111 (spl_e ev_112 (spl_e ev_115 (spl_e ev_118 (spl_e ev_122 rfl))))))))) (by have zz0_13 : (f_104 0 13).toInt = v_112.toInt := (congrArg Int32.toInt (show f_104 0 13 = v_112 from ev_112.symm)); omega) (by have zz0_13 : (f_104 0 13).toInt = v_112.toInt := (congrArg Int32.toInt (show f_104 0 13 = v_112 from ev_112.symm)); omega) (by have zz0_16 : (f_104 0 16).toInt = v_115.toInt := (congrArg Int32.toInt (show f_104 0 16 = v_115 from ev_115.symm)); omega) (by have zz0_15 : (f_104 0 15).toInt = v_118.toInt := (congrArg Int32.toInt (show f_104 0 15 = v_118 from ev_118.symm)); have zz0_16 : (f_104 0 16).toInt = v_115.toInt := (congrArg Int32.toInt (show f_104 0 16 = v_115 from ev_115.symm)); omega) hI hF hP hS (lv_sub hl [3, 0] rfl)
            · skip
              exfalso; have c_96 : r_32.toInt = 43 := (by first | exact (cm_eq1 ti_43 c) | (have z := Int32.toInt_inj.mpr c; have k1 : (43 : Int32).toInt = 43 := ti_43; omega)); first | exact absurd c_96 (by assumption) | omega
  refine lv_aload_n hx hb dX12_sums_0 rfl (lv_at hl 0 rfl) ?_
  have q_123 : (f 0 16).toInt = v_1.toInt := (congrArg Int32.toInt (show f 0 16 = v_1 from ev_1.symm))
  have q_124 : (f 0 15).toInt = v_3.toInt := (congrArg Int32.toInt (show f 0 15 = v_3 from ev_3.symm))
  have q_126 : (f 0 13).toInt = v_5.toInt := (congrArg Int32.toInt (show f 0 13 = v_5 from ev_5.symm))
  refine sg_calli (va_runV (As := []) (rest := []) ⟨hx, hb, hml, hown, hts⟩ (kX12_product_4 l D ca za h hh f L Q hI (by omega) (by omega) H.size) (sl_c12_product_14_0_0_318_12 hts ⟨Nat.le_of_ble_eq_true rfl, Nat.le_of_ble_eq_true rfl⟩) (sl_vM_0 hA hK hP hS hZ) rfl rfl hl.1 rfl (lv_room (Nat.le_of_ble_eq_true rfl)) dX12_sums_1 ⟨Nat.le_refl _, Nat.le_refl _⟩) hA hS (fun r_130 f_127 L_128 Q_129 H locs hq hP hS => ?_)
  obtain ⟨⟨hI, hk_f_127, eL9, eQ9⟩, hq, p_131, p_132, p_133, u_134⟩ := hq
  rw [eL9, eQ9] at hP; clear eL9 eQ9
  have hF : sgK WkX12_sums_4 f f_127 := sgK.tr hF hk_f_127 (by decide +kernel)
  obtain ⟨v_135, ev_135⟩ : ∃ z : Int32, z = f_127 0 13 := ⟨_, rfl⟩
  have q_136 : 0 ≤ v_135.toInt ∧ v_135.toInt ≤ 120 := by rw [ev_135]; exact hI 0 13
  have q_137 : (f_127 0 13).toInt = v_135.toInt := (congrArg Int32.toInt (show f_127 0 13 = v_135 from ev_135.symm))
  obtain ⟨v_138, ev_138⟩ : ∃ z : Int32, z = f_127 0 16 := ⟨_, rfl⟩
  have q_139 : 0 ≤ v_138.toInt ∧ v_138.toInt ≤ 6 := by rw [ev_138]; exact hI 0 16
  have q_140 : (f_127 0 16).toInt = v_138.toInt := (congrArg Int32.toInt (show f_127 0 16 = v_138 from ev_138.symm))
  obtain ⟨v_141, ev_141⟩ : ∃ z : Int32, z = f_127 0 15 := ⟨_, rfl⟩
  have q_142 : (-1) ≤ v_141.toInt ∧ v_141.toInt ≤ 120 := by rw [ev_141]; exact hI 0 15
  have q_143 : (f_127 0 15).toInt = v_141.toInt := (congrArg Int32.toInt (show f_127 0 15 = v_141 from ev_141.symm))
  refine lv_istore_n (lv' := [(1, .int r_130), (0, .ref (h 0))]) hx hb dX12_sums_4 rfl hl (by decide) rfl (fun ls hl => ?_)
  exact loop_5 121 r_130 f_127 _ _ _ (hs.trans ((spl_e ev_1 (spl_e ev_3 (spl_e ev_5 (spl2_e u_134 (spl_e ev_135 (spl_e ev_138 (spl_e ev_141 rfl))))))))) (by have zz0_13 : (f_127 0 13).toInt = v_135.toInt := (congrArg Int32.toInt (show f_127 0 13 = v_135 from ev_135.symm)); omega) (by have zz0_13 : (f_127 0 13).toInt = v_135.toInt := (congrArg Int32.toInt (show f_127 0 13 = v_135 from ev_135.symm)); omega) (by have zz0_16 : (f_127 0 16).toInt = v_138.toInt := (congrArg Int32.toInt (show f_127 0 16 = v_138 from ev_138.symm)); omega) (by have zz0_15 : (f_127 0 15).toInt = v_141.toInt := (congrArg Int32.toInt (show f_127 0 15 = v_141 from ev_141.symm)); have zz0_16 : (f_127 0 16).toInt = v_138.toInt := (congrArg Int32.toInt (show f_127 0 16 = v_138 from ev_138.symm)); omega) hI hF hP hS (lv_sub hl [1, 0] rfl)
