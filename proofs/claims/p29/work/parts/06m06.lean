/-! contracts of any state. Laid by a program (wip/tool) -/
abbrev WkX12_begins_2_f1 : List (Nat × Nat × Option Nat) := [(0, 0, some 48), (21, 21, some 1)]
set_option maxHeartbeats 4000000 in
set_option maxRecDepth 100000 in
theorem kX12_begins_2_f1 (l : Launch) (D : va_G) (ca : Nat → ClassId) (za h : Nat → Nat) (hh : sgH 26 h) (f : sg_F) (L : sg_L) (Q : sg_Q) (hI : sgI loM hiM f) (hf_0_48 : f 0 48 = 1) (p0 : 1 ≤ (f 0 48).toInt ∧ (f 0 48).toInt ≤ 1) (sz : Nat) : Met l yX12_begins gwX12_begins { frames := 0, cells := 0, slots := 0, locals := 0 } (sgP D vwCl (tyX ca) 26 h (eM ca h) zcM za f L Q sz [.ref (h 0), .int 2]) (sgQv D vwCl 26 h (eM ca h) sz (fun f1 L1 Q1 => ((sgI loM hiM f1 ∧ sgK WkX12_begins_2_f1 f f1 ∧ L1 = L ∧ Q1 = Q) ∧ (2 ≤ (f1 0 48).toInt ∧ (f1 0 48).toInt ≤ 2) ∧ (f1) = sX12_begins_2_f1 f L))) 0 0 (sgA 26 h sz) := by
  refine sg_ofWv (cc := cX12_begins) (maxL := 2) RX12 (by decide) rfl rfl (Nat.le_of_ble_eq_true rfl) ?_
  intro p e s m below meth cd Qz ls hx hb hml hown hts hK hZ hP hS hl hret
  have hA := sgY.self (n := 26) (h := h) (sz := s.heap.size)
  have hl : lv_has ls 2 [(0, .ref (h 0)), (1, .int 2)] := hl
  obtain ⟨H, hH⟩ : ∃ z : Heap, z = s.heap := ⟨_, rfl⟩
  obtain ⟨locs, hlo⟩ : ∃ z : List Loc, z = [] := ⟨_, rfl⟩
  have hP : va_P D vwCl (sgw 26 h (eM ca h) f L Q) H := by rw [hH]; exact hP
  have hS : va_S (sgA 26 h s.heap.size) s.heap H locs := by rw [hH, hlo]; exact hS
  suffices hgo : W p l e ({ frames := 0, cells := 0, slots := 0, locals := 0 }) s m ([.ref (h 0), .int 2] : List Value).toArray below meth cd H locs 0 0 Qz (F0 m 0 ls []) by rw [hH, hlo] at hgo; exact hgo
  clear hH hlo
  obtain ⟨sp, hsp⟩ : ∃ z : sg_F, z = sX12_begins_2_f1 f L := ⟨_, rfl⟩
  have hs : sp = sX12_begins_2_f1 f L := hsp
  have o_1 : (f 0 48).toInt = 1 := (congrArg Int32.toInt (show f 0 48 = 1 from hf_0_48)).trans (by decide)
  have hF : sgK WkX12_begins_2_f1 f f := sgK.rf
  have blk_19 : ∀ (fp_19 : sg_F) (H : Heap) (locs : List Loc) (ls : Array Slot), sp = sX12_begins_2_f1_b19 fp_19 L → 1 ≤ (fp_19 0 48).toInt ∧ (fp_19 0 48).toInt ≤ 1 → sgI loM hiM fp_19 → sgK WkX12_begins_2_f1 f fp_19 → va_P D vwCl (sgw 26 h (eM ca h) fp_19 L Q) H → va_S (sgA 26 h s.heap.size) s.heap H locs → lv_has ls 2 [(0, .ref (h 0))] → W p l e ({ frames := 0, cells := 0, slots := 0, locals := 0 }) s m ([.ref (h 0), .int 2] : List Value).toArray below meth cd H locs 0 0 Qz (F0 m 19 ls []) := by
    intro fp_19 H locs ls hs hy0_19 hI hF hP hS hl
    obtain ⟨v_2, ev_2⟩ : ∃ z : Int32, z = fp_19 0 48 := ⟨_, rfl⟩
    have q_3 : 0 ≤ v_2.toInt ∧ v_2.toInt ≤ 19 := by rw [ev_2]; exact hI 0 48
    have q_4 : (fp_19 0 48).toInt = v_2.toInt := by rw [ev_2]
    refine lv_aload_n hx hb dX12_begins_19 rfl (lv_at hl 0 rfl) ?_
    refine lv_dup hx hb dX12_begins_20 rfl ?_
    refine sl_gM_0_48_12 (v := v_2) hx hb hts hown hK hP (show fp_19 0 48 = v_2 from ev_2.symm) dX12_begins_21 ?_
    refine lv_iconst (v := 1) hx hb dX12_begins_24 ic_1 ?_
    refine lv_iadd hx hb dX12_begins_25 ?_
    refine lv_topi (fun v_5 ev_5 => ?_)
    have q_6 : v_5.toInt = v_2.toInt + 1 := by rw [ev_5]; first | exact cm_add ti_1 (by omega) (by omega) | (have k1 : (1 : Int32).toInt = 1 := ti_1; exact (bn_addI (by omega) (by omega)).trans (by omega))
    refine sl_pM_0_48_12 (x := v_5) hx hb hts hown hh hA hK hP hS dX12_begins_26 (fun f_7 H locs ef_7 hP hS => ?_)
    have hI : sgI loM hiM f_7 := by rw [ef_7]; exact sgI.put hI 0 48 (show 0 ≤ (v_5 : Int32).toInt ∧ (v_5 : Int32).toInt ≤ 19 from ⟨by omega, by omega⟩)
    have hF : sgK WkX12_begins_2_f1 f f_7 := sgK.put hF ef_7 (by rfl)
    have q_8 : (f_7 0 48).toInt = v_5.toInt := (congrArg Int32.toInt (show f_7 0 48 = v_5 from (by rw [ef_7, sg_up_s, sgu_s])))
    exact hret _ _ _ _ f_7 L Q dX12_begins_29 hP hS ⟨⟨hI, hF, rfl, rfl⟩, ⟨by omega, by omega⟩, (Eq.trans (Eq.symm (hs.trans ((spl_e ev_2 (spl_e ev_5 (spl_e ef_7 rfl)))))) hsp)⟩
  refine lv_aload_n hx hb dX12_begins_0 rfl (lv_at hl 0 rfl) ?_
  refine sl_gM_0_48_12 (v := 1) hx hb hts hown hK hP (show f 0 48 = 1 from hf_0_48) dX12_begins_1 ?_
  refine lv_bipush (v := 24) hx hb dX12_begins_4 bp_24 ?_
  refine lv_icmp_ge (tgt := 19) hx hb dX12_begins_6 (by decide) (fun c => absurd c (by decide)) (fun c => ?_)
  refine lv_aload_n hx hb dX12_begins_9 rfl (lv_at hl 0 rfl) ?_
  refine sl_gM_0_47_12 hx hb hts hown hK hP dX12_begins_10 ?_
  refine lv_aload_n hx hb dX12_begins_13 rfl (lv_at hl 0 rfl) ?_
  refine sl_gM_0_48_12 (v := 1) hx hb hts hown hK hP (show f 0 48 = 1 from hf_0_48) dX12_begins_14 ?_
  refine lv_iload_n hx hb dX12_begins_17 rfl (lv_at hl 1 rfl) ?_
  refine sg_iast hx hb hh hA hK hP hS 21 (by decide) 0 (fun _ => rfl) rfl (i := 1) (x := 2) (vp_in_iff.mpr (by decide)) dX12_begins_18 (fun f_10 H locs ef_10 hP hS => ?_)
  have ef_10 : f_10 = sg_up f 21 (sgu (f 21) 1 2) := ef_10
  have hI : sgI loM hiM f_10 := by rw [ef_10]; exact sgI.put hI 21 1 (show 0 ≤ (2 : Int32).toInt ∧ (2 : Int32).toInt ≤ 81 from by decide)
  have hF : sgK WkX12_begins_2_f1 f f_10 := sgK.put hF ef_10 (by rfl)
  exact blk_19 f_10 _ _ _ (hs.trans ((spl_e ef_10 rfl))) (by have zz0_48 : (f_10 0 48).toInt = 1 := (congrArg Int32.toInt (show f_10 0 48 = 1 from (by rw [ef_10, sg_up_n (by decide)]; exact hf_0_48))).trans (by decide); exact ⟨by omega, by omega⟩) hI hF hP hS (lv_sub hl [0] rfl)

abbrev WkX12_begins_41_f2 : List (Nat × Nat × Option Nat) := [(0, 0, some 48), (21, 21, some 2)]
set_option maxHeartbeats 4000000 in
set_option maxRecDepth 100000 in
theorem kX12_begins_41_f2 (l : Launch) (D : va_G) (ca : Nat → ClassId) (za h : Nat → Nat) (hh : sgH 26 h) (f : sg_F) (L : sg_L) (Q : sg_Q) (hI : sgI loM hiM f) (hf_0_48 : f 0 48 = 2) (p0 : 2 ≤ (f 0 48).toInt ∧ (f 0 48).toInt ≤ 2) (sz : Nat) : Met l yX12_begins gwX12_begins { frames := 0, cells := 0, slots := 0, locals := 0 } (sgP D vwCl (tyX ca) 26 h (eM ca h) zcM za f L Q sz [.ref (h 0), .int 41]) (sgQv D vwCl 26 h (eM ca h) sz (fun f1 L1 Q1 => ((sgI loM hiM f1 ∧ sgK WkX12_begins_41_f2 f f1 ∧ L1 = L ∧ Q1 = Q) ∧ (3 ≤ (f1 0 48).toInt ∧ (f1 0 48).toInt ≤ 3) ∧ (f1) = sX12_begins_41_f2 f L))) 0 0 (sgA 26 h sz) := by
  refine sg_ofWv (cc := cX12_begins) (maxL := 2) RX12 (by decide) rfl rfl (Nat.le_of_ble_eq_true rfl) ?_
  intro p e s m below meth cd Qz ls hx hb hml hown hts hK hZ hP hS hl hret
  have hA := sgY.self (n := 26) (h := h) (sz := s.heap.size)
  have hl : lv_has ls 2 [(0, .ref (h 0)), (1, .int 41)] := hl
  obtain ⟨H, hH⟩ : ∃ z : Heap, z = s.heap := ⟨_, rfl⟩
  obtain ⟨locs, hlo⟩ : ∃ z : List Loc, z = [] := ⟨_, rfl⟩
  have hP : va_P D vwCl (sgw 26 h (eM ca h) f L Q) H := by rw [hH]; exact hP
  have hS : va_S (sgA 26 h s.heap.size) s.heap H locs := by rw [hH, hlo]; exact hS
  suffices hgo : W p l e ({ frames := 0, cells := 0, slots := 0, locals := 0 }) s m ([.ref (h 0), .int 41] : List Value).toArray below meth cd H locs 0 0 Qz (F0 m 0 ls []) by rw [hH, hlo] at hgo; exact hgo
  clear hH hlo
  obtain ⟨sp, hsp⟩ : ∃ z : sg_F, z = sX12_begins_41_f2 f L := ⟨_, rfl⟩
  have hs : sp = sX12_begins_41_f2 f L := hsp
  have o_1 : (f 0 48).toInt = 2 := (congrArg Int32.toInt (show f 0 48 = 2 from hf_0_48)).trans (by decide)
  have hF : sgK WkX12_begins_41_f2 f f := sgK.rf
  have blk_19 : ∀ (fp_19 : sg_F) (H : Heap) (locs : List Loc) (ls : Array Slot), sp = sX12_begins_41_f2_b19 fp_19 L → 2 ≤ (fp_19 0 48).toInt ∧ (fp_19 0 48).toInt ≤ 2 → sgI loM hiM fp_19 → sgK WkX12_begins_41_f2 f fp_19 → va_P D vwCl (sgw 26 h (eM ca h) fp_19 L Q) H → va_S (sgA 26 h s.heap.size) s.heap H locs → lv_has ls 2 [(0, .ref (h 0))] → W p l e ({ frames := 0, cells := 0, slots := 0, locals := 0 }) s m ([.ref (h 0), .int 41] : List Value).toArray below meth cd H locs 0 0 Qz (F0 m 19 ls []) := by
    intro fp_19 H locs ls hs hy0_19 hI hF hP hS hl
    obtain ⟨v_2, ev_2⟩ : ∃ z : Int32, z = fp_19 0 48 := ⟨_, rfl⟩
    have q_3 : 0 ≤ v_2.toInt ∧ v_2.toInt ≤ 19 := by rw [ev_2]; exact hI 0 48
    have q_4 : (fp_19 0 48).toInt = v_2.toInt := by rw [ev_2]
    refine lv_aload_n hx hb dX12_begins_19 rfl (lv_at hl 0 rfl) ?_
    refine lv_dup hx hb dX12_begins_20 rfl ?_
    refine sl_gM_0_48_12 (v := v_2) hx hb hts hown hK hP (show fp_19 0 48 = v_2 from ev_2.symm) dX12_begins_21 ?_
    refine lv_iconst (v := 1) hx hb dX12_begins_24 ic_1 ?_
    refine lv_iadd hx hb dX12_begins_25 ?_
    refine lv_topi (fun v_5 ev_5 => ?_)
    have q_6 : v_5.toInt = v_2.toInt + 1 := by rw [ev_5]; first | exact cm_add ti_1 (by omega) (by omega) | (have k1 : (1 : Int32).toInt = 1 := ti_1; exact (bn_addI (by omega) (by omega)).trans (by omega))
    refine sl_pM_0_48_12 (x := v_5) hx hb hts hown hh hA hK hP hS dX12_begins_26 (fun f_7 H locs ef_7 hP hS => ?_)
    have hI : sgI loM hiM f_7 := by rw [ef_7]; exact sgI.put hI 0 48 (show 0 ≤ (v_5 : Int32).toInt ∧ (v_5 : Int32).toInt ≤ 19 from ⟨by omega, by omega⟩)
    have hF : sgK WkX12_begins_41_f2 f f_7 := sgK.put hF ef_7 (by rfl)
    have q_8 : (f_7 0 48).toInt = v_5.toInt := (congrArg Int32.toInt (show f_7 0 48 = v_5 from (by rw [ef_7, sg_up_s, sgu_s])))
    exact hret _ _ _ _ f_7 L Q dX12_begins_29 hP hS ⟨⟨hI, hF, rfl, rfl⟩, ⟨by omega, by omega⟩, (Eq.trans (Eq.symm (hs.trans ((spl_e ev_2 (spl_e ev_5 (spl_e ef_7 rfl)))))) hsp)⟩
  refine lv_aload_n hx hb dX12_begins_0 rfl (lv_at hl 0 rfl) ?_
  refine sl_gM_0_48_12 (v := 2) hx hb hts hown hK hP (show f 0 48 = 2 from hf_0_48) dX12_begins_1 ?_
  refine lv_bipush (v := 24) hx hb dX12_begins_4 bp_24 ?_
  refine lv_icmp_ge (tgt := 19) hx hb dX12_begins_6 (by decide) (fun c => absurd c (by decide)) (fun c => ?_)
  refine lv_aload_n hx hb dX12_begins_9 rfl (lv_at hl 0 rfl) ?_
  refine sl_gM_0_47_12 hx hb hts hown hK hP dX12_begins_10 ?_
  refine lv_aload_n hx hb dX12_begins_13 rfl (lv_at hl 0 rfl) ?_
  refine sl_gM_0_48_12 (v := 2) hx hb hts hown hK hP (show f 0 48 = 2 from hf_0_48) dX12_begins_14 ?_
  refine lv_iload_n hx hb dX12_begins_17 rfl (lv_at hl 1 rfl) ?_
  refine sg_iast hx hb hh hA hK hP hS 21 (by decide) 0 (fun _ => rfl) rfl (i := 2) (x := 41) (vp_in_iff.mpr (by decide)) dX12_begins_18 (fun f_10 H locs ef_10 hP hS => ?_)
  have ef_10 : f_10 = sg_up f 21 (sgu (f 21) 2 41) := ef_10
  have hI : sgI loM hiM f_10 := by rw [ef_10]; exact sgI.put hI 21 2 (show 0 ≤ (41 : Int32).toInt ∧ (41 : Int32).toInt ≤ 81 from by decide)
  have hF : sgK WkX12_begins_41_f2 f f_10 := sgK.put hF ef_10 (by rfl)
  exact blk_19 f_10 _ _ _ (hs.trans ((spl_e ef_10 rfl))) (by have zz0_48 : (f_10 0 48).toInt = 2 := (congrArg Int32.toInt (show f_10 0 48 = 2 from (by rw [ef_10, sg_up_n (by decide)]; exact hf_0_48))).trans (by decide); exact ⟨by omega, by omega⟩) hI hF hP hS (lv_sub hl [0] rfl)

abbrev WkX12_begins_30_f3 : List (Nat × Nat × Option Nat) := [(0, 0, some 48), (21, 21, some 3)]
set_option maxHeartbeats 4000000 in
set_option maxRecDepth 100000 in
theorem kX12_begins_30_f3 (l : Launch) (D : va_G) (ca : Nat → ClassId) (za h : Nat → Nat) (hh : sgH 26 h) (f : sg_F) (L : sg_L) (Q : sg_Q) (hI : sgI loM hiM f) (hf_0_48 : f 0 48 = 3) (p0 : 3 ≤ (f 0 48).toInt ∧ (f 0 48).toInt ≤ 3) (sz : Nat) : Met l yX12_begins gwX12_begins { frames := 0, cells := 0, slots := 0, locals := 0 } (sgP D vwCl (tyX ca) 26 h (eM ca h) zcM za f L Q sz [.ref (h 0), .int 30]) (sgQv D vwCl 26 h (eM ca h) sz (fun f1 L1 Q1 => ((sgI loM hiM f1 ∧ sgK WkX12_begins_30_f3 f f1 ∧ L1 = L ∧ Q1 = Q) ∧ (4 ≤ (f1 0 48).toInt ∧ (f1 0 48).toInt ≤ 4) ∧ (f1) = sX12_begins_30_f3 f L))) 0 0 (sgA 26 h sz) := by
  refine sg_ofWv (cc := cX12_begins) (maxL := 2) RX12 (by decide) rfl rfl (Nat.le_of_ble_eq_true rfl) ?_
  intro p e s m below meth cd Qz ls hx hb hml hown hts hK hZ hP hS hl hret
  have hA := sgY.self (n := 26) (h := h) (sz := s.heap.size)
  have hl : lv_has ls 2 [(0, .ref (h 0)), (1, .int 30)] := hl
  obtain ⟨H, hH⟩ : ∃ z : Heap, z = s.heap := ⟨_, rfl⟩
  obtain ⟨locs, hlo⟩ : ∃ z : List Loc, z = [] := ⟨_, rfl⟩
  have hP : va_P D vwCl (sgw 26 h (eM ca h) f L Q) H := by rw [hH]; exact hP
  have hS : va_S (sgA 26 h s.heap.size) s.heap H locs := by rw [hH, hlo]; exact hS
  suffices hgo : W p l e ({ frames := 0, cells := 0, slots := 0, locals := 0 }) s m ([.ref (h 0), .int 30] : List Value).toArray below meth cd H locs 0 0 Qz (F0 m 0 ls []) by rw [hH, hlo] at hgo; exact hgo
  clear hH hlo
  obtain ⟨sp, hsp⟩ : ∃ z : sg_F, z = sX12_begins_30_f3 f L := ⟨_, rfl⟩
  have hs : sp = sX12_begins_30_f3 f L := hsp
  have o_1 : (f 0 48).toInt = 3 := (congrArg Int32.toInt (show f 0 48 = 3 from hf_0_48)).trans (by decide)
  have hF : sgK WkX12_begins_30_f3 f f := sgK.rf
  have blk_19 : ∀ (fp_19 : sg_F) (H : Heap) (locs : List Loc) (ls : Array Slot), sp = sX12_begins_30_f3_b19 fp_19 L → 3 ≤ (fp_19 0 48).toInt ∧ (fp_19 0 48).toInt ≤ 3 → sgI loM hiM fp_19 → sgK WkX12_begins_30_f3 f fp_19 → va_P D vwCl (sgw 26 h (eM ca h) fp_19 L Q) H → va_S (sgA 26 h s.heap.size) s.heap H locs → lv_has ls 2 [(0, .ref (h 0))] → W p l e ({ frames := 0, cells := 0, slots := 0, locals := 0 }) s m ([.ref (h 0), .int 30] : List Value).toArray below meth cd H locs 0 0 Qz (F0 m 19 ls []) := by
    intro fp_19 H locs ls hs hy0_19 hI hF hP hS hl
    obtain ⟨v_2, ev_2⟩ : ∃ z : Int32, z = fp_19 0 48 := ⟨_, rfl⟩
    have q_3 : 0 ≤ v_2.toInt ∧ v_2.toInt ≤ 19 := by rw [ev_2]; exact hI 0 48
    have q_4 : (fp_19 0 48).toInt = v_2.toInt := by rw [ev_2]
    refine lv_aload_n hx hb dX12_begins_19 rfl (lv_at hl 0 rfl) ?_
    refine lv_dup hx hb dX12_begins_20 rfl ?_
    refine sl_gM_0_48_12 (v := v_2) hx hb hts hown hK hP (show fp_19 0 48 = v_2 from ev_2.symm) dX12_begins_21 ?_
    refine lv_iconst (v := 1) hx hb dX12_begins_24 ic_1 ?_
    refine lv_iadd hx hb dX12_begins_25 ?_
    refine lv_topi (fun v_5 ev_5 => ?_)
    have q_6 : v_5.toInt = v_2.toInt + 1 := by rw [ev_5]; first | exact cm_add ti_1 (by omega) (by omega) | (have k1 : (1 : Int32).toInt = 1 := ti_1; exact (bn_addI (by omega) (by omega)).trans (by omega))
    refine sl_pM_0_48_12 (x := v_5) hx hb hts hown hh hA hK hP hS dX12_begins_26 (fun f_7 H locs ef_7 hP hS => ?_)
    have hI : sgI loM hiM f_7 := by rw [ef_7]; exact sgI.put hI 0 48 (show 0 ≤ (v_5 : Int32).toInt ∧ (v_5 : Int32).toInt ≤ 19 from ⟨by omega, by omega⟩)
    have hF : sgK WkX12_begins_30_f3 f f_7 := sgK.put hF ef_7 (by rfl)
    have q_8 : (f_7 0 48).toInt = v_5.toInt := (congrArg Int32.toInt (show f_7 0 48 = v_5 from (by rw [ef_7, sg_up_s, sgu_s])))
    exact hret _ _ _ _ f_7 L Q dX12_begins_29 hP hS ⟨⟨hI, hF, rfl, rfl⟩, ⟨by omega, by omega⟩, (Eq.trans (Eq.symm (hs.trans ((spl_e ev_2 (spl_e ev_5 (spl_e ef_7 rfl)))))) hsp)⟩
  refine lv_aload_n hx hb dX12_begins_0 rfl (lv_at hl 0 rfl) ?_
  refine sl_gM_0_48_12 (v := 3) hx hb hts hown hK hP (show f 0 48 = 3 from hf_0_48) dX12_begins_1 ?_
  refine lv_bipush (v := 24) hx hb dX12_begins_4 bp_24 ?_
  refine lv_icmp_ge (tgt := 19) hx hb dX12_begins_6 (by decide) (fun c => absurd c (by decide)) (fun c => ?_)
  refine lv_aload_n hx hb dX12_begins_9 rfl (lv_at hl 0 rfl) ?_
  refine sl_gM_0_47_12 hx hb hts hown hK hP dX12_begins_10 ?_
  refine lv_aload_n hx hb dX12_begins_13 rfl (lv_at hl 0 rfl) ?_
  refine sl_gM_0_48_12 (v := 3) hx hb hts hown hK hP (show f 0 48 = 3 from hf_0_48) dX12_begins_14 ?_
  refine lv_iload_n hx hb dX12_begins_17 rfl (lv_at hl 1 rfl) ?_
  refine sg_iast hx hb hh hA hK hP hS 21 (by decide) 0 (fun _ => rfl) rfl (i := 3) (x := 30) (vp_in_iff.mpr (by decide)) dX12_begins_18 (fun f_10 H locs ef_10 hP hS => ?_)
  have ef_10 : f_10 = sg_up f 21 (sgu (f 21) 3 30) := ef_10
  have hI : sgI loM hiM f_10 := by rw [ef_10]; exact sgI.put hI 21 3 (show 0 ≤ (30 : Int32).toInt ∧ (30 : Int32).toInt ≤ 81 from by decide)
  have hF : sgK WkX12_begins_30_f3 f f_10 := sgK.put hF ef_10 (by rfl)
  exact blk_19 f_10 _ _ _ (hs.trans ((spl_e ef_10 rfl))) (by have zz0_48 : (f_10 0 48).toInt = 3 := (congrArg Int32.toInt (show f_10 0 48 = 3 from (by rw [ef_10, sg_up_n (by decide)]; exact hf_0_48))).trans (by decide); exact ⟨by omega, by omega⟩) hI hF hP hS (lv_sub hl [0] rfl)

abbrev WkX12_begins_10_f4 : List (Nat × Nat × Option Nat) := [(0, 0, some 48), (21, 21, some 4)]
set_option maxHeartbeats 4000000 in
set_option maxRecDepth 100000 in
theorem kX12_begins_10_f4 (l : Launch) (D : va_G) (ca : Nat → ClassId) (za h : Nat → Nat) (hh : sgH 26 h) (f : sg_F) (L : sg_L) (Q : sg_Q) (hI : sgI loM hiM f) (hf_0_48 : f 0 48 = 4) (p0 : 4 ≤ (f 0 48).toInt ∧ (f 0 48).toInt ≤ 4) (sz : Nat) : Met l yX12_begins gwX12_begins { frames := 0, cells := 0, slots := 0, locals := 0 } (sgP D vwCl (tyX ca) 26 h (eM ca h) zcM za f L Q sz [.ref (h 0), .int 10]) (sgQv D vwCl 26 h (eM ca h) sz (fun f1 L1 Q1 => ((sgI loM hiM f1 ∧ sgK WkX12_begins_10_f4 f f1 ∧ L1 = L ∧ Q1 = Q) ∧ (5 ≤ (f1 0 48).toInt ∧ (f1 0 48).toInt ≤ 5) ∧ (f1) = sX12_begins_10_f4 f L))) 0 0 (sgA 26 h sz) := by
  refine sg_ofWv (cc := cX12_begins) (maxL := 2) RX12 (by decide) rfl rfl (Nat.le_of_ble_eq_true rfl) ?_
  intro p e s m below meth cd Qz ls hx hb hml hown hts hK hZ hP hS hl hret
  have hA := sgY.self (n := 26) (h := h) (sz := s.heap.size)
  have hl : lv_has ls 2 [(0, .ref (h 0)), (1, .int 10)] := hl
  obtain ⟨H, hH⟩ : ∃ z : Heap, z = s.heap := ⟨_, rfl⟩
  obtain ⟨locs, hlo⟩ : ∃ z : List Loc, z = [] := ⟨_, rfl⟩
  have hP : va_P D vwCl (sgw 26 h (eM ca h) f L Q) H := by rw [hH]; exact hP
  have hS : va_S (sgA 26 h s.heap.size) s.heap H locs := by rw [hH, hlo]; exact hS
  suffices hgo : W p l e ({ frames := 0, cells := 0, slots := 0, locals := 0 }) s m ([.ref (h 0), .int 10] : List Value).toArray below meth cd H locs 0 0 Qz (F0 m 0 ls []) by rw [hH, hlo] at hgo; exact hgo
  clear hH hlo
  obtain ⟨sp, hsp⟩ : ∃ z : sg_F, z = sX12_begins_10_f4 f L := ⟨_, rfl⟩
  have hs : sp = sX12_begins_10_f4 f L := hsp
  have o_1 : (f 0 48).toInt = 4 := (congrArg Int32.toInt (show f 0 48 = 4 from hf_0_48)).trans (by decide)
  have hF : sgK WkX12_begins_10_f4 f f := sgK.rf
  have blk_19 : ∀ (fp_19 : sg_F) (H : Heap) (locs : List Loc) (ls : Array Slot), sp = sX12_begins_10_f4_b19 fp_19 L → 4 ≤ (fp_19 0 48).toInt ∧ (fp_19 0 48).toInt ≤ 4 → sgI loM hiM fp_19 → sgK WkX12_begins_10_f4 f fp_19 → va_P D vwCl (sgw 26 h (eM ca h) fp_19 L Q) H → va_S (sgA 26 h s.heap.size) s.heap H locs → lv_has ls 2 [(0, .ref (h 0))] → W p l e ({ frames := 0, cells := 0, slots := 0, locals := 0 }) s m ([.ref (h 0), .int 10] : List Value).toArray below meth cd H locs 0 0 Qz (F0 m 19 ls []) := by
    intro fp_19 H locs ls hs hy0_19 hI hF hP hS hl
    obtain ⟨v_2, ev_2⟩ : ∃ z : Int32, z = fp_19 0 48 := ⟨_, rfl⟩
    have q_3 : 0 ≤ v_2.toInt ∧ v_2.toInt ≤ 19 := by rw [ev_2]; exact hI 0 48
    have q_4 : (fp_19 0 48).toInt = v_2.toInt := by rw [ev_2]
    refine lv_aload_n hx hb dX12_begins_19 rfl (lv_at hl 0 rfl) ?_
    refine lv_dup hx hb dX12_begins_20 rfl ?_
    refine sl_gM_0_48_12 (v := v_2) hx hb hts hown hK hP (show fp_19 0 48 = v_2 from ev_2.symm) dX12_begins_21 ?_
    refine lv_iconst (v := 1) hx hb dX12_begins_24 ic_1 ?_
    refine lv_iadd hx hb dX12_begins_25 ?_
    refine lv_topi (fun v_5 ev_5 => ?_)
    have q_6 : v_5.toInt = v_2.toInt + 1 := by rw [ev_5]; first | exact cm_add ti_1 (by omega) (by omega) | (have k1 : (1 : Int32).toInt = 1 := ti_1; exact (bn_addI (by omega) (by omega)).trans (by omega))
    refine sl_pM_0_48_12 (x := v_5) hx hb hts hown hh hA hK hP hS dX12_begins_26 (fun f_7 H locs ef_7 hP hS => ?_)
    have hI : sgI loM hiM f_7 := by rw [ef_7]; exact sgI.put hI 0 48 (show 0 ≤ (v_5 : Int32).toInt ∧ (v_5 : Int32).toInt ≤ 19 from ⟨by omega, by omega⟩)
    have hF : sgK WkX12_begins_10_f4 f f_7 := sgK.put hF ef_7 (by rfl)
    have q_8 : (f_7 0 48).toInt = v_5.toInt := (congrArg Int32.toInt (show f_7 0 48 = v_5 from (by rw [ef_7, sg_up_s, sgu_s])))
    exact hret _ _ _ _ f_7 L Q dX12_begins_29 hP hS ⟨⟨hI, hF, rfl, rfl⟩, ⟨by omega, by omega⟩, (Eq.trans (Eq.symm (hs.trans ((spl_e ev_2 (spl_e ev_5 (spl_e ef_7 rfl)))))) hsp)⟩
  refine lv_aload_n hx hb dX12_begins_0 rfl (lv_at hl 0 rfl) ?_
  refine sl_gM_0_48_12 (v := 4) hx hb hts hown hK hP (show f 0 48 = 4 from hf_0_48) dX12_begins_1 ?_
  refine lv_bipush (v := 24) hx hb dX12_begins_4 bp_24 ?_
  refine lv_icmp_ge (tgt := 19) hx hb dX12_begins_6 (by decide) (fun c => absurd c (by decide)) (fun c => ?_)
  refine lv_aload_n hx hb dX12_begins_9 rfl (lv_at hl 0 rfl) ?_
  refine sl_gM_0_47_12 hx hb hts hown hK hP dX12_begins_10 ?_
  refine lv_aload_n hx hb dX12_begins_13 rfl (lv_at hl 0 rfl) ?_
  refine sl_gM_0_48_12 (v := 4) hx hb hts hown hK hP (show f 0 48 = 4 from hf_0_48) dX12_begins_14 ?_
  refine lv_iload_n hx hb dX12_begins_17 rfl (lv_at hl 1 rfl) ?_
  refine sg_iast hx hb hh hA hK hP hS 21 (by decide) 0 (fun _ => rfl) rfl (i := 4) (x := 10) (vp_in_iff.mpr (by decide)) dX12_begins_18 (fun f_10 H locs ef_10 hP hS => ?_)
  have ef_10 : f_10 = sg_up f 21 (sgu (f 21) 4 10) := ef_10
  have hI : sgI loM hiM f_10 := by rw [ef_10]; exact sgI.put hI 21 4 (show 0 ≤ (10 : Int32).toInt ∧ (10 : Int32).toInt ≤ 81 from by decide)
  have hF : sgK WkX12_begins_10_f4 f f_10 := sgK.put hF ef_10 (by rfl)
  exact blk_19 f_10 _ _ _ (hs.trans ((spl_e ef_10 rfl))) (by have zz0_48 : (f_10 0 48).toInt = 4 := (congrArg Int32.toInt (show f_10 0 48 = 4 from (by rw [ef_10, sg_up_n (by decide)]; exact hf_0_48))).trans (by decide); exact ⟨by omega, by omega⟩) hI hF hP hS (lv_sub hl [0] rfl)

abbrev WkX12_begins_1_f5 : List (Nat × Nat × Option Nat) := [(0, 0, some 48), (21, 21, some 5)]
set_option maxHeartbeats 4000000 in
set_option maxRecDepth 100000 in
theorem kX12_begins_1_f5 (l : Launch) (D : va_G) (ca : Nat → ClassId) (za h : Nat → Nat) (hh : sgH 26 h) (f : sg_F) (L : sg_L) (Q : sg_Q) (hI : sgI loM hiM f) (hf_0_48 : f 0 48 = 5) (p0 : 5 ≤ (f 0 48).toInt ∧ (f 0 48).toInt ≤ 5) (sz : Nat) : Met l yX12_begins gwX12_begins { frames := 0, cells := 0, slots := 0, locals := 0 } (sgP D vwCl (tyX ca) 26 h (eM ca h) zcM za f L Q sz [.ref (h 0), .int 1]) (sgQv D vwCl 26 h (eM ca h) sz (fun f1 L1 Q1 => ((sgI loM hiM f1 ∧ sgK WkX12_begins_1_f5 f f1 ∧ L1 = L ∧ Q1 = Q) ∧ (6 ≤ (f1 0 48).toInt ∧ (f1 0 48).toInt ≤ 6) ∧ (f1) = sX12_begins_1_f5 f L))) 0 0 (sgA 26 h sz) := by
  refine sg_ofWv (cc := cX12_begins) (maxL := 2) RX12 (by decide) rfl rfl (Nat.le_of_ble_eq_true rfl) ?_
  intro p e s m below meth cd Qz ls hx hb hml hown hts hK hZ hP hS hl hret
  have hA := sgY.self (n := 26) (h := h) (sz := s.heap.size)
  have hl : lv_has ls 2 [(0, .ref (h 0)), (1, .int 1)] := hl
  obtain ⟨H, hH⟩ : ∃ z : Heap, z = s.heap := ⟨_, rfl⟩
  obtain ⟨locs, hlo⟩ : ∃ z : List Loc, z = [] := ⟨_, rfl⟩
  have hP : va_P D vwCl (sgw 26 h (eM ca h) f L Q) H := by rw [hH]; exact hP
  have hS : va_S (sgA 26 h s.heap.size) s.heap H locs := by rw [hH, hlo]; exact hS
  suffices hgo : W p l e ({ frames := 0, cells := 0, slots := 0, locals := 0 }) s m ([.ref (h 0), .int 1] : List Value).toArray below meth cd H locs 0 0 Qz (F0 m 0 ls []) by rw [hH, hlo] at hgo; exact hgo
  clear hH hlo
  obtain ⟨sp, hsp⟩ : ∃ z : sg_F, z = sX12_begins_1_f5 f L := ⟨_, rfl⟩
  have hs : sp = sX12_begins_1_f5 f L := hsp
  have o_1 : (f 0 48).toInt = 5 := (congrArg Int32.toInt (show f 0 48 = 5 from hf_0_48)).trans (by decide)
  have hF : sgK WkX12_begins_1_f5 f f := sgK.rf
  have blk_19 : ∀ (fp_19 : sg_F) (H : Heap) (locs : List Loc) (ls : Array Slot), sp = sX12_begins_1_f5_b19 fp_19 L → 5 ≤ (fp_19 0 48).toInt ∧ (fp_19 0 48).toInt ≤ 5 → sgI loM hiM fp_19 → sgK WkX12_begins_1_f5 f fp_19 → va_P D vwCl (sgw 26 h (eM ca h) fp_19 L Q) H → va_S (sgA 26 h s.heap.size) s.heap H locs → lv_has ls 2 [(0, .ref (h 0))] → W p l e ({ frames := 0, cells := 0, slots := 0, locals := 0 }) s m ([.ref (h 0), .int 1] : List Value).toArray below meth cd H locs 0 0 Qz (F0 m 19 ls []) := by
    intro fp_19 H locs ls hs hy0_19 hI hF hP hS hl
    obtain ⟨v_2, ev_2⟩ : ∃ z : Int32, z = fp_19 0 48 := ⟨_, rfl⟩
    have q_3 : 0 ≤ v_2.toInt ∧ v_2.toInt ≤ 19 := by rw [ev_2]; exact hI 0 48
    have q_4 : (fp_19 0 48).toInt = v_2.toInt := by rw [ev_2]
    refine lv_aload_n hx hb dX12_begins_19 rfl (lv_at hl 0 rfl) ?_
    refine lv_dup hx hb dX12_begins_20 rfl ?_
    refine sl_gM_0_48_12 (v := v_2) hx hb hts hown hK hP (show fp_19 0 48 = v_2 from ev_2.symm) dX12_begins_21 ?_
    refine lv_iconst (v := 1) hx hb dX12_begins_24 ic_1 ?_
    refine lv_iadd hx hb dX12_begins_25 ?_
    refine lv_topi (fun v_5 ev_5 => ?_)
    have q_6 : v_5.toInt = v_2.toInt + 1 := by rw [ev_5]; first | exact cm_add ti_1 (by omega) (by omega) | (have k1 : (1 : Int32).toInt = 1 := ti_1; exact (bn_addI (by omega) (by omega)).trans (by omega))
    refine sl_pM_0_48_12 (x := v_5) hx hb hts hown hh hA hK hP hS dX12_begins_26 (fun f_7 H locs ef_7 hP hS => ?_)
    have hI : sgI loM hiM f_7 := by rw [ef_7]; exact sgI.put hI 0 48 (show 0 ≤ (v_5 : Int32).toInt ∧ (v_5 : Int32).toInt ≤ 19 from ⟨by omega, by omega⟩)
    have hF : sgK WkX12_begins_1_f5 f f_7 := sgK.put hF ef_7 (by rfl)
    have q_8 : (f_7 0 48).toInt = v_5.toInt := (congrArg Int32.toInt (show f_7 0 48 = v_5 from (by rw [ef_7, sg_up_s, sgu_s])))
    exact hret _ _ _ _ f_7 L Q dX12_begins_29 hP hS ⟨⟨hI, hF, rfl, rfl⟩, ⟨by omega, by omega⟩, (Eq.trans (Eq.symm (hs.trans ((spl_e ev_2 (spl_e ev_5 (spl_e ef_7 rfl)))))) hsp)⟩
  refine lv_aload_n hx hb dX12_begins_0 rfl (lv_at hl 0 rfl) ?_
  refine sl_gM_0_48_12 (v := 5) hx hb hts hown hK hP (show f 0 48 = 5 from hf_0_48) dX12_begins_1 ?_
  refine lv_bipush (v := 24) hx hb dX12_begins_4 bp_24 ?_
  refine lv_icmp_ge (tgt := 19) hx hb dX12_begins_6 (by decide) (fun c => absurd c (by decide)) (fun c => ?_)
  refine lv_aload_n hx hb dX12_begins_9 rfl (lv_at hl 0 rfl) ?_
  refine sl_gM_0_47_12 hx hb hts hown hK hP dX12_begins_10 ?_
  refine lv_aload_n hx hb dX12_begins_13 rfl (lv_at hl 0 rfl) ?_
  refine sl_gM_0_48_12 (v := 5) hx hb hts hown hK hP (show f 0 48 = 5 from hf_0_48) dX12_begins_14 ?_
  refine lv_iload_n hx hb dX12_begins_17 rfl (lv_at hl 1 rfl) ?_
  refine sg_iast hx hb hh hA hK hP hS 21 (by decide) 0 (fun _ => rfl) rfl (i := 5) (x := 1) (vp_in_iff.mpr (by decide)) dX12_begins_18 (fun f_10 H locs ef_10 hP hS => ?_)
  have ef_10 : f_10 = sg_up f 21 (sgu (f 21) 5 1) := ef_10
  have hI : sgI loM hiM f_10 := by rw [ef_10]; exact sgI.put hI 21 5 (show 0 ≤ (1 : Int32).toInt ∧ (1 : Int32).toInt ≤ 81 from by decide)
  have hF : sgK WkX12_begins_1_f5 f f_10 := sgK.put hF ef_10 (by rfl)
  exact blk_19 f_10 _ _ _ (hs.trans ((spl_e ef_10 rfl))) (by have zz0_48 : (f_10 0 48).toInt = 5 := (congrArg Int32.toInt (show f_10 0 48 = 5 from (by rw [ef_10, sg_up_n (by decide)]; exact hf_0_48))).trans (by decide); exact ⟨by omega, by omega⟩) hI hF hP hS (lv_sub hl [0] rfl)

abbrev WkX12_setsAs_5_f5_f5 : List (Nat × Nat × Option Nat) := [(0, 0, some 48), (21, 21, some 5)]
set_option maxHeartbeats 4000000 in
set_option maxRecDepth 100000 in
theorem kX12_setsAs_5_f5_f5 (l : Launch) (D : va_G) (ca : Nat → ClassId) (za h : Nat → Nat) (hh : sgH 26 h) (f : sg_F) (L : sg_L) (Q : sg_Q) (hI : sgI loM hiM f) (x1 : Int32) (hf_0_48 : f 0 48 = 5) (hf_0_49 : f 0 49 = 5) (p0 : 5 ≤ (f 0 48).toInt ∧ (f 0 48).toInt ≤ 5) (sz : Nat) : Met l yX12_setsAs gwX12_setsAs { frames := 1, cells := 0, slots := 0, locals := 21 } (sgP D vwCl (tyX ca) 26 h (eM ca h) zcM za f L Q sz [.ref (h 0), .int 5, .int x1]) (sgQi D vwCl 26 h (eM ca h) sz (fun r f1 L1 Q1 => ((sgI loM hiM f1 ∧ sgK WkX12_setsAs_5_f5_f5 f f1 ∧ L1 = L ∧ Q1 = Q) ∧ True ∧ (6 ≤ (f1 0 48).toInt ∧ (f1 0 48).toInt ≤ 6) ∧ (r, f1) = sX12_setsAs_5_f5_f5 x1 f L))) 0 0 (sgA 26 h sz) := by
  refine sg_ofWi (cc := cX12_setsAs) (maxL := 3) RX12 (by decide) rfl rfl (Nat.le_of_ble_eq_true rfl) ?_
  intro p e s m below meth cd Qz ls hx hb hml hown hts hK hZ hP hS hl hret
  have hA := sgY.self (n := 26) (h := h) (sz := s.heap.size)
  have hl : lv_has ls 3 [(0, .ref (h 0)), (1, .int 5), (2, .int x1)] := hl
  obtain ⟨H, hH⟩ : ∃ z : Heap, z = s.heap := ⟨_, rfl⟩
  obtain ⟨locs, hlo⟩ : ∃ z : List Loc, z = [] := ⟨_, rfl⟩
  have hP : va_P D vwCl (sgw 26 h (eM ca h) f L Q) H := by rw [hH]; exact hP
  have hS : va_S (sgA 26 h s.heap.size) s.heap H locs := by rw [hH, hlo]; exact hS
  suffices hgo : W p l e ({ frames := 1, cells := 0, slots := 0, locals := 21 }) s m ([.ref (h 0), .int 5, .int x1] : List Value).toArray below meth cd H locs 0 0 Qz (F0 m 0 ls []) by rw [hH, hlo] at hgo; exact hgo
  clear hH hlo
  obtain ⟨sp, hsp⟩ : ∃ z : Int32 × sg_F, z = sX12_setsAs_5_f5_f5 x1 f L := ⟨_, rfl⟩
  have hs : sp = sX12_setsAs_5_f5_f5 x1 f L := hsp
  have o_1 : (f 0 48).toInt = 5 := (congrArg Int32.toInt (show f 0 48 = 5 from hf_0_48)).trans (by decide)
  have hF : sgK WkX12_setsAs_5_f5_f5 f f := sgK.rf
  refine lv_iload_n hx hb dX12_setsAs_0 rfl (lv_at hl 1 rfl) ?_
  refine lv_iconst (v := 1) hx hb dX12_setsAs_1 ic_1 ?_
  refine lv_icmp_eq (tgt := 16) hx hb dX12_setsAs_2 (by decide) (fun c => absurd c (by decide)) (fun c => ?_)
  refine lv_iload_n hx hb dX12_setsAs_5 rfl (lv_at hl 1 rfl) ?_
  refine lv_iconst (v := 4) hx hb dX12_setsAs_6 ic_4 ?_
  refine lv_icmp_eq (tgt := 16) hx hb dX12_setsAs_7 (by decide) (fun c => absurd c (by decide)) (fun c => ?_)
  refine lv_iload_n hx hb dX12_setsAs_10 rfl (lv_at hl 1 rfl) ?_
  refine lv_bipush (v := 7) hx hb dX12_setsAs_11 bp_7 ?_
  refine lv_icmp_ne (tgt := 31) hx hb dX12_setsAs_13 (by decide) (fun c => ?_) (fun c => absurd c (by decide))
  refine lv_iload_n hx hb dX12_setsAs_31 rfl (lv_at hl 1 rfl) ?_
  refine lv_bipush (v := 6) hx hb dX12_setsAs_32 bp_6 ?_
  refine lv_icmp_ne (tgt := 52) hx hb dX12_setsAs_34 (by decide) (fun c => ?_) (fun c => absurd c (by decide))
  refine lv_aload_n hx hb dX12_setsAs_52 rfl (lv_at hl 0 rfl) ?_
  refine lv_iconst (v := 1) hx hb dX12_setsAs_53 ic_1 ?_
  have q_2 : (f 0 48).toInt = 5 := (congrArg Int32.toInt (show f 0 48 = 5 from hf_0_48)).trans (by decide)
  refine sg_callv (va_runV (As := [.int 1]) (rest := []) ⟨hx, hb, hml, hown, hts⟩ (kX12_begins_1_f5 l D ca za h hh f L Q hI hf_0_48 (by have k0 : (1 : Int32).toInt = 1 := ti_1; omega) H.size) (sl_c12_begins_0_0_0_0_12 hts ⟨Nat.le_of_ble_eq_true rfl, Nat.le_of_ble_eq_true rfl⟩) (sl_vM_0 hA hK hP hS hZ) rfl rfl hl.1 rfl (lv_room (Nat.le_of_ble_eq_true rfl)) dX12_setsAs_54 ⟨Nat.le_refl _, Nat.le_refl _⟩) hA hS (fun f_4 L_5 Q_6 H locs hq hP hS => ?_)
  obtain ⟨⟨hI, hk_f_4, eL9, eQ9⟩, p_7, u_8⟩ := hq
  rw [eL9, eQ9] at hP; clear eL9 eQ9
  have hF : sgK WkX12_setsAs_5_f5_f5 f f_4 := sgK.tr hF hk_f_4 (by decide +kernel)
  obtain ⟨v_9, ev_9⟩ : ∃ z : Int32, z = f_4 0 48 := ⟨_, rfl⟩
  have q_10 : 0 ≤ v_9.toInt ∧ v_9.toInt ≤ 19 := by rw [ev_9]; exact hI 0 48
  have q_11 : (f_4 0 48).toInt = v_9.toInt := (congrArg Int32.toInt (show f_4 0 48 = v_9 from ev_9.symm))
  refine lv_iload_n hx hb dX12_setsAs_57 rfl (lv_at hl 2 rfl) ?_
  refine lv_aload_n hx hb dX12_setsAs_58 rfl (lv_at hl 0 rfl) ?_
  refine sl_gM_0_50_12 (v := (f_4 0 50)) hx hb hts hown hK hP rfl dX12_setsAs_59 ?_
  refine lv_topi (fun v_13 ev_13 => ?_)
  have q_14 : 0 ≤ v_13.toInt ∧ v_13.toInt ≤ 49 := by rw [ev_13]; exact hI 0 50
  refine lv_iadd hx hb dX12_setsAs_62 ?_
  refine lv_topi (fun v_15 ev_15 => ?_)
  exact hret _ _ _ _ (v_15) f_4 L Q dX12_setsAs_63 hP hS ⟨⟨hI, hF, rfl, rfl⟩, trivial, ⟨by omega, by omega⟩, (Eq.trans (Eq.symm (hs.trans ((spl_e u_8 (spl_e ev_9 (spl_e ev_13 (spl_e ev_15 rfl))))))) hsp)⟩

abbrev WkX12_sitsAs_0_f4_f5 : List (Nat × Nat × Option Nat) := [(0, 0, some 48), (21, 21, some 4), (21, 21, some 5)]
set_option maxHeartbeats 4000000 in
set_option maxRecDepth 100000 in
theorem kX12_sitsAs_0_f4_f5 (l : Launch) (D : va_G) (ca : Nat → ClassId) (za h : Nat → Nat) (hh : sgH 26 h) (f : sg_F) (L : sg_L) (Q : sg_Q) (hI : sgI loM hiM f) (x1 : Int32) (hf_0_48 : f 0 48 = 4) (hf_0_49 : f 0 49 = 5) (p0 : 4 ≤ (f 0 48).toInt ∧ (f 0 48).toInt ≤ 4) (sz : Nat) : Met l yX12_sitsAs gwX12_sitsAs { frames := 2, cells := 0, slots := 0, locals := 43 } (sgP D vwCl (tyX ca) 26 h (eM ca h) zcM za f L Q sz [.ref (h 0), .int 0, .int x1]) (sgQi D vwCl 26 h (eM ca h) sz (fun r f1 L1 Q1 => ((sgI loM hiM f1 ∧ sgK WkX12_sitsAs_0_f4_f5 f f1 ∧ L1 = L ∧ Q1 = Q) ∧ True ∧ (6 ≤ (f1 0 48).toInt ∧ (f1 0 48).toInt ≤ 6) ∧ (r, f1) = sX12_sitsAs_0_f4_f5 x1 f L))) 0 0 (sgA 26 h sz) := by
  refine sg_ofWi (cc := cX12_sitsAs) (maxL := 4) RX12 (by decide) rfl rfl (Nat.le_of_ble_eq_true rfl) ?_
  intro p e s m below meth cd Qz ls hx hb hml hown hts hK hZ hP hS hl hret
  have hA := sgY.self (n := 26) (h := h) (sz := s.heap.size)
  have hl : lv_has ls 4 [(0, .ref (h 0)), (1, .int 0), (2, .int x1)] := hl
  obtain ⟨H, hH⟩ : ∃ z : Heap, z = s.heap := ⟨_, rfl⟩
  obtain ⟨locs, hlo⟩ : ∃ z : List Loc, z = [] := ⟨_, rfl⟩
  have hP : va_P D vwCl (sgw 26 h (eM ca h) f L Q) H := by rw [hH]; exact hP
  have hS : va_S (sgA 26 h s.heap.size) s.heap H locs := by rw [hH, hlo]; exact hS
  suffices hgo : W p l e ({ frames := 2, cells := 0, slots := 0, locals := 43 }) s m ([.ref (h 0), .int 0, .int x1] : List Value).toArray below meth cd H locs 0 0 Qz (F0 m 0 ls []) by rw [hH, hlo] at hgo; exact hgo
  clear hH hlo
  obtain ⟨sp, hsp⟩ : ∃ z : Int32 × sg_F, z = sX12_sitsAs_0_f4_f5 x1 f L := ⟨_, rfl⟩
  have hs : sp = sX12_sitsAs_0_f4_f5 x1 f L := hsp
  have o_1 : (f 0 48).toInt = 4 := (congrArg Int32.toInt (show f 0 48 = 4 from hf_0_48)).trans (by decide)
  have hF : sgK WkX12_sitsAs_0_f4_f5 f f := sgK.rf
  refine lv_iload_n hx hb dX12_sitsAs_0 rfl (lv_at hl 1 rfl) ?_
  refine lv_iconst (v := 3) hx hb dX12_sitsAs_1 ic_3 ?_
  refine lv_icmp_eq (tgt := 10) hx hb dX12_sitsAs_2 (by decide) (fun c => absurd c (by decide)) (fun c => ?_)
  refine lv_iload_n hx hb dX12_sitsAs_5 rfl (lv_at hl 1 rfl) ?_
  refine lv_iconst (v := 5) hx hb dX12_sitsAs_6 ic_5 ?_
  refine lv_icmp_ne (tgt := 25) hx hb dX12_sitsAs_7 (by decide) (fun c => ?_) (fun c => absurd c (by decide))
  refine lv_iload_n hx hb dX12_sitsAs_25 rfl (lv_at hl 1 rfl) ?_
  refine lv_iconst (v := 2) hx hb dX12_sitsAs_26 ic_2 ?_
  refine lv_icmp_ne (tgt := 44) hx hb dX12_sitsAs_27 (by decide) (fun c => ?_) (fun c => absurd c (by decide))
  refine lv_iload_n hx hb dX12_sitsAs_44 rfl (lv_at hl 1 rfl) ?_
  refine lv_bipush (v := 7) hx hb dX12_sitsAs_45 bp_7 ?_
  refine lv_icmp_ne (tgt := 75) hx hb dX12_sitsAs_47 (by decide) (fun c => ?_) (fun c => absurd c (by decide))
  refine lv_aload_n hx hb dX12_sitsAs_75 rfl (lv_at hl 0 rfl) ?_
  refine lv_bipush (v := 10) hx hb dX12_sitsAs_76 bp_10 ?_
  have q_2 : (f 0 48).toInt = 4 := (congrArg Int32.toInt (show f 0 48 = 4 from hf_0_48)).trans (by decide)
  refine sg_callv (va_runV (As := [.int 10]) (rest := []) ⟨hx, hb, hml, hown, hts⟩ (kX12_begins_10_f4 l D ca za h hh f L Q hI hf_0_48 (by have k0 : (10 : Int32).toInt = 10 := ti_10; omega) H.size) (sl_c12_begins_0_0_0_0_12 hts ⟨Nat.le_of_ble_eq_true rfl, Nat.le_of_ble_eq_true rfl⟩) (sl_vM_0 hA hK hP hS hZ) rfl rfl hl.1 rfl (lv_room (Nat.le_of_ble_eq_true rfl)) dX12_sitsAs_78 ⟨Nat.le_refl _, Nat.le_refl _⟩) hA hS (fun f_4 L_5 Q_6 H locs hq hP hS => ?_)
  obtain ⟨⟨hI, hk_f_4, eL9, eQ9⟩, p_7, u_8⟩ := hq
  rw [eL9, eQ9] at hP; clear eL9 eQ9
  have hF : sgK WkX12_sitsAs_0_f4_f5 f f_4 := sgK.tr hF hk_f_4 (by decide +kernel)
  obtain ⟨v_9, ev_9⟩ : ∃ z : Int32, z = f_4 0 48 := ⟨_, rfl⟩
  have q_10 : 0 ≤ v_9.toInt ∧ v_9.toInt ≤ 19 := by rw [ev_9]; exact hI 0 48
  have q_11 : (f_4 0 48).toInt = v_9.toInt := (congrArg Int32.toInt (show f_4 0 48 = v_9 from ev_9.symm))
  refine lv_aload_n hx hb dX12_sitsAs_81 rfl (lv_at hl 0 rfl) ?_
  refine lv_aload_n hx hb dX12_sitsAs_82 rfl (lv_at hl 0 rfl) ?_
  refine sl_gM_0_49_12 (v := 5) hx hb hts hown hK hP (show f_4 0 49 = 5 from ((hk_f_4 0 49 (by decide)).trans hf_0_49)) dX12_sitsAs_83 ?_
  refine lv_iload_n hx hb dX12_sitsAs_86 rfl (lv_at hl 2 rfl) ?_
  have c_13 : v_9 = 5 := Int32.toInt_inj.mp (by have k9 : (5 : Int32).toInt = 5 := ti_5; omega)
  have q_14 : (f_4 0 48).toInt = 5 := (congrArg Int32.toInt (show f_4 0 48 = 5 from (Eq.trans ev_9.symm c_13))).trans (by decide)
  refine sg_calli (va_runV (As := [.int 5, .int x1]) (rest := []) ⟨hx, hb, hml, hown, hts⟩ (kX12_setsAs_5_f5_f5 l D ca za h hh f_4 L Q hI x1 (Eq.trans ev_9.symm c_13) ((hk_f_4 0 49 (by decide)).trans hf_0_49) (by have k0 : (5 : Int32).toInt = 5 := ti_5; omega) H.size) (sl_c12_setsAs_1_0_0_21_12 hts ⟨Nat.le_of_ble_eq_true rfl, Nat.le_of_ble_eq_true rfl⟩) (sl_vM_0 hA hK hP hS hZ) rfl rfl hl.1 rfl (lv_room (Nat.le_of_ble_eq_true rfl)) dX12_sitsAs_87 ⟨Nat.le_refl _, Nat.le_refl _⟩) hA hS (fun r_19 f_16 L_17 Q_18 H locs hq hP hS => ?_)
  obtain ⟨⟨hI, hk_f_16, eL9, eQ9⟩, hq, p_20, u_21⟩ := hq
  rw [eL9, eQ9] at hP; clear eL9 eQ9
  have hF : sgK WkX12_sitsAs_0_f4_f5 f f_16 := sgK.tr hF hk_f_16 (by decide +kernel)
  obtain ⟨v_22, ev_22⟩ : ∃ z : Int32, z = f_16 0 48 := ⟨_, rfl⟩
  have q_23 : 0 ≤ v_22.toInt ∧ v_22.toInt ≤ 19 := by rw [ev_22]; exact hI 0 48
  have q_24 : (f_16 0 48).toInt = v_22.toInt := (congrArg Int32.toInt (show f_16 0 48 = v_22 from ev_22.symm))
  have k_26 : (5 : Int32).toInt = 5 := by decide
  refine lv_iconst (v := 2) hx hb dX12_sitsAs_90 ic_2 ?_
  refine lv_imul hx hb dX12_sitsAs_91 ?_
  refine lv_topi (fun v_27 ev_27 => ?_)
  exact hret _ _ _ _ (v_27) f_16 L Q dX12_sitsAs_92 hP hS ⟨⟨hI, hF, rfl, rfl⟩, trivial, ⟨by omega, by omega⟩, (Eq.trans (Eq.symm (hs.trans ((spl_e u_8 (spl_e ev_9 (spl2_e u_21 (spl_e ev_22 (spl_e ev_27 rfl)))))))) hsp)⟩

abbrev WkX12_sitsAs_2_f3_f5 : List (Nat × Nat × Option Nat) := [(0, 0, some 48), (21, 21, some 3), (21, 21, some 4), (21, 21, some 5)]
set_option maxHeartbeats 4000000 in
set_option maxRecDepth 100000 in
theorem kX12_sitsAs_2_f3_f5 (l : Launch) (D : va_G) (ca : Nat → ClassId) (za h : Nat → Nat) (hh : sgH 26 h) (f : sg_F) (L : sg_L) (Q : sg_Q) (hI : sgI loM hiM f) (x1 : Int32) (hf_0_48 : f 0 48 = 3) (hf_0_49 : f 0 49 = 5) (p0 : 3 ≤ (f 0 48).toInt ∧ (f 0 48).toInt ≤ 3) (sz : Nat) : Met l yX12_sitsAs gwX12_sitsAs { frames := 3, cells := 0, slots := 0, locals := 66 } (sgP D vwCl (tyX ca) 26 h (eM ca h) zcM za f L Q sz [.ref (h 0), .int 2, .int x1]) (sgQi D vwCl 26 h (eM ca h) sz (fun r f1 L1 Q1 => ((sgI loM hiM f1 ∧ sgK WkX12_sitsAs_2_f3_f5 f f1 ∧ L1 = L ∧ Q1 = Q) ∧ True ∧ (6 ≤ (f1 0 48).toInt ∧ (f1 0 48).toInt ≤ 6) ∧ (r, f1) = sX12_sitsAs_2_f3_f5 x1 f L))) 0 0 (sgA 26 h sz) := by
  refine sg_ofWi (cc := cX12_sitsAs) (maxL := 4) RX12 (by decide) rfl rfl (Nat.le_of_ble_eq_true rfl) ?_
  intro p e s m below meth cd Qz ls hx hb hml hown hts hK hZ hP hS hl hret
  have hA := sgY.self (n := 26) (h := h) (sz := s.heap.size)
  have hl : lv_has ls 4 [(0, .ref (h 0)), (1, .int 2), (2, .int x1)] := hl
  obtain ⟨H, hH⟩ : ∃ z : Heap, z = s.heap := ⟨_, rfl⟩
  obtain ⟨locs, hlo⟩ : ∃ z : List Loc, z = [] := ⟨_, rfl⟩
  have hP : va_P D vwCl (sgw 26 h (eM ca h) f L Q) H := by rw [hH]; exact hP
  have hS : va_S (sgA 26 h s.heap.size) s.heap H locs := by rw [hH, hlo]; exact hS
  suffices hgo : W p l e ({ frames := 3, cells := 0, slots := 0, locals := 66 }) s m ([.ref (h 0), .int 2, .int x1] : List Value).toArray below meth cd H locs 0 0 Qz (F0 m 0 ls []) by rw [hH, hlo] at hgo; exact hgo
  clear hH hlo
  obtain ⟨sp, hsp⟩ : ∃ z : Int32 × sg_F, z = sX12_sitsAs_2_f3_f5 x1 f L := ⟨_, rfl⟩
  have hs : sp = sX12_sitsAs_2_f3_f5 x1 f L := hsp
  have o_1 : (f 0 48).toInt = 3 := (congrArg Int32.toInt (show f 0 48 = 3 from hf_0_48)).trans (by decide)
  have hF : sgK WkX12_sitsAs_2_f3_f5 f f := sgK.rf
  refine lv_iload_n hx hb dX12_sitsAs_0 rfl (lv_at hl 1 rfl) ?_
  refine lv_iconst (v := 3) hx hb dX12_sitsAs_1 ic_3 ?_
  refine lv_icmp_eq (tgt := 10) hx hb dX12_sitsAs_2 (by decide) (fun c => absurd c (by decide)) (fun c => ?_)
  refine lv_iload_n hx hb dX12_sitsAs_5 rfl (lv_at hl 1 rfl) ?_
  refine lv_iconst (v := 5) hx hb dX12_sitsAs_6 ic_5 ?_
  refine lv_icmp_ne (tgt := 25) hx hb dX12_sitsAs_7 (by decide) (fun c => ?_) (fun c => absurd c (by decide))
  refine lv_iload_n hx hb dX12_sitsAs_25 rfl (lv_at hl 1 rfl) ?_
  refine lv_iconst (v := 2) hx hb dX12_sitsAs_26 ic_2 ?_
  refine lv_icmp_ne (tgt := 44) hx hb dX12_sitsAs_27 (by decide) (fun c => absurd c (by decide)) (fun c => ?_)
  refine lv_aload_n hx hb dX12_sitsAs_30 rfl (lv_at hl 0 rfl) ?_
  refine lv_bipush (v := 30) hx hb dX12_sitsAs_31 bp_30 ?_
  have q_2 : (f 0 48).toInt = 3 := (congrArg Int32.toInt (show f 0 48 = 3 from hf_0_48)).trans (by decide)
  refine sg_callv (va_runV (As := [.int 30]) (rest := []) ⟨hx, hb, hml, hown, hts⟩ (kX12_begins_30_f3 l D ca za h hh f L Q hI hf_0_48 (by have k0 : (30 : Int32).toInt = 30 := ti_30; omega) H.size) (sl_c12_begins_0_0_0_0_12 hts ⟨Nat.le_of_ble_eq_true rfl, Nat.le_of_ble_eq_true rfl⟩) (sl_vM_0 hA hK hP hS hZ) rfl rfl hl.1 rfl (lv_room (Nat.le_of_ble_eq_true rfl)) dX12_sitsAs_33 ⟨Nat.le_refl _, Nat.le_refl _⟩) hA hS (fun f_4 L_5 Q_6 H locs hq hP hS => ?_)
  obtain ⟨⟨hI, hk_f_4, eL9, eQ9⟩, p_7, u_8⟩ := hq
  rw [eL9, eQ9] at hP; clear eL9 eQ9
  have hF : sgK WkX12_sitsAs_2_f3_f5 f f_4 := sgK.tr hF hk_f_4 (by decide +kernel)
  obtain ⟨v_9, ev_9⟩ : ∃ z : Int32, z = f_4 0 48 := ⟨_, rfl⟩
  have q_10 : 0 ≤ v_9.toInt ∧ v_9.toInt ≤ 19 := by rw [ev_9]; exact hI 0 48
  have q_11 : (f_4 0 48).toInt = v_9.toInt := (congrArg Int32.toInt (show f_4 0 48 = v_9 from ev_9.symm))
  refine lv_aload_n hx hb dX12_sitsAs_36 rfl (lv_at hl 0 rfl) ?_
  refine lv_iconst (v := 0) hx hb dX12_sitsAs_37 ic_0 ?_
  refine lv_iload_n hx hb dX12_sitsAs_38 rfl (lv_at hl 2 rfl) ?_
  have c_13 : v_9 = 4 := Int32.toInt_inj.mp (by have k9 : (4 : Int32).toInt = 4 := ti_4; omega)
  have q_14 : (f_4 0 48).toInt = 4 := (congrArg Int32.toInt (show f_4 0 48 = 4 from (Eq.trans ev_9.symm c_13))).trans (by decide)
  refine sg_calli (va_runV (As := [.int 0, .int x1]) (rest := []) ⟨hx, hb, hml, hown, hts⟩ (kX12_sitsAs_0_f4_f5 l D ca za h hh f_4 L Q hI x1 (Eq.trans ev_9.symm c_13) ((hk_f_4 0 49 (by decide)).trans hf_0_49) (by have k0 : (0 : Int32).toInt = 0 := ti_0; omega) H.size) (sl_c12_sitsAs_2_0_0_43_12 hts ⟨Nat.le_of_ble_eq_true rfl, Nat.le_of_ble_eq_true rfl⟩) (sl_vM_0 hA hK hP hS hZ) rfl rfl hl.1 rfl (lv_room (Nat.le_of_ble_eq_true rfl)) dX12_sitsAs_39 ⟨Nat.le_refl _, Nat.le_refl _⟩) hA hS (fun r_19 f_16 L_17 Q_18 H locs hq hP hS => ?_)
  obtain ⟨⟨hI, hk_f_16, eL9, eQ9⟩, hq, p_20, u_21⟩ := hq
  rw [eL9, eQ9] at hP; clear eL9 eQ9
  have hF : sgK WkX12_sitsAs_2_f3_f5 f f_16 := sgK.tr hF hk_f_16 (by decide +kernel)
  obtain ⟨v_22, ev_22⟩ : ∃ z : Int32, z = f_16 0 48 := ⟨_, rfl⟩
  have q_23 : 0 ≤ v_22.toInt ∧ v_22.toInt ≤ 19 := by rw [ev_22]; exact hI 0 48
  have q_24 : (f_16 0 48).toInt = v_22.toInt := (congrArg Int32.toInt (show f_16 0 48 = v_22 from ev_22.symm))
  have k_26 : (0 : Int32).toInt = 0 := by decide
  refine lv_ineg hx hb dX12_sitsAs_42 ?_
  refine lv_topi (fun v_27 ev_27 => ?_)
  exact hret _ _ _ _ (v_27) f_16 L Q dX12_sitsAs_43 hP hS ⟨⟨hI, hF, rfl, rfl⟩, trivial, ⟨by omega, by omega⟩, (Eq.trans (Eq.symm (hs.trans ((spl_e u_8 (spl_e ev_9 (spl2_e u_21 (spl_e ev_22 (spl_e ev_27 rfl)))))))) hsp)⟩

abbrev WkX12_sitsAs_5_f2_f5 : List (Nat × Nat × Option Nat) := [(0, 0, some 48), (21, 21, some 2), (21, 21, some 3), (21, 21, some 4), (21, 21, some 5)]
set_option maxHeartbeats 4000000 in
set_option maxRecDepth 100000 in
theorem kX12_sitsAs_5_f2_f5 (l : Launch) (D : va_G) (ca : Nat → ClassId) (za h : Nat → Nat) (hh : sgH 26 h) (f : sg_F) (L : sg_L) (Q : sg_Q) (hI : sgI loM hiM f) (x1 : Int32) (hf_0_48 : f 0 48 = 2) (hf_0_49 : f 0 49 = 5) (p0 : 2 ≤ (f 0 48).toInt ∧ (f 0 48).toInt ≤ 2) (sz : Nat) : Met l yX12_sitsAs gwX12_sitsAs { frames := 4, cells := 0, slots := 0, locals := 89 } (sgP D vwCl (tyX ca) 26 h (eM ca h) zcM za f L Q sz [.ref (h 0), .int 5, .int x1]) (sgQi D vwCl 26 h (eM ca h) sz (fun r f1 L1 Q1 => ((sgI loM hiM f1 ∧ sgK WkX12_sitsAs_5_f2_f5 f f1 ∧ L1 = L ∧ Q1 = Q) ∧ True ∧ (6 ≤ (f1 0 48).toInt ∧ (f1 0 48).toInt ≤ 6) ∧ (r, f1) = sX12_sitsAs_5_f2_f5 x1 f L))) 0 0 (sgA 26 h sz) := by
  refine sg_ofWi (cc := cX12_sitsAs) (maxL := 4) RX12 (by decide) rfl rfl (Nat.le_of_ble_eq_true rfl) ?_
  intro p e s m below meth cd Qz ls hx hb hml hown hts hK hZ hP hS hl hret
  have hA := sgY.self (n := 26) (h := h) (sz := s.heap.size)
  have hl : lv_has ls 4 [(0, .ref (h 0)), (1, .int 5), (2, .int x1)] := hl
  obtain ⟨H, hH⟩ : ∃ z : Heap, z = s.heap := ⟨_, rfl⟩
  obtain ⟨locs, hlo⟩ : ∃ z : List Loc, z = [] := ⟨_, rfl⟩
  have hP : va_P D vwCl (sgw 26 h (eM ca h) f L Q) H := by rw [hH]; exact hP
  have hS : va_S (sgA 26 h s.heap.size) s.heap H locs := by rw [hH, hlo]; exact hS
  suffices hgo : W p l e ({ frames := 4, cells := 0, slots := 0, locals := 89 }) s m ([.ref (h 0), .int 5, .int x1] : List Value).toArray below meth cd H locs 0 0 Qz (F0 m 0 ls []) by rw [hH, hlo] at hgo; exact hgo
  clear hH hlo
  obtain ⟨sp, hsp⟩ : ∃ z : Int32 × sg_F, z = sX12_sitsAs_5_f2_f5 x1 f L := ⟨_, rfl⟩
  have hs : sp = sX12_sitsAs_5_f2_f5 x1 f L := hsp
  have o_1 : (f 0 48).toInt = 2 := (congrArg Int32.toInt (show f 0 48 = 2 from hf_0_48)).trans (by decide)
  have hF : sgK WkX12_sitsAs_5_f2_f5 f f := sgK.rf
  have blk_10 : ∀ (fp_10 : sg_F) (H : Heap) (locs : List Loc) (ls : Array Slot), sp = sX12_sitsAs_5_f2_f5_b10 x1 fp_10 L → 2 ≤ (fp_10 0 48).toInt ∧ (fp_10 0 48).toInt ≤ 2 → 5 ≤ (fp_10 0 49).toInt ∧ (fp_10 0 49).toInt ≤ 5 → sgI loM hiM fp_10 → sgK WkX12_sitsAs_5_f2_f5 f fp_10 → va_P D vwCl (sgw 26 h (eM ca h) fp_10 L Q) H → va_S (sgA 26 h s.heap.size) s.heap H locs → lv_has ls 4 [(0, .ref (h 0)), (2, .int x1)] → W p l e ({ frames := 4, cells := 0, slots := 0, locals := 89 }) s m ([.ref (h 0), .int 5, .int x1] : List Value).toArray below meth cd H locs 0 0 Qz (F0 m 10 ls []) := by
    intro fp_10 H locs ls hs hy0_10 hy1_10 hI hF hP hS hl
    obtain ⟨v_2, ev_2⟩ : ∃ z : Int32, z = fp_10 0 48 := ⟨_, rfl⟩
    have q_3 : 0 ≤ v_2.toInt ∧ v_2.toInt ≤ 19 := by rw [ev_2]; exact hI 0 48
    have q_4 : (fp_10 0 48).toInt = v_2.toInt := by rw [ev_2]
    obtain ⟨v_5, ev_5⟩ : ∃ z : Int32, z = fp_10 0 49 := ⟨_, rfl⟩
    have q_6 : 0 ≤ v_5.toInt ∧ v_5.toInt ≤ 7 := by rw [ev_5]; exact hI 0 49
    have q_7 : (fp_10 0 49).toInt = v_5.toInt := by rw [ev_5]
    have m_8 : fp_10 0 49 = 5 := (hF 0 49 (by decide)).trans hf_0_49
    refine lv_aload_n hx hb dX12_sitsAs_10 rfl (lv_at hl 0 rfl) ?_
    refine lv_bipush (v := 41) hx hb dX12_sitsAs_11 bp_41 ?_
    have c_9 : v_2 = 2 := Int32.toInt_inj.mp (by have k9 : (2 : Int32).toInt = 2 := ti_2; omega)
    have q_10 : (fp_10 0 48).toInt = 2 := (congrArg Int32.toInt (show fp_10 0 48 = 2 from (Eq.trans ev_2.symm c_9))).trans (by decide)
    refine sg_callv (va_runV (As := [.int 41]) (rest := []) ⟨hx, hb, hml, hown, hts⟩ (kX12_begins_41_f2 l D ca za h hh fp_10 L Q hI (Eq.trans ev_2.symm c_9) (by have k0 : (41 : Int32).toInt = 41 := ti_41; omega) H.size) (sl_c12_begins_0_0_0_0_12 hts ⟨Nat.le_of_ble_eq_true rfl, Nat.le_of_ble_eq_true rfl⟩) (sl_vM_0 hA hK hP hS hZ) rfl rfl hl.1 rfl (lv_room (Nat.le_of_ble_eq_true rfl)) dX12_sitsAs_13 ⟨Nat.le_refl _, Nat.le_refl _⟩) hA hS (fun f_12 L_13 Q_14 H locs hq hP hS => ?_)
    obtain ⟨⟨hI, hk_f_12, eL9, eQ9⟩, p_15, u_16⟩ := hq
    rw [eL9, eQ9] at hP; clear eL9 eQ9
    have hF : sgK WkX12_sitsAs_5_f2_f5 f f_12 := sgK.tr hF hk_f_12 (by decide +kernel)
    obtain ⟨v_17, ev_17⟩ : ∃ z : Int32, z = f_12 0 48 := ⟨_, rfl⟩
    have q_18 : 0 ≤ v_17.toInt ∧ v_17.toInt ≤ 19 := by rw [ev_17]; exact hI 0 48
    have q_19 : (f_12 0 48).toInt = v_17.toInt := (congrArg Int32.toInt (show f_12 0 48 = v_17 from ev_17.symm))
    refine lv_aload_n hx hb dX12_sitsAs_16 rfl (lv_at hl 0 rfl) ?_
    refine lv_iconst (v := 2) hx hb dX12_sitsAs_17 ic_2 ?_
    refine lv_iload_n hx hb dX12_sitsAs_18 rfl (lv_at hl 1 rfl) ?_
    refine lv_iconst (v := 1) hx hb dX12_sitsAs_19 ic_1 ?_
    refine lv_iadd hx hb dX12_sitsAs_20 ?_
    refine lv_topi (fun v_21 ev_21 => ?_)
    have c_22 : v_17 = 3 := Int32.toInt_inj.mp (by have k9 : (3 : Int32).toInt = 3 := ti_3; omega)
    have q_23 : (f_12 0 48).toInt = 3 := (congrArg Int32.toInt (show f_12 0 48 = 3 from (Eq.trans ev_17.symm c_22))).trans (by decide)
    refine sg_calli (va_runV (As := [.int 2, .int v_21]) (rest := []) ⟨hx, hb, hml, hown, hts⟩ (kX12_sitsAs_2_f3_f5 l D ca za h hh f_12 L Q hI v_21 (Eq.trans ev_17.symm c_22) ((hk_f_12 0 49 (by decide)).trans m_8) (by have k0 : (2 : Int32).toInt = 2 := ti_2; omega) H.size) (sl_c12_sitsAs_3_0_0_66_12 hts ⟨Nat.le_of_ble_eq_true rfl, Nat.le_of_ble_eq_true rfl⟩) (sl_vM_0 hA hK hP hS hZ) rfl rfl hl.1 rfl (lv_room (Nat.le_of_ble_eq_true rfl)) dX12_sitsAs_21 ⟨Nat.le_refl _, Nat.le_refl _⟩) hA hS (fun r_28 f_25 L_26 Q_27 H locs hq hP hS => ?_)
    obtain ⟨⟨hI, hk_f_25, eL9, eQ9⟩, hq, p_29, u_30⟩ := hq
    rw [eL9, eQ9] at hP; clear eL9 eQ9
    have hF : sgK WkX12_sitsAs_5_f2_f5 f f_25 := sgK.tr hF hk_f_25 (by decide +kernel)
    obtain ⟨v_31, ev_31⟩ : ∃ z : Int32, z = f_25 0 48 := ⟨_, rfl⟩
    have q_32 : 0 ≤ v_31.toInt ∧ v_31.toInt ≤ 19 := by rw [ev_31]; exact hI 0 48
    have q_33 : (f_25 0 48).toInt = v_31.toInt := (congrArg Int32.toInt (show f_25 0 48 = v_31 from ev_31.symm))
    have k_35 : (2 : Int32).toInt = 2 := by decide
    exact hret _ _ _ _ (r_28) f_25 L Q dX12_sitsAs_24 hP hS ⟨⟨hI, hF, rfl, rfl⟩, trivial, ⟨by omega, by omega⟩, (Eq.trans (Eq.symm (hs.trans ((spl_e ev_2 (spl_e ev_5 (spl_e u_16 (spl_e ev_17 (spl_e ev_21 (spl2_e u_30 (spl_e ev_31 rfl)))))))))) hsp)⟩
  refine lv_iload_n hx hb dX12_sitsAs_0 rfl (lv_at hl 1 rfl) ?_
  refine lv_iconst (v := 3) hx hb dX12_sitsAs_1 ic_3 ?_
  refine lv_icmp_eq (tgt := 10) hx hb dX12_sitsAs_2 (by decide) (fun c => absurd c (by decide)) (fun c => ?_)
  refine lv_iload_n hx hb dX12_sitsAs_5 rfl (lv_at hl 1 rfl) ?_
  refine lv_iconst (v := 5) hx hb dX12_sitsAs_6 ic_5 ?_
  refine lv_icmp_ne (tgt := 25) hx hb dX12_sitsAs_7 (by decide) (fun c => absurd c (by decide)) (fun c => ?_)
  exact blk_10 f _ _ _ hs (by have zz0_48 : (f 0 48).toInt = 2 := (congrArg Int32.toInt (show f 0 48 = 2 from hf_0_48)).trans (by decide); exact ⟨by omega, by omega⟩) (by have zz0_49 : (f 0 49).toInt = 5 := (congrArg Int32.toInt (show f 0 49 = 5 from hf_0_49)).trans (by decide); exact ⟨by omega, by omega⟩) hI hF hP hS (lv_sub hl [0, 2] rfl)

abbrev WkX12_begins_40_f6 : List (Nat × Nat × Option Nat) := [(0, 0, some 48), (21, 21, some 6)]
set_option maxHeartbeats 4000000 in
set_option maxRecDepth 100000 in
theorem kX12_begins_40_f6 (l : Launch) (D : va_G) (ca : Nat → ClassId) (za h : Nat → Nat) (hh : sgH 26 h) (f : sg_F) (L : sg_L) (Q : sg_Q) (hI : sgI loM hiM f) (hf_0_48 : f 0 48 = 6) (p0 : 6 ≤ (f 0 48).toInt ∧ (f 0 48).toInt ≤ 6) (sz : Nat) : Met l yX12_begins gwX12_begins { frames := 0, cells := 0, slots := 0, locals := 0 } (sgP D vwCl (tyX ca) 26 h (eM ca h) zcM za f L Q sz [.ref (h 0), .int 40]) (sgQv D vwCl 26 h (eM ca h) sz (fun f1 L1 Q1 => ((sgI loM hiM f1 ∧ sgK WkX12_begins_40_f6 f f1 ∧ L1 = L ∧ Q1 = Q) ∧ (7 ≤ (f1 0 48).toInt ∧ (f1 0 48).toInt ≤ 7) ∧ (f1) = sX12_begins_40_f6 f L))) 0 0 (sgA 26 h sz) := by
  refine sg_ofWv (cc := cX12_begins) (maxL := 2) RX12 (by decide) rfl rfl (Nat.le_of_ble_eq_true rfl) ?_
  intro p e s m below meth cd Qz ls hx hb hml hown hts hK hZ hP hS hl hret
  have hA := sgY.self (n := 26) (h := h) (sz := s.heap.size)
  have hl : lv_has ls 2 [(0, .ref (h 0)), (1, .int 40)] := hl
  obtain ⟨H, hH⟩ : ∃ z : Heap, z = s.heap := ⟨_, rfl⟩
  obtain ⟨locs, hlo⟩ : ∃ z : List Loc, z = [] := ⟨_, rfl⟩
  have hP : va_P D vwCl (sgw 26 h (eM ca h) f L Q) H := by rw [hH]; exact hP
  have hS : va_S (sgA 26 h s.heap.size) s.heap H locs := by rw [hH, hlo]; exact hS
  suffices hgo : W p l e ({ frames := 0, cells := 0, slots := 0, locals := 0 }) s m ([.ref (h 0), .int 40] : List Value).toArray below meth cd H locs 0 0 Qz (F0 m 0 ls []) by rw [hH, hlo] at hgo; exact hgo
  clear hH hlo
  obtain ⟨sp, hsp⟩ : ∃ z : sg_F, z = sX12_begins_40_f6 f L := ⟨_, rfl⟩
  have hs : sp = sX12_begins_40_f6 f L := hsp
  have o_1 : (f 0 48).toInt = 6 := (congrArg Int32.toInt (show f 0 48 = 6 from hf_0_48)).trans (by decide)
  have hF : sgK WkX12_begins_40_f6 f f := sgK.rf
  have blk_19 : ∀ (fp_19 : sg_F) (H : Heap) (locs : List Loc) (ls : Array Slot), sp = sX12_begins_40_f6_b19 fp_19 L → 6 ≤ (fp_19 0 48).toInt ∧ (fp_19 0 48).toInt ≤ 6 → sgI loM hiM fp_19 → sgK WkX12_begins_40_f6 f fp_19 → va_P D vwCl (sgw 26 h (eM ca h) fp_19 L Q) H → va_S (sgA 26 h s.heap.size) s.heap H locs → lv_has ls 2 [(0, .ref (h 0))] → W p l e ({ frames := 0, cells := 0, slots := 0, locals := 0 }) s m ([.ref (h 0), .int 40] : List Value).toArray below meth cd H locs 0 0 Qz (F0 m 19 ls []) := by
    intro fp_19 H locs ls hs hy0_19 hI hF hP hS hl
    obtain ⟨v_2, ev_2⟩ : ∃ z : Int32, z = fp_19 0 48 := ⟨_, rfl⟩
    have q_3 : 0 ≤ v_2.toInt ∧ v_2.toInt ≤ 19 := by rw [ev_2]; exact hI 0 48
    have q_4 : (fp_19 0 48).toInt = v_2.toInt := by rw [ev_2]
    refine lv_aload_n hx hb dX12_begins_19 rfl (lv_at hl 0 rfl) ?_
    refine lv_dup hx hb dX12_begins_20 rfl ?_
    refine sl_gM_0_48_12 (v := v_2) hx hb hts hown hK hP (show fp_19 0 48 = v_2 from ev_2.symm) dX12_begins_21 ?_
    refine lv_iconst (v := 1) hx hb dX12_begins_24 ic_1 ?_
    refine lv_iadd hx hb dX12_begins_25 ?_
    refine lv_topi (fun v_5 ev_5 => ?_)
    have q_6 : v_5.toInt = v_2.toInt + 1 := by rw [ev_5]; first | exact cm_add ti_1 (by omega) (by omega) | (have k1 : (1 : Int32).toInt = 1 := ti_1; exact (bn_addI (by omega) (by omega)).trans (by omega))
    refine sl_pM_0_48_12 (x := v_5) hx hb hts hown hh hA hK hP hS dX12_begins_26 (fun f_7 H locs ef_7 hP hS => ?_)
    have hI : sgI loM hiM f_7 := by rw [ef_7]; exact sgI.put hI 0 48 (show 0 ≤ (v_5 : Int32).toInt ∧ (v_5 : Int32).toInt ≤ 19 from ⟨by omega, by omega⟩)
    have hF : sgK WkX12_begins_40_f6 f f_7 := sgK.put hF ef_7 (by rfl)
    have q_8 : (f_7 0 48).toInt = v_5.toInt := (congrArg Int32.toInt (show f_7 0 48 = v_5 from (by rw [ef_7, sg_up_s, sgu_s])))
    exact hret _ _ _ _ f_7 L Q dX12_begins_29 hP hS ⟨⟨hI, hF, rfl, rfl⟩, ⟨by omega, by omega⟩, (Eq.trans (Eq.symm (hs.trans ((spl_e ev_2 (spl_e ev_5 (spl_e ef_7 rfl)))))) hsp)⟩
  refine lv_aload_n hx hb dX12_begins_0 rfl (lv_at hl 0 rfl) ?_
  refine sl_gM_0_48_12 (v := 6) hx hb hts hown hK hP (show f 0 48 = 6 from hf_0_48) dX12_begins_1 ?_
  refine lv_bipush (v := 24) hx hb dX12_begins_4 bp_24 ?_
  refine lv_icmp_ge (tgt := 19) hx hb dX12_begins_6 (by decide) (fun c => absurd c (by decide)) (fun c => ?_)
  refine lv_aload_n hx hb dX12_begins_9 rfl (lv_at hl 0 rfl) ?_
  refine sl_gM_0_47_12 hx hb hts hown hK hP dX12_begins_10 ?_
  refine lv_aload_n hx hb dX12_begins_13 rfl (lv_at hl 0 rfl) ?_
  refine sl_gM_0_48_12 (v := 6) hx hb hts hown hK hP (show f 0 48 = 6 from hf_0_48) dX12_begins_14 ?_
  refine lv_iload_n hx hb dX12_begins_17 rfl (lv_at hl 1 rfl) ?_
  refine sg_iast hx hb hh hA hK hP hS 21 (by decide) 0 (fun _ => rfl) rfl (i := 6) (x := 40) (vp_in_iff.mpr (by decide)) dX12_begins_18 (fun f_10 H locs ef_10 hP hS => ?_)
  have ef_10 : f_10 = sg_up f 21 (sgu (f 21) 6 40) := ef_10
  have hI : sgI loM hiM f_10 := by rw [ef_10]; exact sgI.put hI 21 6 (show 0 ≤ (40 : Int32).toInt ∧ (40 : Int32).toInt ≤ 81 from by decide)
  have hF : sgK WkX12_begins_40_f6 f f_10 := sgK.put hF ef_10 (by rfl)
  exact blk_19 f_10 _ _ _ (hs.trans ((spl_e ef_10 rfl))) (by have zz0_48 : (f_10 0 48).toInt = 6 := (congrArg Int32.toInt (show f_10 0 48 = 6 from (by rw [ef_10, sg_up_n (by decide)]; exact hf_0_48))).trans (by decide); exact ⟨by omega, by omega⟩) hI hF hP hS (lv_sub hl [0] rfl)

abbrev WkX12_begins_11_f7 : List (Nat × Nat × Option Nat) := [(0, 0, some 48), (21, 21, some 7)]
set_option maxHeartbeats 4000000 in
set_option maxRecDepth 100000 in
theorem kX12_begins_11_f7 (l : Launch) (D : va_G) (ca : Nat → ClassId) (za h : Nat → Nat) (hh : sgH 26 h) (f : sg_F) (L : sg_L) (Q : sg_Q) (hI : sgI loM hiM f) (hf_0_48 : f 0 48 = 7) (p0 : 7 ≤ (f 0 48).toInt ∧ (f 0 48).toInt ≤ 7) (sz : Nat) : Met l yX12_begins gwX12_begins { frames := 0, cells := 0, slots := 0, locals := 0 } (sgP D vwCl (tyX ca) 26 h (eM ca h) zcM za f L Q sz [.ref (h 0), .int 11]) (sgQv D vwCl 26 h (eM ca h) sz (fun f1 L1 Q1 => ((sgI loM hiM f1 ∧ sgK WkX12_begins_11_f7 f f1 ∧ L1 = L ∧ Q1 = Q) ∧ (8 ≤ (f1 0 48).toInt ∧ (f1 0 48).toInt ≤ 8) ∧ (f1) = sX12_begins_11_f7 f L))) 0 0 (sgA 26 h sz) := by
  refine sg_ofWv (cc := cX12_begins) (maxL := 2) RX12 (by decide) rfl rfl (Nat.le_of_ble_eq_true rfl) ?_
  intro p e s m below meth cd Qz ls hx hb hml hown hts hK hZ hP hS hl hret
  have hA := sgY.self (n := 26) (h := h) (sz := s.heap.size)
  have hl : lv_has ls 2 [(0, .ref (h 0)), (1, .int 11)] := hl
  obtain ⟨H, hH⟩ : ∃ z : Heap, z = s.heap := ⟨_, rfl⟩
  obtain ⟨locs, hlo⟩ : ∃ z : List Loc, z = [] := ⟨_, rfl⟩
  have hP : va_P D vwCl (sgw 26 h (eM ca h) f L Q) H := by rw [hH]; exact hP
  have hS : va_S (sgA 26 h s.heap.size) s.heap H locs := by rw [hH, hlo]; exact hS
  suffices hgo : W p l e ({ frames := 0, cells := 0, slots := 0, locals := 0 }) s m ([.ref (h 0), .int 11] : List Value).toArray below meth cd H locs 0 0 Qz (F0 m 0 ls []) by rw [hH, hlo] at hgo; exact hgo
  clear hH hlo
  obtain ⟨sp, hsp⟩ : ∃ z : sg_F, z = sX12_begins_11_f7 f L := ⟨_, rfl⟩
  have hs : sp = sX12_begins_11_f7 f L := hsp
  have o_1 : (f 0 48).toInt = 7 := (congrArg Int32.toInt (show f 0 48 = 7 from hf_0_48)).trans (by decide)
  have hF : sgK WkX12_begins_11_f7 f f := sgK.rf
  have blk_19 : ∀ (fp_19 : sg_F) (H : Heap) (locs : List Loc) (ls : Array Slot), sp = sX12_begins_11_f7_b19 fp_19 L → 7 ≤ (fp_19 0 48).toInt ∧ (fp_19 0 48).toInt ≤ 7 → sgI loM hiM fp_19 → sgK WkX12_begins_11_f7 f fp_19 → va_P D vwCl (sgw 26 h (eM ca h) fp_19 L Q) H → va_S (sgA 26 h s.heap.size) s.heap H locs → lv_has ls 2 [(0, .ref (h 0))] → W p l e ({ frames := 0, cells := 0, slots := 0, locals := 0 }) s m ([.ref (h 0), .int 11] : List Value).toArray below meth cd H locs 0 0 Qz (F0 m 19 ls []) := by
    intro fp_19 H locs ls hs hy0_19 hI hF hP hS hl
    obtain ⟨v_2, ev_2⟩ : ∃ z : Int32, z = fp_19 0 48 := ⟨_, rfl⟩
    have q_3 : 0 ≤ v_2.toInt ∧ v_2.toInt ≤ 19 := by rw [ev_2]; exact hI 0 48
    have q_4 : (fp_19 0 48).toInt = v_2.toInt := by rw [ev_2]
    refine lv_aload_n hx hb dX12_begins_19 rfl (lv_at hl 0 rfl) ?_
    refine lv_dup hx hb dX12_begins_20 rfl ?_
    refine sl_gM_0_48_12 (v := v_2) hx hb hts hown hK hP (show fp_19 0 48 = v_2 from ev_2.symm) dX12_begins_21 ?_
    refine lv_iconst (v := 1) hx hb dX12_begins_24 ic_1 ?_
    refine lv_iadd hx hb dX12_begins_25 ?_
    refine lv_topi (fun v_5 ev_5 => ?_)
    have q_6 : v_5.toInt = v_2.toInt + 1 := by rw [ev_5]; first | exact cm_add ti_1 (by omega) (by omega) | (have k1 : (1 : Int32).toInt = 1 := ti_1; exact (bn_addI (by omega) (by omega)).trans (by omega))
    refine sl_pM_0_48_12 (x := v_5) hx hb hts hown hh hA hK hP hS dX12_begins_26 (fun f_7 H locs ef_7 hP hS => ?_)
    have hI : sgI loM hiM f_7 := by rw [ef_7]; exact sgI.put hI 0 48 (show 0 ≤ (v_5 : Int32).toInt ∧ (v_5 : Int32).toInt ≤ 19 from ⟨by omega, by omega⟩)
    have hF : sgK WkX12_begins_11_f7 f f_7 := sgK.put hF ef_7 (by rfl)
    have q_8 : (f_7 0 48).toInt = v_5.toInt := (congrArg Int32.toInt (show f_7 0 48 = v_5 from (by rw [ef_7, sg_up_s, sgu_s])))
    exact hret _ _ _ _ f_7 L Q dX12_begins_29 hP hS ⟨⟨hI, hF, rfl, rfl⟩, ⟨by omega, by omega⟩, (Eq.trans (Eq.symm (hs.trans ((spl_e ev_2 (spl_e ev_5 (spl_e ef_7 rfl)))))) hsp)⟩
  refine lv_aload_n hx hb dX12_begins_0 rfl (lv_at hl 0 rfl) ?_
  refine sl_gM_0_48_12 (v := 7) hx hb hts hown hK hP (show f 0 48 = 7 from hf_0_48) dX12_begins_1 ?_
  refine lv_bipush (v := 24) hx hb dX12_begins_4 bp_24 ?_
  refine lv_icmp_ge (tgt := 19) hx hb dX12_begins_6 (by decide) (fun c => absurd c (by decide)) (fun c => ?_)
  refine lv_aload_n hx hb dX12_begins_9 rfl (lv_at hl 0 rfl) ?_
  refine sl_gM_0_47_12 hx hb hts hown hK hP dX12_begins_10 ?_
  refine lv_aload_n hx hb dX12_begins_13 rfl (lv_at hl 0 rfl) ?_
  refine sl_gM_0_48_12 (v := 7) hx hb hts hown hK hP (show f 0 48 = 7 from hf_0_48) dX12_begins_14 ?_
  refine lv_iload_n hx hb dX12_begins_17 rfl (lv_at hl 1 rfl) ?_
  refine sg_iast hx hb hh hA hK hP hS 21 (by decide) 0 (fun _ => rfl) rfl (i := 7) (x := 11) (vp_in_iff.mpr (by decide)) dX12_begins_18 (fun f_10 H locs ef_10 hP hS => ?_)
  have ef_10 : f_10 = sg_up f 21 (sgu (f 21) 7 11) := ef_10
  have hI : sgI loM hiM f_10 := by rw [ef_10]; exact sgI.put hI 21 7 (show 0 ≤ (11 : Int32).toInt ∧ (11 : Int32).toInt ≤ 81 from by decide)
  have hF : sgK WkX12_begins_11_f7 f f_10 := sgK.put hF ef_10 (by rfl)
  exact blk_19 f_10 _ _ _ (hs.trans ((spl_e ef_10 rfl))) (by have zz0_48 : (f_10 0 48).toInt = 7 := (congrArg Int32.toInt (show f_10 0 48 = 7 from (by rw [ef_10, sg_up_n (by decide)]; exact hf_0_48))).trans (by decide); exact ⟨by omega, by omega⟩) hI hF hP hS (lv_sub hl [0] rfl)

abbrev WkX12_slipsAs_2_f7_f5 : List (Nat × Nat × Option Nat) := [(0, 0, some 48), (21, 21, some 7)]
set_option maxHeartbeats 4000000 in
set_option maxRecDepth 100000 in
theorem kX12_slipsAs_2_f7_f5 (l : Launch) (D : va_G) (ca : Nat → ClassId) (za h : Nat → Nat) (hh : sgH 26 h) (f : sg_F) (L : sg_L) (Q : sg_Q) (hI : sgI loM hiM f) (x1 : Int32) (hf_0_48 : f 0 48 = 7) (hf_0_49 : f 0 49 = 5) (b1 : 1 ≤ x1.toInt ∧ x1.toInt ≤ 1) (p0 : 7 ≤ (f 0 48).toInt ∧ (f 0 48).toInt ≤ 7) (sz : Nat) : Met l yX12_slipsAs gwX12_slipsAs { frames := 1, cells := 0, slots := 0, locals := 21 } (sgP D vwCl (tyX ca) 26 h (eM ca h) zcM za f L Q sz [.ref (h 0), .int 2, .int x1]) (sgQi D vwCl 26 h (eM ca h) sz (fun r f1 L1 Q1 => ((sgI loM hiM f1 ∧ sgK WkX12_slipsAs_2_f7_f5 f f1 ∧ L1 = L ∧ Q1 = Q) ∧ True ∧ (8 ≤ (f1 0 48).toInt ∧ (f1 0 48).toInt ≤ 8) ∧ (r, f1) = sX12_slipsAs_2_f7_f5 x1 f L))) 0 0 (sgA 26 h sz) := by
  refine sg_ofWi (cc := cX12_slipsAs) (maxL := 4) RX12 (by decide) rfl rfl (Nat.le_of_ble_eq_true rfl) ?_
  intro p e s m below meth cd Qz ls hx hb hml hown hts hK hZ hP hS hl hret
  have hA := sgY.self (n := 26) (h := h) (sz := s.heap.size)
  have hl : lv_has ls 4 [(0, .ref (h 0)), (1, .int 2), (2, .int x1)] := hl
  obtain ⟨H, hH⟩ : ∃ z : Heap, z = s.heap := ⟨_, rfl⟩
  obtain ⟨locs, hlo⟩ : ∃ z : List Loc, z = [] := ⟨_, rfl⟩
  have hP : va_P D vwCl (sgw 26 h (eM ca h) f L Q) H := by rw [hH]; exact hP
  have hS : va_S (sgA 26 h s.heap.size) s.heap H locs := by rw [hH, hlo]; exact hS
  suffices hgo : W p l e ({ frames := 1, cells := 0, slots := 0, locals := 21 }) s m ([.ref (h 0), .int 2, .int x1] : List Value).toArray below meth cd H locs 0 0 Qz (F0 m 0 ls []) by rw [hH, hlo] at hgo; exact hgo
  clear hH hlo
  obtain ⟨sp, hsp⟩ : ∃ z : Int32 × sg_F, z = sX12_slipsAs_2_f7_f5 x1 f L := ⟨_, rfl⟩
  have hs : sp = sX12_slipsAs_2_f7_f5 x1 f L := hsp
  have o_1 : (f 0 48).toInt = 7 := (congrArg Int32.toInt (show f 0 48 = 7 from hf_0_48)).trans (by decide)
  have hF : sgK WkX12_slipsAs_2_f7_f5 f f := sgK.rf
  refine lv_iload_n hx hb dX12_slipsAs_0 rfl (lv_at hl 1 rfl) ?_
  refine lv_iconst (v := 3) hx hb dX12_slipsAs_1 ic_3 ?_
  refine lv_icmp_eq (tgt := 10) hx hb dX12_slipsAs_2 (by decide) (fun c => absurd c (by decide)) (fun c => ?_)
  refine lv_iload_n hx hb dX12_slipsAs_5 rfl (lv_at hl 1 rfl) ?_
  refine lv_iconst (v := 5) hx hb dX12_slipsAs_6 ic_5 ?_
  refine lv_icmp_ne (tgt := 25) hx hb dX12_slipsAs_7 (by decide) (fun c => ?_) (fun c => absurd c (by decide))
  refine lv_iload_n hx hb dX12_slipsAs_25 rfl (lv_at hl 1 rfl) ?_
  refine lv_iconst (v := 4) hx hb dX12_slipsAs_26 ic_4 ?_
  refine lv_icmp_eq (tgt := 36) hx hb dX12_slipsAs_27 (by decide) (fun c => absurd c (by decide)) (fun c => ?_)
  refine lv_iload_n hx hb dX12_slipsAs_30 rfl (lv_at hl 1 rfl) ?_
  refine lv_bipush (v := 7) hx hb dX12_slipsAs_31 bp_7 ?_
  refine lv_icmp_ne (tgt := 61) hx hb dX12_slipsAs_33 (by decide) (fun c => ?_) (fun c => absurd c (by decide))
  refine lv_aload_n hx hb dX12_slipsAs_61 rfl (lv_at hl 0 rfl) ?_
  refine lv_bipush (v := 11) hx hb dX12_slipsAs_62 bp_11 ?_
  have q_2 : (f 0 48).toInt = 7 := (congrArg Int32.toInt (show f 0 48 = 7 from hf_0_48)).trans (by decide)
  refine sg_callv (va_runV (As := [.int 11]) (rest := []) ⟨hx, hb, hml, hown, hts⟩ (kX12_begins_11_f7 l D ca za h hh f L Q hI hf_0_48 (by have k0 : (11 : Int32).toInt = 11 := ti_11; omega) H.size) (sl_c12_begins_0_0_0_0_12 hts ⟨Nat.le_of_ble_eq_true rfl, Nat.le_of_ble_eq_true rfl⟩) (sl_vM_0 hA hK hP hS hZ) rfl rfl hl.1 rfl (lv_room (Nat.le_of_ble_eq_true rfl)) dX12_slipsAs_64 ⟨Nat.le_refl _, Nat.le_refl _⟩) hA hS (fun f_4 L_5 Q_6 H locs hq hP hS => ?_)
  obtain ⟨⟨hI, hk_f_4, eL9, eQ9⟩, p_7, u_8⟩ := hq
  rw [eL9, eQ9] at hP; clear eL9 eQ9
  have hF : sgK WkX12_slipsAs_2_f7_f5 f f_4 := sgK.tr hF hk_f_4 (by decide +kernel)
  obtain ⟨v_9, ev_9⟩ : ∃ z : Int32, z = f_4 0 48 := ⟨_, rfl⟩
  have q_10 : 0 ≤ v_9.toInt ∧ v_9.toInt ≤ 19 := by rw [ev_9]; exact hI 0 48
  have q_11 : (f_4 0 48).toInt = v_9.toInt := (congrArg Int32.toInt (show f_4 0 48 = v_9 from ev_9.symm))
  refine lv_iload_n hx hb dX12_slipsAs_67 rfl (lv_at hl 2 rfl) ?_
  refine lv_aload_n hx hb dX12_slipsAs_68 rfl (lv_at hl 0 rfl) ?_
  refine sl_gM_0_50_12 (v := (f_4 0 50)) hx hb hts hown hK hP rfl dX12_slipsAs_69 ?_
  refine lv_topi (fun v_13 ev_13 => ?_)
  have q_14 : 0 ≤ v_13.toInt ∧ v_13.toInt ≤ 49 := by rw [ev_13]; exact hI 0 50
  refine lv_ixor hx hb dX12_slipsAs_72 ?_
  refine lv_topi (fun v_15 ev_15 => ?_)
  exact hret _ _ _ _ (v_15) f_4 L Q dX12_slipsAs_73 hP hS ⟨⟨hI, hF, rfl, rfl⟩, trivial, ⟨by omega, by omega⟩, (Eq.trans (Eq.symm (hs.trans ((spl_e u_8 (spl_e ev_9 (spl_e ev_13 (spl_e ev_15 rfl))))))) hsp)⟩

abbrev WkX12_slipsAs_5_f6_f5 : List (Nat × Nat × Option Nat) := [(0, 0, some 48), (21, 21, some 6), (21, 21, some 7)]
set_option maxHeartbeats 4000000 in
set_option maxRecDepth 100000 in
theorem kX12_slipsAs_5_f6_f5 (l : Launch) (D : va_G) (ca : Nat → ClassId) (za h : Nat → Nat) (hh : sgH 26 h) (f : sg_F) (L : sg_L) (Q : sg_Q) (hI : sgI loM hiM f) (x1 : Int32) (hf_0_48 : f 0 48 = 6) (hf_0_49 : f 0 49 = 5) (b1 : 1 ≤ x1.toInt ∧ x1.toInt ≤ 1) (p0 : 6 ≤ (f 0 48).toInt ∧ (f 0 48).toInt ≤ 6) (sz : Nat) : Met l yX12_slipsAs gwX12_slipsAs { frames := 2, cells := 0, slots := 0, locals := 44 } (sgP D vwCl (tyX ca) 26 h (eM ca h) zcM za f L Q sz [.ref (h 0), .int 5, .int x1]) (sgQi D vwCl 26 h (eM ca h) sz (fun r f1 L1 Q1 => ((sgI loM hiM f1 ∧ sgK WkX12_slipsAs_5_f6_f5 f f1 ∧ L1 = L ∧ Q1 = Q) ∧ True ∧ (8 ≤ (f1 0 48).toInt ∧ (f1 0 48).toInt ≤ 8) ∧ (r, f1) = sX12_slipsAs_5_f6_f5 x1 f L))) 0 0 (sgA 26 h sz) := by
  refine sg_ofWi (cc := cX12_slipsAs) (maxL := 4) RX12 (by decide) rfl rfl (Nat.le_of_ble_eq_true rfl) ?_
  intro p e s m below meth cd Qz ls hx hb hml hown hts hK hZ hP hS hl hret
  have hA := sgY.self (n := 26) (h := h) (sz := s.heap.size)
  have hl : lv_has ls 4 [(0, .ref (h 0)), (1, .int 5), (2, .int x1)] := hl
  obtain ⟨H, hH⟩ : ∃ z : Heap, z = s.heap := ⟨_, rfl⟩
  obtain ⟨locs, hlo⟩ : ∃ z : List Loc, z = [] := ⟨_, rfl⟩
  have hP : va_P D vwCl (sgw 26 h (eM ca h) f L Q) H := by rw [hH]; exact hP
  have hS : va_S (sgA 26 h s.heap.size) s.heap H locs := by rw [hH, hlo]; exact hS
  suffices hgo : W p l e ({ frames := 2, cells := 0, slots := 0, locals := 44 }) s m ([.ref (h 0), .int 5, .int x1] : List Value).toArray below meth cd H locs 0 0 Qz (F0 m 0 ls []) by rw [hH, hlo] at hgo; exact hgo
  clear hH hlo
  obtain ⟨sp, hsp⟩ : ∃ z : Int32 × sg_F, z = sX12_slipsAs_5_f6_f5 x1 f L := ⟨_, rfl⟩
  have hs : sp = sX12_slipsAs_5_f6_f5 x1 f L := hsp
  have o_1 : (f 0 48).toInt = 6 := (congrArg Int32.toInt (show f 0 48 = 6 from hf_0_48)).trans (by decide)
  have hF : sgK WkX12_slipsAs_5_f6_f5 f f := sgK.rf
  have blk_10 : ∀ (fp_10 : sg_F) (H : Heap) (locs : List Loc) (ls : Array Slot), sp = sX12_slipsAs_5_f6_f5_b10 x1 fp_10 L → 6 ≤ (fp_10 0 48).toInt ∧ (fp_10 0 48).toInt ≤ 6 → 5 ≤ (fp_10 0 49).toInt ∧ (fp_10 0 49).toInt ≤ 5 → sgI loM hiM fp_10 → sgK WkX12_slipsAs_5_f6_f5 f fp_10 → va_P D vwCl (sgw 26 h (eM ca h) fp_10 L Q) H → va_S (sgA 26 h s.heap.size) s.heap H locs → lv_has ls 4 [(0, .ref (h 0)), (2, .int x1)] → W p l e ({ frames := 2, cells := 0, slots := 0, locals := 44 }) s m ([.ref (h 0), .int 5, .int x1] : List Value).toArray below meth cd H locs 0 0 Qz (F0 m 10 ls []) := by
    intro fp_10 H locs ls hs hy0_10 hy1_10 hI hF hP hS hl
    obtain ⟨v_2, ev_2⟩ : ∃ z : Int32, z = fp_10 0 48 := ⟨_, rfl⟩
    have q_3 : 0 ≤ v_2.toInt ∧ v_2.toInt ≤ 19 := by rw [ev_2]; exact hI 0 48
    have q_4 : (fp_10 0 48).toInt = v_2.toInt := by rw [ev_2]
    obtain ⟨v_5, ev_5⟩ : ∃ z : Int32, z = fp_10 0 49 := ⟨_, rfl⟩
    have q_6 : 0 ≤ v_5.toInt ∧ v_5.toInt ≤ 7 := by rw [ev_5]; exact hI 0 49
    have q_7 : (fp_10 0 49).toInt = v_5.toInt := by rw [ev_5]
    have m_8 : fp_10 0 49 = 5 := (hF 0 49 (by decide)).trans hf_0_49
    refine lv_aload_n hx hb dX12_slipsAs_10 rfl (lv_at hl 0 rfl) ?_
    refine lv_bipush (v := 40) hx hb dX12_slipsAs_11 bp_40 ?_
    have c_9 : v_2 = 6 := Int32.toInt_inj.mp (by have k9 : (6 : Int32).toInt = 6 := ti_6; omega)
    have q_10 : (fp_10 0 48).toInt = 6 := (congrArg Int32.toInt (show fp_10 0 48 = 6 from (Eq.trans ev_2.symm c_9))).trans (by decide)
    refine sg_callv (va_runV (As := [.int 40]) (rest := []) ⟨hx, hb, hml, hown, hts⟩ (kX12_begins_40_f6 l D ca za h hh fp_10 L Q hI (Eq.trans ev_2.symm c_9) (by have k0 : (40 : Int32).toInt = 40 := ti_40; omega) H.size) (sl_c12_begins_0_0_0_0_12 hts ⟨Nat.le_of_ble_eq_true rfl, Nat.le_of_ble_eq_true rfl⟩) (sl_vM_0 hA hK hP hS hZ) rfl rfl hl.1 rfl (lv_room (Nat.le_of_ble_eq_true rfl)) dX12_slipsAs_13 ⟨Nat.le_refl _, Nat.le_refl _⟩) hA hS (fun f_12 L_13 Q_14 H locs hq hP hS => ?_)
    obtain ⟨⟨hI, hk_f_12, eL9, eQ9⟩, p_15, u_16⟩ := hq
    rw [eL9, eQ9] at hP; clear eL9 eQ9
    have hF : sgK WkX12_slipsAs_5_f6_f5 f f_12 := sgK.tr hF hk_f_12 (by decide +kernel)
    obtain ⟨v_17, ev_17⟩ : ∃ z : Int32, z = f_12 0 48 := ⟨_, rfl⟩
    have q_18 : 0 ≤ v_17.toInt ∧ v_17.toInt ≤ 19 := by rw [ev_17]; exact hI 0 48
    have q_19 : (f_12 0 48).toInt = v_17.toInt := (congrArg Int32.toInt (show f_12 0 48 = v_17 from ev_17.symm))
    refine lv_aload_n hx hb dX12_slipsAs_16 rfl (lv_at hl 0 rfl) ?_
    refine lv_iconst (v := 2) hx hb dX12_slipsAs_17 ic_2 ?_
    refine lv_iload_n hx hb dX12_slipsAs_18 rfl (lv_at hl 1 rfl) ?_
    have c_21 : v_17 = 7 := Int32.toInt_inj.mp (by have k9 : (7 : Int32).toInt = 7 := ti_7; omega)
    have q_22 : (f_12 0 48).toInt = 7 := (congrArg Int32.toInt (show f_12 0 48 = 7 from (Eq.trans ev_17.symm c_21))).trans (by decide)
    refine sg_calli (va_runV (As := [.int 2, .int x1]) (rest := []) ⟨hx, hb, hml, hown, hts⟩ (kX12_slipsAs_2_f7_f5 l D ca za h hh f_12 L Q hI x1 (Eq.trans ev_17.symm c_21) ((hk_f_12 0 49 (by decide)).trans m_8) b1 (by have k0 : (2 : Int32).toInt = 2 := ti_2; omega) H.size) (sl_c12_slipsAs_1_0_0_21_12 hts ⟨Nat.le_of_ble_eq_true rfl, Nat.le_of_ble_eq_true rfl⟩) (sl_vM_0 hA hK hP hS hZ) rfl rfl hl.1 rfl (lv_room (Nat.le_of_ble_eq_true rfl)) dX12_slipsAs_19 ⟨Nat.le_refl _, Nat.le_refl _⟩) hA hS (fun r_27 f_24 L_25 Q_26 H locs hq hP hS => ?_)
    obtain ⟨⟨hI, hk_f_24, eL9, eQ9⟩, hq, p_28, u_29⟩ := hq
    rw [eL9, eQ9] at hP; clear eL9 eQ9
    have hF : sgK WkX12_slipsAs_5_f6_f5 f f_24 := sgK.tr hF hk_f_24 (by decide +kernel)
    obtain ⟨v_30, ev_30⟩ : ∃ z : Int32, z = f_24 0 48 := ⟨_, rfl⟩
    have q_31 : 0 ≤ v_30.toInt ∧ v_30.toInt ≤ 19 := by rw [ev_30]; exact hI 0 48
    have q_32 : (f_24 0 48).toInt = v_30.toInt := (congrArg Int32.toInt (show f_24 0 48 = v_30 from ev_30.symm))
    have k_34 : (2 : Int32).toInt = 2 := by decide
    refine lv_iconst (v := 3) hx hb dX12_slipsAs_22 ic_3 ?_
    refine lv_imul hx hb dX12_slipsAs_23 ?_
    refine lv_topi (fun v_35 ev_35 => ?_)
    exact hret _ _ _ _ (v_35) f_24 L Q dX12_slipsAs_24 hP hS ⟨⟨hI, hF, rfl, rfl⟩, trivial, ⟨by omega, by omega⟩, (Eq.trans (Eq.symm (hs.trans ((spl_e ev_2 (spl_e ev_5 (spl_e u_16 (spl_e ev_17 (spl2_e u_29 (spl_e ev_30 (spl_e ev_35 rfl)))))))))) hsp)⟩
  refine lv_iload_n hx hb dX12_slipsAs_0 rfl (lv_at hl 1 rfl) ?_
  refine lv_iconst (v := 3) hx hb dX12_slipsAs_1 ic_3 ?_
  refine lv_icmp_eq (tgt := 10) hx hb dX12_slipsAs_2 (by decide) (fun c => absurd c (by decide)) (fun c => ?_)
  refine lv_iload_n hx hb dX12_slipsAs_5 rfl (lv_at hl 1 rfl) ?_
  refine lv_iconst (v := 5) hx hb dX12_slipsAs_6 ic_5 ?_
  refine lv_icmp_ne (tgt := 25) hx hb dX12_slipsAs_7 (by decide) (fun c => absurd c (by decide)) (fun c => ?_)
  exact blk_10 f _ _ _ hs (by have zz0_48 : (f 0 48).toInt = 6 := (congrArg Int32.toInt (show f 0 48 = 6 from hf_0_48)).trans (by decide); exact ⟨by omega, by omega⟩) (by have zz0_49 : (f 0 49).toInt = 5 := (congrArg Int32.toInt (show f 0 49 = 5 from hf_0_49)).trans (by decide); exact ⟨by omega, by omega⟩) hI hF hP hS (lv_sub hl [0, 2] rfl)

abbrev WkX12_tellsAs_3_f1_f5 : List (Nat × Nat × Option Nat) := [(0, 0, some 48), (21, 21, some 1), (21, 21, some 2), (21, 21, some 3), (21, 21, some 4), (21, 21, some 5), (21, 21, some 6), (21, 21, some 7)]
set_option maxHeartbeats 4000000 in
set_option maxRecDepth 100000 in
theorem kX12_tellsAs_3_f1_f5 (l : Launch) (D : va_G) (ca : Nat → ClassId) (za h : Nat → Nat) (hh : sgH 26 h) (f : sg_F) (L : sg_L) (Q : sg_Q) (hI : sgI loM hiM f) (x1 : Int32) (hf_0_48 : f 0 48 = 1) (hf_0_49 : f 0 49 = 5) (p0 : 1 ≤ (f 0 48).toInt ∧ (f 0 48).toInt ≤ 1) (sz : Nat) : Met l yX12_tellsAs gwX12_tellsAs { frames := 5, cells := 0, slots := 0, locals := 112 } (sgP D vwCl (tyX ca) 26 h (eM ca h) zcM za f L Q sz [.ref (h 0), .int 3, .int x1]) (sgQi D vwCl 26 h (eM ca h) sz (fun r f1 L1 Q1 => ((sgI loM hiM f1 ∧ sgK WkX12_tellsAs_3_f1_f5 f f1 ∧ L1 = L ∧ Q1 = Q) ∧ True ∧ (8 ≤ (f1 0 48).toInt ∧ (f1 0 48).toInt ≤ 8) ∧ (r, f1) = sX12_tellsAs_3_f1_f5 x1 f L))) 0 0 (sgA 26 h sz) := by
  refine sg_ofWi (cc := cX12_tellsAs) (maxL := 4) RX12 (by decide) rfl rfl (Nat.le_of_ble_eq_true rfl) ?_
  intro p e s m below meth cd Qz ls hx hb hml hown hts hK hZ hP hS hl hret
  have hA := sgY.self (n := 26) (h := h) (sz := s.heap.size)
  have hl : lv_has ls 4 [(0, .ref (h 0)), (1, .int 3), (2, .int x1)] := hl
  obtain ⟨H, hH⟩ : ∃ z : Heap, z = s.heap := ⟨_, rfl⟩
  obtain ⟨locs, hlo⟩ : ∃ z : List Loc, z = [] := ⟨_, rfl⟩
  have hP : va_P D vwCl (sgw 26 h (eM ca h) f L Q) H := by rw [hH]; exact hP
  have hS : va_S (sgA 26 h s.heap.size) s.heap H locs := by rw [hH, hlo]; exact hS
  suffices hgo : W p l e ({ frames := 5, cells := 0, slots := 0, locals := 112 }) s m ([.ref (h 0), .int 3, .int x1] : List Value).toArray below meth cd H locs 0 0 Qz (F0 m 0 ls []) by rw [hH, hlo] at hgo; exact hgo
  clear hH hlo
  obtain ⟨sp, hsp⟩ : ∃ z : Int32 × sg_F, z = sX12_tellsAs_3_f1_f5 x1 f L := ⟨_, rfl⟩
  have hs : sp = sX12_tellsAs_3_f1_f5 x1 f L := hsp
  have o_1 : (f 0 48).toInt = 1 := (congrArg Int32.toInt (show f 0 48 = 1 from hf_0_48)).trans (by decide)
  have hF : sgK WkX12_tellsAs_3_f1_f5 f f := sgK.rf
  refine lv_iload_n hx hb dX12_tellsAs_0 rfl (lv_at hl 1 rfl) ?_
  refine lv_iconst (v := 5) hx hb dX12_tellsAs_1 ic_5 ?_
  refine lv_icmp_ne (tgt := 20) hx hb dX12_tellsAs_2 (by decide) (fun c => ?_) (fun c => absurd c (by decide))
  refine lv_iload_n hx hb dX12_tellsAs_20 rfl (lv_at hl 1 rfl) ?_
  refine lv_bipush (v := 7) hx hb dX12_tellsAs_21 bp_7 ?_
  refine lv_icmp_ne (tgt := 41) hx hb dX12_tellsAs_23 (by decide) (fun c => ?_) (fun c => absurd c (by decide))
  refine lv_aload_n hx hb dX12_tellsAs_41 rfl (lv_at hl 0 rfl) ?_
  refine lv_iconst (v := 2) hx hb dX12_tellsAs_42 ic_2 ?_
  have q_2 : (f 0 48).toInt = 1 := (congrArg Int32.toInt (show f 0 48 = 1 from hf_0_48)).trans (by decide)
  refine sg_callv (va_runV (As := [.int 2]) (rest := []) ⟨hx, hb, hml, hown, hts⟩ (kX12_begins_2_f1 l D ca za h hh f L Q hI hf_0_48 (by have k0 : (2 : Int32).toInt = 2 := ti_2; omega) H.size) (sl_c12_begins_0_0_0_0_12 hts ⟨Nat.le_of_ble_eq_true rfl, Nat.le_of_ble_eq_true rfl⟩) (sl_vM_0 hA hK hP hS hZ) rfl rfl hl.1 rfl (lv_room (Nat.le_of_ble_eq_true rfl)) dX12_tellsAs_43 ⟨Nat.le_refl _, Nat.le_refl _⟩) hA hS (fun f_4 L_5 Q_6 H locs hq hP hS => ?_)
  obtain ⟨⟨hI, hk_f_4, eL9, eQ9⟩, p_7, u_8⟩ := hq
  rw [eL9, eQ9] at hP; clear eL9 eQ9
  have hF : sgK WkX12_tellsAs_3_f1_f5 f f_4 := sgK.tr hF hk_f_4 (by decide +kernel)
  obtain ⟨v_9, ev_9⟩ : ∃ z : Int32, z = f_4 0 48 := ⟨_, rfl⟩
  have q_10 : 0 ≤ v_9.toInt ∧ v_9.toInt ≤ 19 := by rw [ev_9]; exact hI 0 48
  have q_11 : (f_4 0 48).toInt = v_9.toInt := (congrArg Int32.toInt (show f_4 0 48 = v_9 from ev_9.symm))
  refine lv_aload_n hx hb dX12_tellsAs_46 rfl (lv_at hl 0 rfl) ?_
  refine lv_aload_n hx hb dX12_tellsAs_47 rfl (lv_at hl 0 rfl) ?_
  refine sl_gM_0_49_12 (v := 5) hx hb hts hown hK hP (show f_4 0 49 = 5 from ((hk_f_4 0 49 (by decide)).trans hf_0_49)) dX12_tellsAs_48 ?_
  refine lv_iload_n hx hb dX12_tellsAs_51 rfl (lv_at hl 2 rfl) ?_
  have c_13 : v_9 = 2 := Int32.toInt_inj.mp (by have k9 : (2 : Int32).toInt = 2 := ti_2; omega)
  have q_14 : (f_4 0 48).toInt = 2 := (congrArg Int32.toInt (show f_4 0 48 = 2 from (Eq.trans ev_9.symm c_13))).trans (by decide)
  refine sg_calli (va_runV (As := [.int 5, .int x1]) (rest := []) ⟨hx, hb, hml, hown, hts⟩ (kX12_sitsAs_5_f2_f5 l D ca za h hh f_4 L Q hI x1 (Eq.trans ev_9.symm c_13) ((hk_f_4 0 49 (by decide)).trans hf_0_49) (by have k0 : (5 : Int32).toInt = 5 := ti_5; omega) H.size) (sl_c12_sitsAs_4_0_0_89_12 hts ⟨Nat.le_of_ble_eq_true rfl, Nat.le_of_ble_eq_true rfl⟩) (sl_vM_0 hA hK hP hS hZ) rfl rfl hl.1 rfl (lv_room (Nat.le_of_ble_eq_true rfl)) dX12_tellsAs_52 ⟨Nat.le_refl _, Nat.le_refl _⟩) hA hS (fun r_19 f_16 L_17 Q_18 H locs hq hP hS => ?_)
  obtain ⟨⟨hI, hk_f_16, eL9, eQ9⟩, hq, p_20, u_21⟩ := hq
  rw [eL9, eQ9] at hP; clear eL9 eQ9
  have hF : sgK WkX12_tellsAs_3_f1_f5 f f_16 := sgK.tr hF hk_f_16 (by decide +kernel)
  obtain ⟨v_22, ev_22⟩ : ∃ z : Int32, z = f_16 0 48 := ⟨_, rfl⟩
  have q_23 : 0 ≤ v_22.toInt ∧ v_22.toInt ≤ 19 := by rw [ev_22]; exact hI 0 48
  have q_24 : (f_16 0 48).toInt = v_22.toInt := (congrArg Int32.toInt (show f_16 0 48 = v_22 from ev_22.symm))
  have k_26 : (5 : Int32).toInt = 5 := by decide
  refine lv_istore_n (lv' := [(3, .int r_19), (0, .ref (h 0)), (1, .int 3), (2, .int x1)]) hx hb dX12_tellsAs_55 rfl hl (by decide) rfl (fun ls hl => ?_)
  refine lv_iload_n hx hb dX12_tellsAs_56 rfl (lv_at hl 0 rfl) ?_
  refine lv_aload_n hx hb dX12_tellsAs_57 rfl (lv_at hl 1 rfl) ?_
  refine lv_aload_n hx hb dX12_tellsAs_58 rfl (lv_at hl 1 rfl) ?_
  refine sl_gM_0_49_12 (v := 5) hx hb hts hown hK hP (show f_16 0 49 = 5 from ((hk_f_16 0 49 (by decide)).trans ((hk_f_4 0 49 (by decide)).trans hf_0_49))) dX12_tellsAs_59 ?_
  refine lv_iconst (v := 1) hx hb dX12_tellsAs_62 ic_1 ?_
  have c_27 : v_22 = 6 := Int32.toInt_inj.mp (by have k9 : (6 : Int32).toInt = 6 := ti_6; omega)
  have q_28 : (f_16 0 48).toInt = 6 := (congrArg Int32.toInt (show f_16 0 48 = 6 from (Eq.trans ev_22.symm c_27))).trans (by decide)
  refine sg_calli (va_runV (As := [.int 5, .int 1]) (rest := [.int r_19]) ⟨hx, hb, hml, hown, hts⟩ (kX12_slipsAs_5_f6_f5 l D ca za h hh f_16 L Q hI 1 (Eq.trans ev_22.symm c_27) ((hk_f_16 0 49 (by decide)).trans ((hk_f_4 0 49 (by decide)).trans hf_0_49)) (by decide) (by have k0 : (5 : Int32).toInt = 5 := ti_5; have k1 : (1 : Int32).toInt = 1 := ti_1; omega) H.size) (sl_c12_slipsAs_2_0_0_44_12 hts ⟨Nat.le_of_ble_eq_true rfl, Nat.le_of_ble_eq_true rfl⟩) (sl_vM_0 hA hK hP hS hZ) rfl rfl hl.1 rfl (lv_room (Nat.le_of_ble_eq_true rfl)) dX12_tellsAs_63 ⟨Nat.le_refl _, Nat.le_refl _⟩) hA hS (fun r_33 f_30 L_31 Q_32 H locs hq hP hS => ?_)
  obtain ⟨⟨hI, hk_f_30, eL9, eQ9⟩, hq, p_34, u_35⟩ := hq
  rw [eL9, eQ9] at hP; clear eL9 eQ9
  have hF : sgK WkX12_tellsAs_3_f1_f5 f f_30 := sgK.tr hF hk_f_30 (by decide +kernel)
  obtain ⟨v_36, ev_36⟩ : ∃ z : Int32, z = f_30 0 48 := ⟨_, rfl⟩
  have q_37 : 0 ≤ v_36.toInt ∧ v_36.toInt ≤ 19 := by rw [ev_36]; exact hI 0 48
  have q_38 : (f_30 0 48).toInt = v_36.toInt := (congrArg Int32.toInt (show f_30 0 48 = v_36 from ev_36.symm))
  have k_40 : (5 : Int32).toInt = 5 := by decide
  have k_41 : (1 : Int32).toInt = 1 := by decide
  refine lv_isub hx hb dX12_tellsAs_66 ?_
  refine lv_topi (fun v_42 ev_42 => ?_)
  exact hret _ _ _ _ (v_42) f_30 L Q dX12_tellsAs_67 hP hS ⟨⟨hI, hF, rfl, rfl⟩, trivial, ⟨by omega, by omega⟩, (Eq.trans (Eq.symm (hs.trans ((spl_e u_8 (spl_e ev_9 (spl2_e u_21 (spl_e ev_22 (spl2_e u_35 (spl_e ev_36 (spl_e ev_42 rfl)))))))))) hsp)⟩

abbrev WkX12_tellsAs_5_f0_f5 : List (Nat × Nat × Option Nat) := [(0, 0, some 48), (21, 21, some 0), (21, 21, some 1), (21, 21, some 2), (21, 21, some 3), (21, 21, some 4), (21, 21, some 5), (21, 21, some 6), (21, 21, some 7)]
set_option maxHeartbeats 4000000 in
set_option maxRecDepth 100000 in
theorem kX12_tellsAs_5_f0_f5 (l : Launch) (D : va_G) (ca : Nat → ClassId) (za h : Nat → Nat) (hh : sgH 26 h) (f : sg_F) (L : sg_L) (Q : sg_Q) (hI : sgI loM hiM f) (x1 : Int32) (hf_0_48 : f 0 48 = 0) (hf_0_49 : f 0 49 = 5) (p0 : 0 ≤ (f 0 48).toInt ∧ (f 0 48).toInt ≤ 0) (sz : Nat) : Met l yX12_tellsAs gwX12_tellsAs { frames := 6, cells := 0, slots := 0, locals := 135 } (sgP D vwCl (tyX ca) 26 h (eM ca h) zcM za f L Q sz [.ref (h 0), .int 5, .int x1]) (sgQi D vwCl 26 h (eM ca h) sz (fun r f1 L1 Q1 => ((sgI loM hiM f1 ∧ sgK WkX12_tellsAs_5_f0_f5 f f1 ∧ L1 = L ∧ Q1 = Q) ∧ True ∧ (8 ≤ (f1 0 48).toInt ∧ (f1 0 48).toInt ≤ 8) ∧ (r, f1) = sX12_tellsAs_5_f0_f5 x1 f L))) 0 0 (sgA 26 h sz) := by
  refine sg_ofWi (cc := cX12_tellsAs) (maxL := 4) RX12 (by decide) rfl rfl (Nat.le_of_ble_eq_true rfl) ?_
  intro p e s m below meth cd Qz ls hx hb hml hown hts hK hZ hP hS hl hret
  have hA := sgY.self (n := 26) (h := h) (sz := s.heap.size)
  have hl : lv_has ls 4 [(0, .ref (h 0)), (1, .int 5), (2, .int x1)] := hl
  obtain ⟨H, hH⟩ : ∃ z : Heap, z = s.heap := ⟨_, rfl⟩
  obtain ⟨locs, hlo⟩ : ∃ z : List Loc, z = [] := ⟨_, rfl⟩
  have hP : va_P D vwCl (sgw 26 h (eM ca h) f L Q) H := by rw [hH]; exact hP
  have hS : va_S (sgA 26 h s.heap.size) s.heap H locs := by rw [hH, hlo]; exact hS
  suffices hgo : W p l e ({ frames := 6, cells := 0, slots := 0, locals := 135 }) s m ([.ref (h 0), .int 5, .int x1] : List Value).toArray below meth cd H locs 0 0 Qz (F0 m 0 ls []) by rw [hH, hlo] at hgo; exact hgo
  clear hH hlo
  obtain ⟨sp, hsp⟩ : ∃ z : Int32 × sg_F, z = sX12_tellsAs_5_f0_f5 x1 f L := ⟨_, rfl⟩
  have hs : sp = sX12_tellsAs_5_f0_f5 x1 f L := hsp
  have o_1 : (f 0 48).toInt = 0 := (congrArg Int32.toInt (show f 0 48 = 0 from hf_0_48)).trans (by decide)
  have hF : sgK WkX12_tellsAs_5_f0_f5 f f := sgK.rf
  refine lv_iload_n hx hb dX12_tellsAs_0 rfl (lv_at hl 1 rfl) ?_
  refine lv_iconst (v := 5) hx hb dX12_tellsAs_1 ic_5 ?_
  refine lv_icmp_ne (tgt := 20) hx hb dX12_tellsAs_2 (by decide) (fun c => absurd c (by decide)) (fun c => ?_)
  refine lv_aload_n hx hb dX12_tellsAs_5 rfl (lv_at hl 0 rfl) ?_
  refine lv_bipush (v := 60) hx hb dX12_tellsAs_6 bp_60 ?_
  have q_2 : (f 0 48).toInt = 0 := (congrArg Int32.toInt (show f 0 48 = 0 from hf_0_48)).trans (by decide)
  refine sg_callv (va_runV (As := [.int 60]) (rest := []) ⟨hx, hb, hml, hown, hts⟩ (kX12_begins_60_f0 l D ca za h hh f L Q hI hf_0_48 (by have k0 : (60 : Int32).toInt = 60 := ti_60; omega) H.size) (sl_c12_begins_0_0_0_0_12 hts ⟨Nat.le_of_ble_eq_true rfl, Nat.le_of_ble_eq_true rfl⟩) (sl_vM_0 hA hK hP hS hZ) rfl rfl hl.1 rfl (lv_room (Nat.le_of_ble_eq_true rfl)) dX12_tellsAs_8 ⟨Nat.le_refl _, Nat.le_refl _⟩) hA hS (fun f_4 L_5 Q_6 H locs hq hP hS => ?_)
  obtain ⟨⟨hI, hk_f_4, eL9, eQ9⟩, p_7, u_8⟩ := hq
  rw [eL9, eQ9] at hP; clear eL9 eQ9
  have hF : sgK WkX12_tellsAs_5_f0_f5 f f_4 := sgK.tr hF hk_f_4 (by decide +kernel)
  obtain ⟨v_9, ev_9⟩ : ∃ z : Int32, z = f_4 0 48 := ⟨_, rfl⟩
  have q_10 : 0 ≤ v_9.toInt ∧ v_9.toInt ≤ 19 := by rw [ev_9]; exact hI 0 48
  have q_11 : (f_4 0 48).toInt = v_9.toInt := (congrArg Int32.toInt (show f_4 0 48 = v_9 from ev_9.symm))
  refine lv_aload_n hx hb dX12_tellsAs_11 rfl (lv_at hl 0 rfl) ?_
  refine lv_iconst (v := 3) hx hb dX12_tellsAs_12 ic_3 ?_
  refine lv_iload_n hx hb dX12_tellsAs_13 rfl (lv_at hl 2 rfl) ?_
  have c_13 : v_9 = 1 := Int32.toInt_inj.mp (by have k9 : (1 : Int32).toInt = 1 := ti_1; omega)
  have q_14 : (f_4 0 48).toInt = 1 := (congrArg Int32.toInt (show f_4 0 48 = 1 from (Eq.trans ev_9.symm c_13))).trans (by decide)
  refine sg_calli (va_runV (As := [.int 3, .int x1]) (rest := []) ⟨hx, hb, hml, hown, hts⟩ (kX12_tellsAs_3_f1_f5 l D ca za h hh f_4 L Q hI x1 (Eq.trans ev_9.symm c_13) ((hk_f_4 0 49 (by decide)).trans hf_0_49) (by have k0 : (3 : Int32).toInt = 3 := ti_3; omega) H.size) (sl_c12_tellsAs_5_0_0_112_12 hts ⟨Nat.le_of_ble_eq_true rfl, Nat.le_of_ble_eq_true rfl⟩) (sl_vM_0 hA hK hP hS hZ) rfl rfl hl.1 rfl (lv_room (Nat.le_of_ble_eq_true rfl)) dX12_tellsAs_14 ⟨Nat.le_refl _, Nat.le_refl _⟩) hA hS (fun r_19 f_16 L_17 Q_18 H locs hq hP hS => ?_)
  obtain ⟨⟨hI, hk_f_16, eL9, eQ9⟩, hq, p_20, u_21⟩ := hq
  rw [eL9, eQ9] at hP; clear eL9 eQ9
  have hF : sgK WkX12_tellsAs_5_f0_f5 f f_16 := sgK.tr hF hk_f_16 (by decide +kernel)
  obtain ⟨v_22, ev_22⟩ : ∃ z : Int32, z = f_16 0 48 := ⟨_, rfl⟩
  have q_23 : 0 ≤ v_22.toInt ∧ v_22.toInt ≤ 19 := by rw [ev_22]; exact hI 0 48
  have q_24 : (f_16 0 48).toInt = v_22.toInt := (congrArg Int32.toInt (show f_16 0 48 = v_22 from ev_22.symm))
  have k_26 : (3 : Int32).toInt = 3 := by decide
  refine lv_iconst (v := 5) hx hb dX12_tellsAs_17 ic_5 ?_
  refine lv_ixor hx hb dX12_tellsAs_18 ?_
  refine lv_topi (fun v_27 ev_27 => ?_)
  exact hret _ _ _ _ (v_27) f_16 L Q dX12_tellsAs_19 hP hS ⟨⟨hI, hF, rfl, rfl⟩, trivial, ⟨by omega, by omega⟩, (Eq.trans (Eq.symm (hs.trans ((spl_e u_8 (spl_e ev_9 (spl2_e u_21 (spl_e ev_22 (spl_e ev_27 rfl)))))))) hsp)⟩

abbrev WkX12_begins_70_f2 : List (Nat × Nat × Option Nat) := [(0, 0, some 48), (21, 21, some 2)]
set_option maxHeartbeats 4000000 in
set_option maxRecDepth 100000 in
theorem kX12_begins_70_f2 (l : Launch) (D : va_G) (ca : Nat → ClassId) (za h : Nat → Nat) (hh : sgH 26 h) (f : sg_F) (L : sg_L) (Q : sg_Q) (hI : sgI loM hiM f) (hf_0_48 : f 0 48 = 2) (p0 : 2 ≤ (f 0 48).toInt ∧ (f 0 48).toInt ≤ 2) (sz : Nat) : Met l yX12_begins gwX12_begins { frames := 0, cells := 0, slots := 0, locals := 0 } (sgP D vwCl (tyX ca) 26 h (eM ca h) zcM za f L Q sz [.ref (h 0), .int 70]) (sgQv D vwCl 26 h (eM ca h) sz (fun f1 L1 Q1 => ((sgI loM hiM f1 ∧ sgK WkX12_begins_70_f2 f f1 ∧ L1 = L ∧ Q1 = Q) ∧ (3 ≤ (f1 0 48).toInt ∧ (f1 0 48).toInt ≤ 3) ∧ (f1) = sX12_begins_70_f2 f L))) 0 0 (sgA 26 h sz) := by
  refine sg_ofWv (cc := cX12_begins) (maxL := 2) RX12 (by decide) rfl rfl (Nat.le_of_ble_eq_true rfl) ?_
  intro p e s m below meth cd Qz ls hx hb hml hown hts hK hZ hP hS hl hret
  have hA := sgY.self (n := 26) (h := h) (sz := s.heap.size)
  have hl : lv_has ls 2 [(0, .ref (h 0)), (1, .int 70)] := hl
  obtain ⟨H, hH⟩ : ∃ z : Heap, z = s.heap := ⟨_, rfl⟩
  obtain ⟨locs, hlo⟩ : ∃ z : List Loc, z = [] := ⟨_, rfl⟩
  have hP : va_P D vwCl (sgw 26 h (eM ca h) f L Q) H := by rw [hH]; exact hP
  have hS : va_S (sgA 26 h s.heap.size) s.heap H locs := by rw [hH, hlo]; exact hS
  suffices hgo : W p l e ({ frames := 0, cells := 0, slots := 0, locals := 0 }) s m ([.ref (h 0), .int 70] : List Value).toArray below meth cd H locs 0 0 Qz (F0 m 0 ls []) by rw [hH, hlo] at hgo; exact hgo
  clear hH hlo
  obtain ⟨sp, hsp⟩ : ∃ z : sg_F, z = sX12_begins_70_f2 f L := ⟨_, rfl⟩
  have hs : sp = sX12_begins_70_f2 f L := hsp
  have o_1 : (f 0 48).toInt = 2 := (congrArg Int32.toInt (show f 0 48 = 2 from hf_0_48)).trans (by decide)
  have hF : sgK WkX12_begins_70_f2 f f := sgK.rf
  have blk_19 : ∀ (fp_19 : sg_F) (H : Heap) (locs : List Loc) (ls : Array Slot), sp = sX12_begins_70_f2_b19 fp_19 L → 2 ≤ (fp_19 0 48).toInt ∧ (fp_19 0 48).toInt ≤ 2 → sgI loM hiM fp_19 → sgK WkX12_begins_70_f2 f fp_19 → va_P D vwCl (sgw 26 h (eM ca h) fp_19 L Q) H → va_S (sgA 26 h s.heap.size) s.heap H locs → lv_has ls 2 [(0, .ref (h 0))] → W p l e ({ frames := 0, cells := 0, slots := 0, locals := 0 }) s m ([.ref (h 0), .int 70] : List Value).toArray below meth cd H locs 0 0 Qz (F0 m 19 ls []) := by
    intro fp_19 H locs ls hs hy0_19 hI hF hP hS hl
    obtain ⟨v_2, ev_2⟩ : ∃ z : Int32, z = fp_19 0 48 := ⟨_, rfl⟩
    have q_3 : 0 ≤ v_2.toInt ∧ v_2.toInt ≤ 19 := by rw [ev_2]; exact hI 0 48
    have q_4 : (fp_19 0 48).toInt = v_2.toInt := by rw [ev_2]
    refine lv_aload_n hx hb dX12_begins_19 rfl (lv_at hl 0 rfl) ?_
    refine lv_dup hx hb dX12_begins_20 rfl ?_
    refine sl_gM_0_48_12 (v := v_2) hx hb hts hown hK hP (show fp_19 0 48 = v_2 from ev_2.symm) dX12_begins_21 ?_
    refine lv_iconst (v := 1) hx hb dX12_begins_24 ic_1 ?_
    refine lv_iadd hx hb dX12_begins_25 ?_
    refine lv_topi (fun v_5 ev_5 => ?_)
    have q_6 : v_5.toInt = v_2.toInt + 1 := by rw [ev_5]; first | exact cm_add ti_1 (by omega) (by omega) | (have k1 : (1 : Int32).toInt = 1 := ti_1; exact (bn_addI (by omega) (by omega)).trans (by omega))
    refine sl_pM_0_48_12 (x := v_5) hx hb hts hown hh hA hK hP hS dX12_begins_26 (fun f_7 H locs ef_7 hP hS => ?_)
    have hI : sgI loM hiM f_7 := by rw [ef_7]; exact sgI.put hI 0 48 (show 0 ≤ (v_5 : Int32).toInt ∧ (v_5 : Int32).toInt ≤ 19 from ⟨by omega, by omega⟩)
    have hF : sgK WkX12_begins_70_f2 f f_7 := sgK.put hF ef_7 (by rfl)
    have q_8 : (f_7 0 48).toInt = v_5.toInt := (congrArg Int32.toInt (show f_7 0 48 = v_5 from (by rw [ef_7, sg_up_s, sgu_s])))
    exact hret _ _ _ _ f_7 L Q dX12_begins_29 hP hS ⟨⟨hI, hF, rfl, rfl⟩, ⟨by omega, by omega⟩, (Eq.trans (Eq.symm (hs.trans ((spl_e ev_2 (spl_e ev_5 (spl_e ef_7 rfl)))))) hsp)⟩
  refine lv_aload_n hx hb dX12_begins_0 rfl (lv_at hl 0 rfl) ?_
  refine sl_gM_0_48_12 (v := 2) hx hb hts hown hK hP (show f 0 48 = 2 from hf_0_48) dX12_begins_1 ?_
  refine lv_bipush (v := 24) hx hb dX12_begins_4 bp_24 ?_
  refine lv_icmp_ge (tgt := 19) hx hb dX12_begins_6 (by decide) (fun c => absurd c (by decide)) (fun c => ?_)
  refine lv_aload_n hx hb dX12_begins_9 rfl (lv_at hl 0 rfl) ?_
  refine sl_gM_0_47_12 hx hb hts hown hK hP dX12_begins_10 ?_
  refine lv_aload_n hx hb dX12_begins_13 rfl (lv_at hl 0 rfl) ?_
  refine sl_gM_0_48_12 (v := 2) hx hb hts hown hK hP (show f 0 48 = 2 from hf_0_48) dX12_begins_14 ?_
  refine lv_iload_n hx hb dX12_begins_17 rfl (lv_at hl 1 rfl) ?_
  refine sg_iast hx hb hh hA hK hP hS 21 (by decide) 0 (fun _ => rfl) rfl (i := 2) (x := 70) (vp_in_iff.mpr (by decide)) dX12_begins_18 (fun f_10 H locs ef_10 hP hS => ?_)
  have ef_10 : f_10 = sg_up f 21 (sgu (f 21) 2 70) := ef_10
  have hI : sgI loM hiM f_10 := by rw [ef_10]; exact sgI.put hI 21 2 (show 0 ≤ (70 : Int32).toInt ∧ (70 : Int32).toInt ≤ 81 from by decide)
  have hF : sgK WkX12_begins_70_f2 f f_10 := sgK.put hF ef_10 (by rfl)
  exact blk_19 f_10 _ _ _ (hs.trans ((spl_e ef_10 rfl))) (by have zz0_48 : (f_10 0 48).toInt = 2 := (congrArg Int32.toInt (show f_10 0 48 = 2 from (by rw [ef_10, sg_up_n (by decide)]; exact hf_0_48))).trans (by decide); exact ⟨by omega, by omega⟩) hI hF hP hS (lv_sub hl [0] rfl)

abbrev WkX12_setsAs_0_f3_f6 : List (Nat × Nat × Option Nat) := [(0, 0, some 48), (21, 21, some 3)]
set_option maxHeartbeats 4000000 in
set_option maxRecDepth 100000 in
theorem kX12_setsAs_0_f3_f6 (l : Launch) (D : va_G) (ca : Nat → ClassId) (za h : Nat → Nat) (hh : sgH 26 h) (f : sg_F) (L : sg_L) (Q : sg_Q) (hI : sgI loM hiM f) (x1 : Int32) (hf_0_48 : f 0 48 = 3) (hf_0_49 : f 0 49 = 6) (p0 : 3 ≤ (f 0 48).toInt ∧ (f 0 48).toInt ≤ 3) (sz : Nat) : Met l yX12_setsAs gwX12_setsAs { frames := 1, cells := 0, slots := 0, locals := 21 } (sgP D vwCl (tyX ca) 26 h (eM ca h) zcM za f L Q sz [.ref (h 0), .int 0, .int x1]) (sgQi D vwCl 26 h (eM ca h) sz (fun r f1 L1 Q1 => ((sgI loM hiM f1 ∧ sgK WkX12_setsAs_0_f3_f6 f f1 ∧ L1 = L ∧ Q1 = Q) ∧ True ∧ (4 ≤ (f1 0 48).toInt ∧ (f1 0 48).toInt ≤ 4) ∧ (r, f1) = sX12_setsAs_0_f3_f6 x1 f L))) 0 0 (sgA 26 h sz) := by
  refine sg_ofWi (cc := cX12_setsAs) (maxL := 3) RX12 (by decide) rfl rfl (Nat.le_of_ble_eq_true rfl) ?_
  intro p e s m below meth cd Qz ls hx hb hml hown hts hK hZ hP hS hl hret
  have hA := sgY.self (n := 26) (h := h) (sz := s.heap.size)
  have hl : lv_has ls 3 [(0, .ref (h 0)), (1, .int 0), (2, .int x1)] := hl
  obtain ⟨H, hH⟩ : ∃ z : Heap, z = s.heap := ⟨_, rfl⟩
  obtain ⟨locs, hlo⟩ : ∃ z : List Loc, z = [] := ⟨_, rfl⟩
  have hP : va_P D vwCl (sgw 26 h (eM ca h) f L Q) H := by rw [hH]; exact hP
  have hS : va_S (sgA 26 h s.heap.size) s.heap H locs := by rw [hH, hlo]; exact hS
  suffices hgo : W p l e ({ frames := 1, cells := 0, slots := 0, locals := 21 }) s m ([.ref (h 0), .int 0, .int x1] : List Value).toArray below meth cd H locs 0 0 Qz (F0 m 0 ls []) by rw [hH, hlo] at hgo; exact hgo
  clear hH hlo
  obtain ⟨sp, hsp⟩ : ∃ z : Int32 × sg_F, z = sX12_setsAs_0_f3_f6 x1 f L := ⟨_, rfl⟩
  have hs : sp = sX12_setsAs_0_f3_f6 x1 f L := hsp
  have o_1 : (f 0 48).toInt = 3 := (congrArg Int32.toInt (show f 0 48 = 3 from hf_0_48)).trans (by decide)
  have hF : sgK WkX12_setsAs_0_f3_f6 f f := sgK.rf
  refine lv_iload_n hx hb dX12_setsAs_0 rfl (lv_at hl 1 rfl) ?_
  refine lv_iconst (v := 1) hx hb dX12_setsAs_1 ic_1 ?_
  refine lv_icmp_eq (tgt := 16) hx hb dX12_setsAs_2 (by decide) (fun c => absurd c (by decide)) (fun c => ?_)
  refine lv_iload_n hx hb dX12_setsAs_5 rfl (lv_at hl 1 rfl) ?_
  refine lv_iconst (v := 4) hx hb dX12_setsAs_6 ic_4 ?_
  refine lv_icmp_eq (tgt := 16) hx hb dX12_setsAs_7 (by decide) (fun c => absurd c (by decide)) (fun c => ?_)
  refine lv_iload_n hx hb dX12_setsAs_10 rfl (lv_at hl 1 rfl) ?_
  refine lv_bipush (v := 7) hx hb dX12_setsAs_11 bp_7 ?_
  refine lv_icmp_ne (tgt := 31) hx hb dX12_setsAs_13 (by decide) (fun c => ?_) (fun c => absurd c (by decide))
  refine lv_iload_n hx hb dX12_setsAs_31 rfl (lv_at hl 1 rfl) ?_
  refine lv_bipush (v := 6) hx hb dX12_setsAs_32 bp_6 ?_
  refine lv_icmp_ne (tgt := 52) hx hb dX12_setsAs_34 (by decide) (fun c => ?_) (fun c => absurd c (by decide))
  refine lv_aload_n hx hb dX12_setsAs_52 rfl (lv_at hl 0 rfl) ?_
  refine lv_iconst (v := 1) hx hb dX12_setsAs_53 ic_1 ?_
  have q_2 : (f 0 48).toInt = 3 := (congrArg Int32.toInt (show f 0 48 = 3 from hf_0_48)).trans (by decide)
  refine sg_callv (va_runV (As := [.int 1]) (rest := []) ⟨hx, hb, hml, hown, hts⟩ (kX12_begins_1_f3 l D ca za h hh f L Q hI hf_0_48 (by have k0 : (1 : Int32).toInt = 1 := ti_1; omega) H.size) (sl_c12_begins_0_0_0_0_12 hts ⟨Nat.le_of_ble_eq_true rfl, Nat.le_of_ble_eq_true rfl⟩) (sl_vM_0 hA hK hP hS hZ) rfl rfl hl.1 rfl (lv_room (Nat.le_of_ble_eq_true rfl)) dX12_setsAs_54 ⟨Nat.le_refl _, Nat.le_refl _⟩) hA hS (fun f_4 L_5 Q_6 H locs hq hP hS => ?_)
  obtain ⟨⟨hI, hk_f_4, eL9, eQ9⟩, p_7, u_8⟩ := hq
  rw [eL9, eQ9] at hP; clear eL9 eQ9
  have hF : sgK WkX12_setsAs_0_f3_f6 f f_4 := sgK.tr hF hk_f_4 (by decide +kernel)
  obtain ⟨v_9, ev_9⟩ : ∃ z : Int32, z = f_4 0 48 := ⟨_, rfl⟩
  have q_10 : 0 ≤ v_9.toInt ∧ v_9.toInt ≤ 19 := by rw [ev_9]; exact hI 0 48
  have q_11 : (f_4 0 48).toInt = v_9.toInt := (congrArg Int32.toInt (show f_4 0 48 = v_9 from ev_9.symm))
  refine lv_iload_n hx hb dX12_setsAs_57 rfl (lv_at hl 2 rfl) ?_
  refine lv_aload_n hx hb dX12_setsAs_58 rfl (lv_at hl 0 rfl) ?_
  refine sl_gM_0_50_12 (v := (f_4 0 50)) hx hb hts hown hK hP rfl dX12_setsAs_59 ?_
  refine lv_topi (fun v_13 ev_13 => ?_)
  have q_14 : 0 ≤ v_13.toInt ∧ v_13.toInt ≤ 49 := by rw [ev_13]; exact hI 0 50
  refine lv_iadd hx hb dX12_setsAs_62 ?_
  refine lv_topi (fun v_15 ev_15 => ?_)
  exact hret _ _ _ _ (v_15) f_4 L Q dX12_setsAs_63 hP hS ⟨⟨hI, hF, rfl, rfl⟩, trivial, ⟨by omega, by omega⟩, (Eq.trans (Eq.symm (hs.trans ((spl_e u_8 (spl_e ev_9 (spl_e ev_13 (spl_e ev_15 rfl))))))) hsp)⟩

abbrev WkX12_setsAs_6_f2_f6 : List (Nat × Nat × Option Nat) := [(0, 0, some 48), (21, 21, some 2), (21, 21, some 3)]
set_option maxHeartbeats 4000000 in
set_option maxRecDepth 100000 in
theorem kX12_setsAs_6_f2_f6 (l : Launch) (D : va_G) (ca : Nat → ClassId) (za h : Nat → Nat) (hh : sgH 26 h) (f : sg_F) (L : sg_L) (Q : sg_Q) (hI : sgI loM hiM f) (x1 : Int32) (hf_0_48 : f 0 48 = 2) (hf_0_49 : f 0 49 = 6) (p0 : 2 ≤ (f 0 48).toInt ∧ (f 0 48).toInt ≤ 2) (sz : Nat) : Met l yX12_setsAs gwX12_setsAs { frames := 2, cells := 0, slots := 0, locals := 43 } (sgP D vwCl (tyX ca) 26 h (eM ca h) zcM za f L Q sz [.ref (h 0), .int 6, .int x1]) (sgQi D vwCl 26 h (eM ca h) sz (fun r f1 L1 Q1 => ((sgI loM hiM f1 ∧ sgK WkX12_setsAs_6_f2_f6 f f1 ∧ L1 = L ∧ Q1 = Q) ∧ True ∧ (4 ≤ (f1 0 48).toInt ∧ (f1 0 48).toInt ≤ 4) ∧ (r, f1) = sX12_setsAs_6_f2_f6 x1 f L))) 0 0 (sgA 26 h sz) := by
  refine sg_ofWi (cc := cX12_setsAs) (maxL := 3) RX12 (by decide) rfl rfl (Nat.le_of_ble_eq_true rfl) ?_
  intro p e s m below meth cd Qz ls hx hb hml hown hts hK hZ hP hS hl hret
  have hA := sgY.self (n := 26) (h := h) (sz := s.heap.size)
  have hl : lv_has ls 3 [(0, .ref (h 0)), (1, .int 6), (2, .int x1)] := hl
  obtain ⟨H, hH⟩ : ∃ z : Heap, z = s.heap := ⟨_, rfl⟩
  obtain ⟨locs, hlo⟩ : ∃ z : List Loc, z = [] := ⟨_, rfl⟩
  have hP : va_P D vwCl (sgw 26 h (eM ca h) f L Q) H := by rw [hH]; exact hP
  have hS : va_S (sgA 26 h s.heap.size) s.heap H locs := by rw [hH, hlo]; exact hS
  suffices hgo : W p l e ({ frames := 2, cells := 0, slots := 0, locals := 43 }) s m ([.ref (h 0), .int 6, .int x1] : List Value).toArray below meth cd H locs 0 0 Qz (F0 m 0 ls []) by rw [hH, hlo] at hgo; exact hgo
  clear hH hlo
  obtain ⟨sp, hsp⟩ : ∃ z : Int32 × sg_F, z = sX12_setsAs_6_f2_f6 x1 f L := ⟨_, rfl⟩
  have hs : sp = sX12_setsAs_6_f2_f6 x1 f L := hsp
  have o_1 : (f 0 48).toInt = 2 := (congrArg Int32.toInt (show f 0 48 = 2 from hf_0_48)).trans (by decide)
  have hF : sgK WkX12_setsAs_6_f2_f6 f f := sgK.rf
  refine lv_iload_n hx hb dX12_setsAs_0 rfl (lv_at hl 1 rfl) ?_
  refine lv_iconst (v := 1) hx hb dX12_setsAs_1 ic_1 ?_
  refine lv_icmp_eq (tgt := 16) hx hb dX12_setsAs_2 (by decide) (fun c => absurd c (by decide)) (fun c => ?_)
  refine lv_iload_n hx hb dX12_setsAs_5 rfl (lv_at hl 1 rfl) ?_
  refine lv_iconst (v := 4) hx hb dX12_setsAs_6 ic_4 ?_
  refine lv_icmp_eq (tgt := 16) hx hb dX12_setsAs_7 (by decide) (fun c => absurd c (by decide)) (fun c => ?_)
  refine lv_iload_n hx hb dX12_setsAs_10 rfl (lv_at hl 1 rfl) ?_
  refine lv_bipush (v := 7) hx hb dX12_setsAs_11 bp_7 ?_
  refine lv_icmp_ne (tgt := 31) hx hb dX12_setsAs_13 (by decide) (fun c => ?_) (fun c => absurd c (by decide))
  refine lv_iload_n hx hb dX12_setsAs_31 rfl (lv_at hl 1 rfl) ?_
  refine lv_bipush (v := 6) hx hb dX12_setsAs_32 bp_6 ?_
  refine lv_icmp_ne (tgt := 52) hx hb dX12_setsAs_34 (by decide) (fun c => absurd c (by decide)) (fun c => ?_)
  refine lv_aload_n hx hb dX12_setsAs_37 rfl (lv_at hl 0 rfl) ?_
  refine lv_bipush (v := 70) hx hb dX12_setsAs_38 bp_70 ?_
  have q_2 : (f 0 48).toInt = 2 := (congrArg Int32.toInt (show f 0 48 = 2 from hf_0_48)).trans (by decide)
  refine sg_callv (va_runV (As := [.int 70]) (rest := []) ⟨hx, hb, hml, hown, hts⟩ (kX12_begins_70_f2 l D ca za h hh f L Q hI hf_0_48 (by have k0 : (70 : Int32).toInt = 70 := ti_70; omega) H.size) (sl_c12_begins_0_0_0_0_12 hts ⟨Nat.le_of_ble_eq_true rfl, Nat.le_of_ble_eq_true rfl⟩) (sl_vM_0 hA hK hP hS hZ) rfl rfl hl.1 rfl (lv_room (Nat.le_of_ble_eq_true rfl)) dX12_setsAs_40 ⟨Nat.le_refl _, Nat.le_refl _⟩) hA hS (fun f_4 L_5 Q_6 H locs hq hP hS => ?_)
  obtain ⟨⟨hI, hk_f_4, eL9, eQ9⟩, p_7, u_8⟩ := hq
  rw [eL9, eQ9] at hP; clear eL9 eQ9
  have hF : sgK WkX12_setsAs_6_f2_f6 f f_4 := sgK.tr hF hk_f_4 (by decide +kernel)
  obtain ⟨v_9, ev_9⟩ : ∃ z : Int32, z = f_4 0 48 := ⟨_, rfl⟩
  have q_10 : 0 ≤ v_9.toInt ∧ v_9.toInt ≤ 19 := by rw [ev_9]; exact hI 0 48
  have q_11 : (f_4 0 48).toInt = v_9.toInt := (congrArg Int32.toInt (show f_4 0 48 = v_9 from ev_9.symm))
  refine lv_aload_n hx hb dX12_setsAs_43 rfl (lv_at hl 0 rfl) ?_
  refine lv_iconst (v := 0) hx hb dX12_setsAs_44 ic_0 ?_
  refine lv_iload_n hx hb dX12_setsAs_45 rfl (lv_at hl 2 rfl) ?_
  have c_13 : v_9 = 3 := Int32.toInt_inj.mp (by have k9 : (3 : Int32).toInt = 3 := ti_3; omega)
  have q_14 : (f_4 0 48).toInt = 3 := (congrArg Int32.toInt (show f_4 0 48 = 3 from (Eq.trans ev_9.symm c_13))).trans (by decide)
  refine sg_calli (va_runV (As := [.int 0, .int x1]) (rest := []) ⟨hx, hb, hml, hown, hts⟩ (kX12_setsAs_0_f3_f6 l D ca za h hh f_4 L Q hI x1 (Eq.trans ev_9.symm c_13) ((hk_f_4 0 49 (by decide)).trans hf_0_49) (by have k0 : (0 : Int32).toInt = 0 := ti_0; omega) H.size) (sl_c12_setsAs_1_0_0_21_12 hts ⟨Nat.le_of_ble_eq_true rfl, Nat.le_of_ble_eq_true rfl⟩) (sl_vM_0 hA hK hP hS hZ) rfl rfl hl.1 rfl (lv_room (Nat.le_of_ble_eq_true rfl)) dX12_setsAs_46 ⟨Nat.le_refl _, Nat.le_refl _⟩) hA hS (fun r_19 f_16 L_17 Q_18 H locs hq hP hS => ?_)
  obtain ⟨⟨hI, hk_f_16, eL9, eQ9⟩, hq, p_20, u_21⟩ := hq
  rw [eL9, eQ9] at hP; clear eL9 eQ9
  have hF : sgK WkX12_setsAs_6_f2_f6 f f_16 := sgK.tr hF hk_f_16 (by decide +kernel)
  obtain ⟨v_22, ev_22⟩ : ∃ z : Int32, z = f_16 0 48 := ⟨_, rfl⟩
  have q_23 : 0 ≤ v_22.toInt ∧ v_22.toInt ≤ 19 := by rw [ev_22]; exact hI 0 48
  have q_24 : (f_16 0 48).toInt = v_22.toInt := (congrArg Int32.toInt (show f_16 0 48 = v_22 from ev_22.symm))
  have k_26 : (0 : Int32).toInt = 0 := by decide
  refine lv_iconst (v := 2) hx hb dX12_setsAs_49 ic_2 ?_
  refine lv_imul hx hb dX12_setsAs_50 ?_
  refine lv_topi (fun v_27 ev_27 => ?_)
  exact hret _ _ _ _ (v_27) f_16 L Q dX12_setsAs_51 hP hS ⟨⟨hI, hF, rfl, rfl⟩, trivial, ⟨by omega, by omega⟩, (Eq.trans (Eq.symm (hs.trans ((spl_e u_8 (spl_e ev_9 (spl2_e u_21 (spl_e ev_22 (spl_e ev_27 rfl)))))))) hsp)⟩

abbrev WkX12_sitsAs_6_f1_f6 : List (Nat × Nat × Option Nat) := [(0, 0, some 48), (21, 21, some 1), (21, 21, some 2), (21, 21, some 3)]
set_option maxHeartbeats 4000000 in
set_option maxRecDepth 100000 in
theorem kX12_sitsAs_6_f1_f6 (l : Launch) (D : va_G) (ca : Nat → ClassId) (za h : Nat → Nat) (hh : sgH 26 h) (f : sg_F) (L : sg_L) (Q : sg_Q) (hI : sgI loM hiM f) (x1 : Int32) (hf_0_48 : f 0 48 = 1) (hf_0_49 : f 0 49 = 6) (p0 : 1 ≤ (f 0 48).toInt ∧ (f 0 48).toInt ≤ 1) (sz : Nat) : Met l yX12_sitsAs gwX12_sitsAs { frames := 3, cells := 0, slots := 0, locals := 65 } (sgP D vwCl (tyX ca) 26 h (eM ca h) zcM za f L Q sz [.ref (h 0), .int 6, .int x1]) (sgQi D vwCl 26 h (eM ca h) sz (fun r f1 L1 Q1 => ((sgI loM hiM f1 ∧ sgK WkX12_sitsAs_6_f1_f6 f f1 ∧ L1 = L ∧ Q1 = Q) ∧ True ∧ (4 ≤ (f1 0 48).toInt ∧ (f1 0 48).toInt ≤ 4) ∧ (r, f1) = sX12_sitsAs_6_f1_f6 x1 f L))) 0 0 (sgA 26 h sz) := by
  refine sg_ofWi (cc := cX12_sitsAs) (maxL := 4) RX12 (by decide) rfl rfl (Nat.le_of_ble_eq_true rfl) ?_
  intro p e s m below meth cd Qz ls hx hb hml hown hts hK hZ hP hS hl hret
  have hA := sgY.self (n := 26) (h := h) (sz := s.heap.size)
  have hl : lv_has ls 4 [(0, .ref (h 0)), (1, .int 6), (2, .int x1)] := hl
  obtain ⟨H, hH⟩ : ∃ z : Heap, z = s.heap := ⟨_, rfl⟩
  obtain ⟨locs, hlo⟩ : ∃ z : List Loc, z = [] := ⟨_, rfl⟩
  have hP : va_P D vwCl (sgw 26 h (eM ca h) f L Q) H := by rw [hH]; exact hP
  have hS : va_S (sgA 26 h s.heap.size) s.heap H locs := by rw [hH, hlo]; exact hS
  suffices hgo : W p l e ({ frames := 3, cells := 0, slots := 0, locals := 65 }) s m ([.ref (h 0), .int 6, .int x1] : List Value).toArray below meth cd H locs 0 0 Qz (F0 m 0 ls []) by rw [hH, hlo] at hgo; exact hgo
  clear hH hlo
  obtain ⟨sp, hsp⟩ : ∃ z : Int32 × sg_F, z = sX12_sitsAs_6_f1_f6 x1 f L := ⟨_, rfl⟩
  have hs : sp = sX12_sitsAs_6_f1_f6 x1 f L := hsp
  have o_1 : (f 0 48).toInt = 1 := (congrArg Int32.toInt (show f 0 48 = 1 from hf_0_48)).trans (by decide)
  have hF : sgK WkX12_sitsAs_6_f1_f6 f f := sgK.rf
  refine lv_iload_n hx hb dX12_sitsAs_0 rfl (lv_at hl 1 rfl) ?_
  refine lv_iconst (v := 3) hx hb dX12_sitsAs_1 ic_3 ?_
  refine lv_icmp_eq (tgt := 10) hx hb dX12_sitsAs_2 (by decide) (fun c => absurd c (by decide)) (fun c => ?_)
  refine lv_iload_n hx hb dX12_sitsAs_5 rfl (lv_at hl 1 rfl) ?_
  refine lv_iconst (v := 5) hx hb dX12_sitsAs_6 ic_5 ?_
  refine lv_icmp_ne (tgt := 25) hx hb dX12_sitsAs_7 (by decide) (fun c => ?_) (fun c => absurd c (by decide))
  refine lv_iload_n hx hb dX12_sitsAs_25 rfl (lv_at hl 1 rfl) ?_
  refine lv_iconst (v := 2) hx hb dX12_sitsAs_26 ic_2 ?_
  refine lv_icmp_ne (tgt := 44) hx hb dX12_sitsAs_27 (by decide) (fun c => ?_) (fun c => absurd c (by decide))
  refine lv_iload_n hx hb dX12_sitsAs_44 rfl (lv_at hl 1 rfl) ?_
  refine lv_bipush (v := 7) hx hb dX12_sitsAs_45 bp_7 ?_
  refine lv_icmp_ne (tgt := 75) hx hb dX12_sitsAs_47 (by decide) (fun c => ?_) (fun c => absurd c (by decide))
  refine lv_aload_n hx hb dX12_sitsAs_75 rfl (lv_at hl 0 rfl) ?_
  refine lv_bipush (v := 10) hx hb dX12_sitsAs_76 bp_10 ?_
  have q_2 : (f 0 48).toInt = 1 := (congrArg Int32.toInt (show f 0 48 = 1 from hf_0_48)).trans (by decide)
  refine sg_callv (va_runV (As := [.int 10]) (rest := []) ⟨hx, hb, hml, hown, hts⟩ (kX12_begins_10_f1 l D ca za h hh f L Q hI hf_0_48 (by have k0 : (10 : Int32).toInt = 10 := ti_10; omega) H.size) (sl_c12_begins_0_0_0_0_12 hts ⟨Nat.le_of_ble_eq_true rfl, Nat.le_of_ble_eq_true rfl⟩) (sl_vM_0 hA hK hP hS hZ) rfl rfl hl.1 rfl (lv_room (Nat.le_of_ble_eq_true rfl)) dX12_sitsAs_78 ⟨Nat.le_refl _, Nat.le_refl _⟩) hA hS (fun f_4 L_5 Q_6 H locs hq hP hS => ?_)
  obtain ⟨⟨hI, hk_f_4, eL9, eQ9⟩, p_7, u_8⟩ := hq
  rw [eL9, eQ9] at hP; clear eL9 eQ9
  have hF : sgK WkX12_sitsAs_6_f1_f6 f f_4 := sgK.tr hF hk_f_4 (by decide +kernel)
  obtain ⟨v_9, ev_9⟩ : ∃ z : Int32, z = f_4 0 48 := ⟨_, rfl⟩
  have q_10 : 0 ≤ v_9.toInt ∧ v_9.toInt ≤ 19 := by rw [ev_9]; exact hI 0 48
  have q_11 : (f_4 0 48).toInt = v_9.toInt := (congrArg Int32.toInt (show f_4 0 48 = v_9 from ev_9.symm))
  refine lv_aload_n hx hb dX12_sitsAs_81 rfl (lv_at hl 0 rfl) ?_
  refine lv_aload_n hx hb dX12_sitsAs_82 rfl (lv_at hl 0 rfl) ?_
  refine sl_gM_0_49_12 (v := 6) hx hb hts hown hK hP (show f_4 0 49 = 6 from ((hk_f_4 0 49 (by decide)).trans hf_0_49)) dX12_sitsAs_83 ?_
  refine lv_iload_n hx hb dX12_sitsAs_86 rfl (lv_at hl 2 rfl) ?_
  have c_13 : v_9 = 2 := Int32.toInt_inj.mp (by have k9 : (2 : Int32).toInt = 2 := ti_2; omega)
  have q_14 : (f_4 0 48).toInt = 2 := (congrArg Int32.toInt (show f_4 0 48 = 2 from (Eq.trans ev_9.symm c_13))).trans (by decide)
  refine sg_calli (va_runV (As := [.int 6, .int x1]) (rest := []) ⟨hx, hb, hml, hown, hts⟩ (kX12_setsAs_6_f2_f6 l D ca za h hh f_4 L Q hI x1 (Eq.trans ev_9.symm c_13) ((hk_f_4 0 49 (by decide)).trans hf_0_49) (by have k0 : (6 : Int32).toInt = 6 := ti_6; omega) H.size) (sl_c12_setsAs_2_0_0_43_12 hts ⟨Nat.le_of_ble_eq_true rfl, Nat.le_of_ble_eq_true rfl⟩) (sl_vM_0 hA hK hP hS hZ) rfl rfl hl.1 rfl (lv_room (Nat.le_of_ble_eq_true rfl)) dX12_sitsAs_87 ⟨Nat.le_refl _, Nat.le_refl _⟩) hA hS (fun r_19 f_16 L_17 Q_18 H locs hq hP hS => ?_)
  obtain ⟨⟨hI, hk_f_16, eL9, eQ9⟩, hq, p_20, u_21⟩ := hq
  rw [eL9, eQ9] at hP; clear eL9 eQ9
  have hF : sgK WkX12_sitsAs_6_f1_f6 f f_16 := sgK.tr hF hk_f_16 (by decide +kernel)
  obtain ⟨v_22, ev_22⟩ : ∃ z : Int32, z = f_16 0 48 := ⟨_, rfl⟩
  have q_23 : 0 ≤ v_22.toInt ∧ v_22.toInt ≤ 19 := by rw [ev_22]; exact hI 0 48
  have q_24 : (f_16 0 48).toInt = v_22.toInt := (congrArg Int32.toInt (show f_16 0 48 = v_22 from ev_22.symm))
  have k_26 : (6 : Int32).toInt = 6 := by decide
  refine lv_iconst (v := 2) hx hb dX12_sitsAs_90 ic_2 ?_
  refine lv_imul hx hb dX12_sitsAs_91 ?_
  refine lv_topi (fun v_27 ev_27 => ?_)
  exact hret _ _ _ _ (v_27) f_16 L Q dX12_sitsAs_92 hP hS ⟨⟨hI, hF, rfl, rfl⟩, trivial, ⟨by omega, by omega⟩, (Eq.trans (Eq.symm (hs.trans ((spl_e u_8 (spl_e ev_9 (spl2_e u_21 (spl_e ev_22 (spl_e ev_27 rfl)))))))) hsp)⟩

abbrev WkX12_slipsAs_6_f4_f6 : List (Nat × Nat × Option Nat) := [(0, 0, some 48), (21, 21, some 4)]
set_option maxHeartbeats 4000000 in
set_option maxRecDepth 100000 in
theorem kX12_slipsAs_6_f4_f6 (l : Launch) (D : va_G) (ca : Nat → ClassId) (za h : Nat → Nat) (hh : sgH 26 h) (f : sg_F) (L : sg_L) (Q : sg_Q) (hI : sgI loM hiM f) (x1 : Int32) (hf_0_48 : f 0 48 = 4) (hf_0_49 : f 0 49 = 6) (b1 : 1 ≤ x1.toInt ∧ x1.toInt ≤ 1) (p0 : 4 ≤ (f 0 48).toInt ∧ (f 0 48).toInt ≤ 4) (sz : Nat) : Met l yX12_slipsAs gwX12_slipsAs { frames := 1, cells := 0, slots := 0, locals := 21 } (sgP D vwCl (tyX ca) 26 h (eM ca h) zcM za f L Q sz [.ref (h 0), .int 6, .int x1]) (sgQi D vwCl 26 h (eM ca h) sz (fun r f1 L1 Q1 => ((sgI loM hiM f1 ∧ sgK WkX12_slipsAs_6_f4_f6 f f1 ∧ L1 = L ∧ Q1 = Q) ∧ True ∧ (5 ≤ (f1 0 48).toInt ∧ (f1 0 48).toInt ≤ 5) ∧ (r, f1) = sX12_slipsAs_6_f4_f6 x1 f L))) 0 0 (sgA 26 h sz) := by
  refine sg_ofWi (cc := cX12_slipsAs) (maxL := 4) RX12 (by decide) rfl rfl (Nat.le_of_ble_eq_true rfl) ?_
  intro p e s m below meth cd Qz ls hx hb hml hown hts hK hZ hP hS hl hret
  have hA := sgY.self (n := 26) (h := h) (sz := s.heap.size)
  have hl : lv_has ls 4 [(0, .ref (h 0)), (1, .int 6), (2, .int x1)] := hl
  obtain ⟨H, hH⟩ : ∃ z : Heap, z = s.heap := ⟨_, rfl⟩
  obtain ⟨locs, hlo⟩ : ∃ z : List Loc, z = [] := ⟨_, rfl⟩
  have hP : va_P D vwCl (sgw 26 h (eM ca h) f L Q) H := by rw [hH]; exact hP
  have hS : va_S (sgA 26 h s.heap.size) s.heap H locs := by rw [hH, hlo]; exact hS
  suffices hgo : W p l e ({ frames := 1, cells := 0, slots := 0, locals := 21 }) s m ([.ref (h 0), .int 6, .int x1] : List Value).toArray below meth cd H locs 0 0 Qz (F0 m 0 ls []) by rw [hH, hlo] at hgo; exact hgo
  clear hH hlo
  obtain ⟨sp, hsp⟩ : ∃ z : Int32 × sg_F, z = sX12_slipsAs_6_f4_f6 x1 f L := ⟨_, rfl⟩
  have hs : sp = sX12_slipsAs_6_f4_f6 x1 f L := hsp
  have o_1 : (f 0 48).toInt = 4 := (congrArg Int32.toInt (show f 0 48 = 4 from hf_0_48)).trans (by decide)
  have hF : sgK WkX12_slipsAs_6_f4_f6 f f := sgK.rf
  refine lv_iload_n hx hb dX12_slipsAs_0 rfl (lv_at hl 1 rfl) ?_
  refine lv_iconst (v := 3) hx hb dX12_slipsAs_1 ic_3 ?_
  refine lv_icmp_eq (tgt := 10) hx hb dX12_slipsAs_2 (by decide) (fun c => absurd c (by decide)) (fun c => ?_)
  refine lv_iload_n hx hb dX12_slipsAs_5 rfl (lv_at hl 1 rfl) ?_
  refine lv_iconst (v := 5) hx hb dX12_slipsAs_6 ic_5 ?_
  refine lv_icmp_ne (tgt := 25) hx hb dX12_slipsAs_7 (by decide) (fun c => ?_) (fun c => absurd c (by decide))
  refine lv_iload_n hx hb dX12_slipsAs_25 rfl (lv_at hl 1 rfl) ?_
  refine lv_iconst (v := 4) hx hb dX12_slipsAs_26 ic_4 ?_
  refine lv_icmp_eq (tgt := 36) hx hb dX12_slipsAs_27 (by decide) (fun c => absurd c (by decide)) (fun c => ?_)
  refine lv_iload_n hx hb dX12_slipsAs_30 rfl (lv_at hl 1 rfl) ?_
  refine lv_bipush (v := 7) hx hb dX12_slipsAs_31 bp_7 ?_
  refine lv_icmp_ne (tgt := 61) hx hb dX12_slipsAs_33 (by decide) (fun c => ?_) (fun c => absurd c (by decide))
  refine lv_aload_n hx hb dX12_slipsAs_61 rfl (lv_at hl 0 rfl) ?_
  refine lv_bipush (v := 11) hx hb dX12_slipsAs_62 bp_11 ?_
  have q_2 : (f 0 48).toInt = 4 := (congrArg Int32.toInt (show f 0 48 = 4 from hf_0_48)).trans (by decide)
  refine sg_callv (va_runV (As := [.int 11]) (rest := []) ⟨hx, hb, hml, hown, hts⟩ (kX12_begins_11_f4 l D ca za h hh f L Q hI hf_0_48 (by have k0 : (11 : Int32).toInt = 11 := ti_11; omega) H.size) (sl_c12_begins_0_0_0_0_12 hts ⟨Nat.le_of_ble_eq_true rfl, Nat.le_of_ble_eq_true rfl⟩) (sl_vM_0 hA hK hP hS hZ) rfl rfl hl.1 rfl (lv_room (Nat.le_of_ble_eq_true rfl)) dX12_slipsAs_64 ⟨Nat.le_refl _, Nat.le_refl _⟩) hA hS (fun f_4 L_5 Q_6 H locs hq hP hS => ?_)
  obtain ⟨⟨hI, hk_f_4, eL9, eQ9⟩, p_7, u_8⟩ := hq
  rw [eL9, eQ9] at hP; clear eL9 eQ9
  have hF : sgK WkX12_slipsAs_6_f4_f6 f f_4 := sgK.tr hF hk_f_4 (by decide +kernel)
  obtain ⟨v_9, ev_9⟩ : ∃ z : Int32, z = f_4 0 48 := ⟨_, rfl⟩
  have q_10 : 0 ≤ v_9.toInt ∧ v_9.toInt ≤ 19 := by rw [ev_9]; exact hI 0 48
  have q_11 : (f_4 0 48).toInt = v_9.toInt := (congrArg Int32.toInt (show f_4 0 48 = v_9 from ev_9.symm))
  refine lv_iload_n hx hb dX12_slipsAs_67 rfl (lv_at hl 2 rfl) ?_
  refine lv_aload_n hx hb dX12_slipsAs_68 rfl (lv_at hl 0 rfl) ?_
  refine sl_gM_0_50_12 (v := (f_4 0 50)) hx hb hts hown hK hP rfl dX12_slipsAs_69 ?_
  refine lv_topi (fun v_13 ev_13 => ?_)
  have q_14 : 0 ≤ v_13.toInt ∧ v_13.toInt ≤ 49 := by rw [ev_13]; exact hI 0 50
  refine lv_ixor hx hb dX12_slipsAs_72 ?_
  refine lv_topi (fun v_15 ev_15 => ?_)
  exact hret _ _ _ _ (v_15) f_4 L Q dX12_slipsAs_73 hP hS ⟨⟨hI, hF, rfl, rfl⟩, trivial, ⟨by omega, by omega⟩, (Eq.trans (Eq.symm (hs.trans ((spl_e u_8 (spl_e ev_9 (spl_e ev_13 (spl_e ev_15 rfl))))))) hsp)⟩

abbrev WkX12_tellsAs_6_f0_f6 : List (Nat × Nat × Option Nat) := [(0, 0, some 48), (21, 21, some 0), (21, 21, some 1), (21, 21, some 2), (21, 21, some 3), (21, 21, some 4)]
set_option maxHeartbeats 4000000 in
set_option maxRecDepth 100000 in
theorem kX12_tellsAs_6_f0_f6 (l : Launch) (D : va_G) (ca : Nat → ClassId) (za h : Nat → Nat) (hh : sgH 26 h) (f : sg_F) (L : sg_L) (Q : sg_Q) (hI : sgI loM hiM f) (x1 : Int32) (hf_0_48 : f 0 48 = 0) (hf_0_49 : f 0 49 = 6) (p0 : 0 ≤ (f 0 48).toInt ∧ (f 0 48).toInt ≤ 0) (sz : Nat) : Met l yX12_tellsAs gwX12_tellsAs { frames := 4, cells := 0, slots := 0, locals := 88 } (sgP D vwCl (tyX ca) 26 h (eM ca h) zcM za f L Q sz [.ref (h 0), .int 6, .int x1]) (sgQi D vwCl 26 h (eM ca h) sz (fun r f1 L1 Q1 => ((sgI loM hiM f1 ∧ sgK WkX12_tellsAs_6_f0_f6 f f1 ∧ L1 = L ∧ Q1 = Q) ∧ True ∧ (5 ≤ (f1 0 48).toInt ∧ (f1 0 48).toInt ≤ 5) ∧ (r, f1) = sX12_tellsAs_6_f0_f6 x1 f L))) 0 0 (sgA 26 h sz) := by
  refine sg_ofWi (cc := cX12_tellsAs) (maxL := 4) RX12 (by decide) rfl rfl (Nat.le_of_ble_eq_true rfl) ?_
  intro p e s m below meth cd Qz ls hx hb hml hown hts hK hZ hP hS hl hret
  have hA := sgY.self (n := 26) (h := h) (sz := s.heap.size)
  have hl : lv_has ls 4 [(0, .ref (h 0)), (1, .int 6), (2, .int x1)] := hl
  obtain ⟨H, hH⟩ : ∃ z : Heap, z = s.heap := ⟨_, rfl⟩
  obtain ⟨locs, hlo⟩ : ∃ z : List Loc, z = [] := ⟨_, rfl⟩
  have hP : va_P D vwCl (sgw 26 h (eM ca h) f L Q) H := by rw [hH]; exact hP
  have hS : va_S (sgA 26 h s.heap.size) s.heap H locs := by rw [hH, hlo]; exact hS
  suffices hgo : W p l e ({ frames := 4, cells := 0, slots := 0, locals := 88 }) s m ([.ref (h 0), .int 6, .int x1] : List Value).toArray below meth cd H locs 0 0 Qz (F0 m 0 ls []) by rw [hH, hlo] at hgo; exact hgo
  clear hH hlo
  obtain ⟨sp, hsp⟩ : ∃ z : Int32 × sg_F, z = sX12_tellsAs_6_f0_f6 x1 f L := ⟨_, rfl⟩
  have hs : sp = sX12_tellsAs_6_f0_f6 x1 f L := hsp
  have o_1 : (f 0 48).toInt = 0 := (congrArg Int32.toInt (show f 0 48 = 0 from hf_0_48)).trans (by decide)
  have hF : sgK WkX12_tellsAs_6_f0_f6 f f := sgK.rf
  refine lv_iload_n hx hb dX12_tellsAs_0 rfl (lv_at hl 1 rfl) ?_
  refine lv_iconst (v := 5) hx hb dX12_tellsAs_1 ic_5 ?_
  refine lv_icmp_ne (tgt := 20) hx hb dX12_tellsAs_2 (by decide) (fun c => ?_) (fun c => absurd c (by decide))
  refine lv_iload_n hx hb dX12_tellsAs_20 rfl (lv_at hl 1 rfl) ?_
  refine lv_bipush (v := 7) hx hb dX12_tellsAs_21 bp_7 ?_
  refine lv_icmp_ne (tgt := 41) hx hb dX12_tellsAs_23 (by decide) (fun c => ?_) (fun c => absurd c (by decide))
  refine lv_aload_n hx hb dX12_tellsAs_41 rfl (lv_at hl 0 rfl) ?_
  refine lv_iconst (v := 2) hx hb dX12_tellsAs_42 ic_2 ?_
  have q_2 : (f 0 48).toInt = 0 := (congrArg Int32.toInt (show f 0 48 = 0 from hf_0_48)).trans (by decide)
  refine sg_callv (va_runV (As := [.int 2]) (rest := []) ⟨hx, hb, hml, hown, hts⟩ (kX12_begins_2_f0 l D ca za h hh f L Q hI hf_0_48 (by have k0 : (2 : Int32).toInt = 2 := ti_2; omega) H.size) (sl_c12_begins_0_0_0_0_12 hts ⟨Nat.le_of_ble_eq_true rfl, Nat.le_of_ble_eq_true rfl⟩) (sl_vM_0 hA hK hP hS hZ) rfl rfl hl.1 rfl (lv_room (Nat.le_of_ble_eq_true rfl)) dX12_tellsAs_43 ⟨Nat.le_refl _, Nat.le_refl _⟩) hA hS (fun f_4 L_5 Q_6 H locs hq hP hS => ?_)
  obtain ⟨⟨hI, hk_f_4, eL9, eQ9⟩, p_7, u_8⟩ := hq
  rw [eL9, eQ9] at hP; clear eL9 eQ9
  have hF : sgK WkX12_tellsAs_6_f0_f6 f f_4 := sgK.tr hF hk_f_4 (by decide +kernel)
  obtain ⟨v_9, ev_9⟩ : ∃ z : Int32, z = f_4 0 48 := ⟨_, rfl⟩
  have q_10 : 0 ≤ v_9.toInt ∧ v_9.toInt ≤ 19 := by rw [ev_9]; exact hI 0 48
  have q_11 : (f_4 0 48).toInt = v_9.toInt := (congrArg Int32.toInt (show f_4 0 48 = v_9 from ev_9.symm))
  refine lv_aload_n hx hb dX12_tellsAs_46 rfl (lv_at hl 0 rfl) ?_
  refine lv_aload_n hx hb dX12_tellsAs_47 rfl (lv_at hl 0 rfl) ?_
  refine sl_gM_0_49_12 (v := 6) hx hb hts hown hK hP (show f_4 0 49 = 6 from ((hk_f_4 0 49 (by decide)).trans hf_0_49)) dX12_tellsAs_48 ?_
  refine lv_iload_n hx hb dX12_tellsAs_51 rfl (lv_at hl 2 rfl) ?_
  have c_13 : v_9 = 1 := Int32.toInt_inj.mp (by have k9 : (1 : Int32).toInt = 1 := ti_1; omega)
  have q_14 : (f_4 0 48).toInt = 1 := (congrArg Int32.toInt (show f_4 0 48 = 1 from (Eq.trans ev_9.symm c_13))).trans (by decide)
  refine sg_calli (va_runV (As := [.int 6, .int x1]) (rest := []) ⟨hx, hb, hml, hown, hts⟩ (kX12_sitsAs_6_f1_f6 l D ca za h hh f_4 L Q hI x1 (Eq.trans ev_9.symm c_13) ((hk_f_4 0 49 (by decide)).trans hf_0_49) (by have k0 : (6 : Int32).toInt = 6 := ti_6; omega) H.size) (sl_c12_sitsAs_3_0_0_65_12 hts ⟨Nat.le_of_ble_eq_true rfl, Nat.le_of_ble_eq_true rfl⟩) (sl_vM_0 hA hK hP hS hZ) rfl rfl hl.1 rfl (lv_room (Nat.le_of_ble_eq_true rfl)) dX12_tellsAs_52 ⟨Nat.le_refl _, Nat.le_refl _⟩) hA hS (fun r_19 f_16 L_17 Q_18 H locs hq hP hS => ?_)
  obtain ⟨⟨hI, hk_f_16, eL9, eQ9⟩, hq, p_20, u_21⟩ := hq
  rw [eL9, eQ9] at hP; clear eL9 eQ9
  have hF : sgK WkX12_tellsAs_6_f0_f6 f f_16 := sgK.tr hF hk_f_16 (by decide +kernel)
  obtain ⟨v_22, ev_22⟩ : ∃ z : Int32, z = f_16 0 48 := ⟨_, rfl⟩
  have q_23 : 0 ≤ v_22.toInt ∧ v_22.toInt ≤ 19 := by rw [ev_22]; exact hI 0 48
  have q_24 : (f_16 0 48).toInt = v_22.toInt := (congrArg Int32.toInt (show f_16 0 48 = v_22 from ev_22.symm))
  have k_26 : (6 : Int32).toInt = 6 := by decide
  refine lv_istore_n (lv' := [(3, .int r_19), (0, .ref (h 0)), (1, .int 6), (2, .int x1)]) hx hb dX12_tellsAs_55 rfl hl (by decide) rfl (fun ls hl => ?_)
  refine lv_iload_n hx hb dX12_tellsAs_56 rfl (lv_at hl 0 rfl) ?_
  refine lv_aload_n hx hb dX12_tellsAs_57 rfl (lv_at hl 1 rfl) ?_
  refine lv_aload_n hx hb dX12_tellsAs_58 rfl (lv_at hl 1 rfl) ?_
  refine sl_gM_0_49_12 (v := 6) hx hb hts hown hK hP (show f_16 0 49 = 6 from ((hk_f_16 0 49 (by decide)).trans ((hk_f_4 0 49 (by decide)).trans hf_0_49))) dX12_tellsAs_59 ?_
  refine lv_iconst (v := 1) hx hb dX12_tellsAs_62 ic_1 ?_
  have c_27 : v_22 = 4 := Int32.toInt_inj.mp (by have k9 : (4 : Int32).toInt = 4 := ti_4; omega)
  have q_28 : (f_16 0 48).toInt = 4 := (congrArg Int32.toInt (show f_16 0 48 = 4 from (Eq.trans ev_22.symm c_27))).trans (by decide)
  refine sg_calli (va_runV (As := [.int 6, .int 1]) (rest := [.int r_19]) ⟨hx, hb, hml, hown, hts⟩ (kX12_slipsAs_6_f4_f6 l D ca za h hh f_16 L Q hI 1 (Eq.trans ev_22.symm c_27) ((hk_f_16 0 49 (by decide)).trans ((hk_f_4 0 49 (by decide)).trans hf_0_49)) (by decide) (by have k0 : (6 : Int32).toInt = 6 := ti_6; have k1 : (1 : Int32).toInt = 1 := ti_1; omega) H.size) (sl_c12_slipsAs_1_0_0_21_12 hts ⟨Nat.le_of_ble_eq_true rfl, Nat.le_of_ble_eq_true rfl⟩) (sl_vM_0 hA hK hP hS hZ) rfl rfl hl.1 rfl (lv_room (Nat.le_of_ble_eq_true rfl)) dX12_tellsAs_63 ⟨Nat.le_refl _, Nat.le_refl _⟩) hA hS (fun r_33 f_30 L_31 Q_32 H locs hq hP hS => ?_)
  obtain ⟨⟨hI, hk_f_30, eL9, eQ9⟩, hq, p_34, u_35⟩ := hq
  rw [eL9, eQ9] at hP; clear eL9 eQ9
  have hF : sgK WkX12_tellsAs_6_f0_f6 f f_30 := sgK.tr hF hk_f_30 (by decide +kernel)
  obtain ⟨v_36, ev_36⟩ : ∃ z : Int32, z = f_30 0 48 := ⟨_, rfl⟩
  have q_37 : 0 ≤ v_36.toInt ∧ v_36.toInt ≤ 19 := by rw [ev_36]; exact hI 0 48
  have q_38 : (f_30 0 48).toInt = v_36.toInt := (congrArg Int32.toInt (show f_30 0 48 = v_36 from ev_36.symm))
  have k_40 : (6 : Int32).toInt = 6 := by decide
  have k_41 : (1 : Int32).toInt = 1 := by decide
  refine lv_isub hx hb dX12_tellsAs_66 ?_
  refine lv_topi (fun v_42 ev_42 => ?_)
  exact hret _ _ _ _ (v_42) f_30 L Q dX12_tellsAs_67 hP hS ⟨⟨hI, hF, rfl, rfl⟩, trivial, ⟨by omega, by omega⟩, (Eq.trans (Eq.symm (hs.trans ((spl_e u_8 (spl_e ev_9 (spl2_e u_21 (spl_e ev_22 (spl2_e u_35 (spl_e ev_36 (spl_e ev_42 rfl)))))))))) hsp)⟩

abbrev WkX12_begins_81_f0 : List (Nat × Nat × Option Nat) := [(0, 0, some 48), (21, 21, some 0)]
set_option maxHeartbeats 4000000 in
set_option maxRecDepth 100000 in
theorem kX12_begins_81_f0 (l : Launch) (D : va_G) (ca : Nat → ClassId) (za h : Nat → Nat) (hh : sgH 26 h) (f : sg_F) (L : sg_L) (Q : sg_Q) (hI : sgI loM hiM f) (hf_0_48 : f 0 48 = 0) (p0 : 0 ≤ (f 0 48).toInt ∧ (f 0 48).toInt ≤ 0) (sz : Nat) : Met l yX12_begins gwX12_begins { frames := 0, cells := 0, slots := 0, locals := 0 } (sgP D vwCl (tyX ca) 26 h (eM ca h) zcM za f L Q sz [.ref (h 0), .int 81]) (sgQv D vwCl 26 h (eM ca h) sz (fun f1 L1 Q1 => ((sgI loM hiM f1 ∧ sgK WkX12_begins_81_f0 f f1 ∧ L1 = L ∧ Q1 = Q) ∧ (1 ≤ (f1 0 48).toInt ∧ (f1 0 48).toInt ≤ 1) ∧ (f1) = sX12_begins_81_f0 f L))) 0 0 (sgA 26 h sz) := by
  refine sg_ofWv (cc := cX12_begins) (maxL := 2) RX12 (by decide) rfl rfl (Nat.le_of_ble_eq_true rfl) ?_
  intro p e s m below meth cd Qz ls hx hb hml hown hts hK hZ hP hS hl hret
  have hA := sgY.self (n := 26) (h := h) (sz := s.heap.size)
  have hl : lv_has ls 2 [(0, .ref (h 0)), (1, .int 81)] := hl
  obtain ⟨H, hH⟩ : ∃ z : Heap, z = s.heap := ⟨_, rfl⟩
  obtain ⟨locs, hlo⟩ : ∃ z : List Loc, z = [] := ⟨_, rfl⟩
  have hP : va_P D vwCl (sgw 26 h (eM ca h) f L Q) H := by rw [hH]; exact hP
  have hS : va_S (sgA 26 h s.heap.size) s.heap H locs := by rw [hH, hlo]; exact hS
  suffices hgo : W p l e ({ frames := 0, cells := 0, slots := 0, locals := 0 }) s m ([.ref (h 0), .int 81] : List Value).toArray below meth cd H locs 0 0 Qz (F0 m 0 ls []) by rw [hH, hlo] at hgo; exact hgo
  clear hH hlo
  obtain ⟨sp, hsp⟩ : ∃ z : sg_F, z = sX12_begins_81_f0 f L := ⟨_, rfl⟩
  have hs : sp = sX12_begins_81_f0 f L := hsp
  have o_1 : (f 0 48).toInt = 0 := (congrArg Int32.toInt (show f 0 48 = 0 from hf_0_48)).trans (by decide)
  have hF : sgK WkX12_begins_81_f0 f f := sgK.rf
  have blk_19 : ∀ (fp_19 : sg_F) (H : Heap) (locs : List Loc) (ls : Array Slot), sp = sX12_begins_81_f0_b19 fp_19 L → 0 ≤ (fp_19 0 48).toInt ∧ (fp_19 0 48).toInt ≤ 0 → sgI loM hiM fp_19 → sgK WkX12_begins_81_f0 f fp_19 → va_P D vwCl (sgw 26 h (eM ca h) fp_19 L Q) H → va_S (sgA 26 h s.heap.size) s.heap H locs → lv_has ls 2 [(0, .ref (h 0))] → W p l e ({ frames := 0, cells := 0, slots := 0, locals := 0 }) s m ([.ref (h 0), .int 81] : List Value).toArray below meth cd H locs 0 0 Qz (F0 m 19 ls []) := by
    intro fp_19 H locs ls hs hy0_19 hI hF hP hS hl
    obtain ⟨v_2, ev_2⟩ : ∃ z : Int32, z = fp_19 0 48 := ⟨_, rfl⟩
    have q_3 : 0 ≤ v_2.toInt ∧ v_2.toInt ≤ 19 := by rw [ev_2]; exact hI 0 48
    have q_4 : (fp_19 0 48).toInt = v_2.toInt := by rw [ev_2]
    refine lv_aload_n hx hb dX12_begins_19 rfl (lv_at hl 0 rfl) ?_
    refine lv_dup hx hb dX12_begins_20 rfl ?_
    refine sl_gM_0_48_12 (v := v_2) hx hb hts hown hK hP (show fp_19 0 48 = v_2 from ev_2.symm) dX12_begins_21 ?_
    refine lv_iconst (v := 1) hx hb dX12_begins_24 ic_1 ?_
    refine lv_iadd hx hb dX12_begins_25 ?_
    refine lv_topi (fun v_5 ev_5 => ?_)
    have q_6 : v_5.toInt = v_2.toInt + 1 := by rw [ev_5]; first | exact cm_add ti_1 (by omega) (by omega) | (have k1 : (1 : Int32).toInt = 1 := ti_1; exact (bn_addI (by omega) (by omega)).trans (by omega))
    refine sl_pM_0_48_12 (x := v_5) hx hb hts hown hh hA hK hP hS dX12_begins_26 (fun f_7 H locs ef_7 hP hS => ?_)
    have hI : sgI loM hiM f_7 := by rw [ef_7]; exact sgI.put hI 0 48 (show 0 ≤ (v_5 : Int32).toInt ∧ (v_5 : Int32).toInt ≤ 19 from ⟨by omega, by omega⟩)
    have hF : sgK WkX12_begins_81_f0 f f_7 := sgK.put hF ef_7 (by rfl)
    have q_8 : (f_7 0 48).toInt = v_5.toInt := (congrArg Int32.toInt (show f_7 0 48 = v_5 from (by rw [ef_7, sg_up_s, sgu_s])))
    exact hret _ _ _ _ f_7 L Q dX12_begins_29 hP hS ⟨⟨hI, hF, rfl, rfl⟩, ⟨by omega, by omega⟩, (Eq.trans (Eq.symm (hs.trans ((spl_e ev_2 (spl_e ev_5 (spl_e ef_7 rfl)))))) hsp)⟩
  refine lv_aload_n hx hb dX12_begins_0 rfl (lv_at hl 0 rfl) ?_
  refine sl_gM_0_48_12 (v := 0) hx hb hts hown hK hP (show f 0 48 = 0 from hf_0_48) dX12_begins_1 ?_
  refine lv_bipush (v := 24) hx hb dX12_begins_4 bp_24 ?_
  refine lv_icmp_ge (tgt := 19) hx hb dX12_begins_6 (by decide) (fun c => absurd c (by decide)) (fun c => ?_)
  refine lv_aload_n hx hb dX12_begins_9 rfl (lv_at hl 0 rfl) ?_
  refine sl_gM_0_47_12 hx hb hts hown hK hP dX12_begins_10 ?_
  refine lv_aload_n hx hb dX12_begins_13 rfl (lv_at hl 0 rfl) ?_
  refine sl_gM_0_48_12 (v := 0) hx hb hts hown hK hP (show f 0 48 = 0 from hf_0_48) dX12_begins_14 ?_
  refine lv_iload_n hx hb dX12_begins_17 rfl (lv_at hl 1 rfl) ?_
  refine sg_iast hx hb hh hA hK hP hS 21 (by decide) 0 (fun _ => rfl) rfl (i := 0) (x := 81) (vp_in_iff.mpr (by decide)) dX12_begins_18 (fun f_10 H locs ef_10 hP hS => ?_)
  have ef_10 : f_10 = sg_up f 21 (sgu (f 21) 0 81) := ef_10
  have hI : sgI loM hiM f_10 := by rw [ef_10]; exact sgI.put hI 21 0 (show 0 ≤ (81 : Int32).toInt ∧ (81 : Int32).toInt ≤ 81 from by decide)
  have hF : sgK WkX12_begins_81_f0 f f_10 := sgK.put hF ef_10 (by rfl)
  exact blk_19 f_10 _ _ _ (hs.trans ((spl_e ef_10 rfl))) (by have zz0_48 : (f_10 0 48).toInt = 0 := (congrArg Int32.toInt (show f_10 0 48 = 0 from (by rw [ef_10, sg_up_n (by decide)]; exact hf_0_48))).trans (by decide); exact ⟨by omega, by omega⟩) hI hF hP hS (lv_sub hl [0] rfl)

abbrev WkX12_begins_80_f2 : List (Nat × Nat × Option Nat) := [(0, 0, some 48), (21, 21, some 2)]
set_option maxHeartbeats 4000000 in
set_option maxRecDepth 100000 in
theorem kX12_begins_80_f2 (l : Launch) (D : va_G) (ca : Nat → ClassId) (za h : Nat → Nat) (hh : sgH 26 h) (f : sg_F) (L : sg_L) (Q : sg_Q) (hI : sgI loM hiM f) (hf_0_48 : f 0 48 = 2) (p0 : 2 ≤ (f 0 48).toInt ∧ (f 0 48).toInt ≤ 2) (sz : Nat) : Met l yX12_begins gwX12_begins { frames := 0, cells := 0, slots := 0, locals := 0 } (sgP D vwCl (tyX ca) 26 h (eM ca h) zcM za f L Q sz [.ref (h 0), .int 80]) (sgQv D vwCl 26 h (eM ca h) sz (fun f1 L1 Q1 => ((sgI loM hiM f1 ∧ sgK WkX12_begins_80_f2 f f1 ∧ L1 = L ∧ Q1 = Q) ∧ (3 ≤ (f1 0 48).toInt ∧ (f1 0 48).toInt ≤ 3) ∧ (f1) = sX12_begins_80_f2 f L))) 0 0 (sgA 26 h sz) := by
  refine sg_ofWv (cc := cX12_begins) (maxL := 2) RX12 (by decide) rfl rfl (Nat.le_of_ble_eq_true rfl) ?_
  intro p e s m below meth cd Qz ls hx hb hml hown hts hK hZ hP hS hl hret
  have hA := sgY.self (n := 26) (h := h) (sz := s.heap.size)
  have hl : lv_has ls 2 [(0, .ref (h 0)), (1, .int 80)] := hl
  obtain ⟨H, hH⟩ : ∃ z : Heap, z = s.heap := ⟨_, rfl⟩
  obtain ⟨locs, hlo⟩ : ∃ z : List Loc, z = [] := ⟨_, rfl⟩
  have hP : va_P D vwCl (sgw 26 h (eM ca h) f L Q) H := by rw [hH]; exact hP
  have hS : va_S (sgA 26 h s.heap.size) s.heap H locs := by rw [hH, hlo]; exact hS
  suffices hgo : W p l e ({ frames := 0, cells := 0, slots := 0, locals := 0 }) s m ([.ref (h 0), .int 80] : List Value).toArray below meth cd H locs 0 0 Qz (F0 m 0 ls []) by rw [hH, hlo] at hgo; exact hgo
  clear hH hlo
  obtain ⟨sp, hsp⟩ : ∃ z : sg_F, z = sX12_begins_80_f2 f L := ⟨_, rfl⟩
  have hs : sp = sX12_begins_80_f2 f L := hsp
  have o_1 : (f 0 48).toInt = 2 := (congrArg Int32.toInt (show f 0 48 = 2 from hf_0_48)).trans (by decide)
  have hF : sgK WkX12_begins_80_f2 f f := sgK.rf
  have blk_19 : ∀ (fp_19 : sg_F) (H : Heap) (locs : List Loc) (ls : Array Slot), sp = sX12_begins_80_f2_b19 fp_19 L → 2 ≤ (fp_19 0 48).toInt ∧ (fp_19 0 48).toInt ≤ 2 → sgI loM hiM fp_19 → sgK WkX12_begins_80_f2 f fp_19 → va_P D vwCl (sgw 26 h (eM ca h) fp_19 L Q) H → va_S (sgA 26 h s.heap.size) s.heap H locs → lv_has ls 2 [(0, .ref (h 0))] → W p l e ({ frames := 0, cells := 0, slots := 0, locals := 0 }) s m ([.ref (h 0), .int 80] : List Value).toArray below meth cd H locs 0 0 Qz (F0 m 19 ls []) := by
    intro fp_19 H locs ls hs hy0_19 hI hF hP hS hl
    obtain ⟨v_2, ev_2⟩ : ∃ z : Int32, z = fp_19 0 48 := ⟨_, rfl⟩
    have q_3 : 0 ≤ v_2.toInt ∧ v_2.toInt ≤ 19 := by rw [ev_2]; exact hI 0 48
    have q_4 : (fp_19 0 48).toInt = v_2.toInt := by rw [ev_2]
    refine lv_aload_n hx hb dX12_begins_19 rfl (lv_at hl 0 rfl) ?_
    refine lv_dup hx hb dX12_begins_20 rfl ?_
    refine sl_gM_0_48_12 (v := v_2) hx hb hts hown hK hP (show fp_19 0 48 = v_2 from ev_2.symm) dX12_begins_21 ?_
    refine lv_iconst (v := 1) hx hb dX12_begins_24 ic_1 ?_
    refine lv_iadd hx hb dX12_begins_25 ?_
    refine lv_topi (fun v_5 ev_5 => ?_)
    have q_6 : v_5.toInt = v_2.toInt + 1 := by rw [ev_5]; first | exact cm_add ti_1 (by omega) (by omega) | (have k1 : (1 : Int32).toInt = 1 := ti_1; exact (bn_addI (by omega) (by omega)).trans (by omega))
    refine sl_pM_0_48_12 (x := v_5) hx hb hts hown hh hA hK hP hS dX12_begins_26 (fun f_7 H locs ef_7 hP hS => ?_)
    have hI : sgI loM hiM f_7 := by rw [ef_7]; exact sgI.put hI 0 48 (show 0 ≤ (v_5 : Int32).toInt ∧ (v_5 : Int32).toInt ≤ 19 from ⟨by omega, by omega⟩)
    have hF : sgK WkX12_begins_80_f2 f f_7 := sgK.put hF ef_7 (by rfl)
    have q_8 : (f_7 0 48).toInt = v_5.toInt := (congrArg Int32.toInt (show f_7 0 48 = v_5 from (by rw [ef_7, sg_up_s, sgu_s])))
    exact hret _ _ _ _ f_7 L Q dX12_begins_29 hP hS ⟨⟨hI, hF, rfl, rfl⟩, ⟨by omega, by omega⟩, (Eq.trans (Eq.symm (hs.trans ((spl_e ev_2 (spl_e ev_5 (spl_e ef_7 rfl)))))) hsp)⟩
  refine lv_aload_n hx hb dX12_begins_0 rfl (lv_at hl 0 rfl) ?_
  refine sl_gM_0_48_12 (v := 2) hx hb hts hown hK hP (show f 0 48 = 2 from hf_0_48) dX12_begins_1 ?_
  refine lv_bipush (v := 24) hx hb dX12_begins_4 bp_24 ?_
  refine lv_icmp_ge (tgt := 19) hx hb dX12_begins_6 (by decide) (fun c => absurd c (by decide)) (fun c => ?_)
  refine lv_aload_n hx hb dX12_begins_9 rfl (lv_at hl 0 rfl) ?_
  refine sl_gM_0_47_12 hx hb hts hown hK hP dX12_begins_10 ?_
  refine lv_aload_n hx hb dX12_begins_13 rfl (lv_at hl 0 rfl) ?_
  refine sl_gM_0_48_12 (v := 2) hx hb hts hown hK hP (show f 0 48 = 2 from hf_0_48) dX12_begins_14 ?_
  refine lv_iload_n hx hb dX12_begins_17 rfl (lv_at hl 1 rfl) ?_
  refine sg_iast hx hb hh hA hK hP hS 21 (by decide) 0 (fun _ => rfl) rfl (i := 2) (x := 80) (vp_in_iff.mpr (by decide)) dX12_begins_18 (fun f_10 H locs ef_10 hP hS => ?_)
  have ef_10 : f_10 = sg_up f 21 (sgu (f 21) 2 80) := ef_10
  have hI : sgI loM hiM f_10 := by rw [ef_10]; exact sgI.put hI 21 2 (show 0 ≤ (80 : Int32).toInt ∧ (80 : Int32).toInt ≤ 81 from by decide)
  have hF : sgK WkX12_begins_80_f2 f f_10 := sgK.put hF ef_10 (by rfl)
  exact blk_19 f_10 _ _ _ (hs.trans ((spl_e ef_10 rfl))) (by have zz0_48 : (f_10 0 48).toInt = 2 := (congrArg Int32.toInt (show f_10 0 48 = 2 from (by rw [ef_10, sg_up_n (by decide)]; exact hf_0_48))).trans (by decide); exact ⟨by omega, by omega⟩) hI hF hP hS (lv_sub hl [0] rfl)

abbrev WkX12_begins_20_f4 : List (Nat × Nat × Option Nat) := [(0, 0, some 48), (21, 21, some 4)]
set_option maxHeartbeats 4000000 in
set_option maxRecDepth 100000 in
theorem kX12_begins_20_f4 (l : Launch) (D : va_G) (ca : Nat → ClassId) (za h : Nat → Nat) (hh : sgH 26 h) (f : sg_F) (L : sg_L) (Q : sg_Q) (hI : sgI loM hiM f) (hf_0_48 : f 0 48 = 4) (p0 : 4 ≤ (f 0 48).toInt ∧ (f 0 48).toInt ≤ 4) (sz : Nat) : Met l yX12_begins gwX12_begins { frames := 0, cells := 0, slots := 0, locals := 0 } (sgP D vwCl (tyX ca) 26 h (eM ca h) zcM za f L Q sz [.ref (h 0), .int 20]) (sgQv D vwCl 26 h (eM ca h) sz (fun f1 L1 Q1 => ((sgI loM hiM f1 ∧ sgK WkX12_begins_20_f4 f f1 ∧ L1 = L ∧ Q1 = Q) ∧ (5 ≤ (f1 0 48).toInt ∧ (f1 0 48).toInt ≤ 5) ∧ (f1) = sX12_begins_20_f4 f L))) 0 0 (sgA 26 h sz) := by
  refine sg_ofWv (cc := cX12_begins) (maxL := 2) RX12 (by decide) rfl rfl (Nat.le_of_ble_eq_true rfl) ?_
  intro p e s m below meth cd Qz ls hx hb hml hown hts hK hZ hP hS hl hret
  have hA := sgY.self (n := 26) (h := h) (sz := s.heap.size)
  have hl : lv_has ls 2 [(0, .ref (h 0)), (1, .int 20)] := hl
  obtain ⟨H, hH⟩ : ∃ z : Heap, z = s.heap := ⟨_, rfl⟩
  obtain ⟨locs, hlo⟩ : ∃ z : List Loc, z = [] := ⟨_, rfl⟩
  have hP : va_P D vwCl (sgw 26 h (eM ca h) f L Q) H := by rw [hH]; exact hP
  have hS : va_S (sgA 26 h s.heap.size) s.heap H locs := by rw [hH, hlo]; exact hS
  suffices hgo : W p l e ({ frames := 0, cells := 0, slots := 0, locals := 0 }) s m ([.ref (h 0), .int 20] : List Value).toArray below meth cd H locs 0 0 Qz (F0 m 0 ls []) by rw [hH, hlo] at hgo; exact hgo
  clear hH hlo
  obtain ⟨sp, hsp⟩ : ∃ z : sg_F, z = sX12_begins_20_f4 f L := ⟨_, rfl⟩
  have hs : sp = sX12_begins_20_f4 f L := hsp
  have o_1 : (f 0 48).toInt = 4 := (congrArg Int32.toInt (show f 0 48 = 4 from hf_0_48)).trans (by decide)
  have hF : sgK WkX12_begins_20_f4 f f := sgK.rf
  have blk_19 : ∀ (fp_19 : sg_F) (H : Heap) (locs : List Loc) (ls : Array Slot), sp = sX12_begins_20_f4_b19 fp_19 L → 4 ≤ (fp_19 0 48).toInt ∧ (fp_19 0 48).toInt ≤ 4 → sgI loM hiM fp_19 → sgK WkX12_begins_20_f4 f fp_19 → va_P D vwCl (sgw 26 h (eM ca h) fp_19 L Q) H → va_S (sgA 26 h s.heap.size) s.heap H locs → lv_has ls 2 [(0, .ref (h 0))] → W p l e ({ frames := 0, cells := 0, slots := 0, locals := 0 }) s m ([.ref (h 0), .int 20] : List Value).toArray below meth cd H locs 0 0 Qz (F0 m 19 ls []) := by
    intro fp_19 H locs ls hs hy0_19 hI hF hP hS hl
    obtain ⟨v_2, ev_2⟩ : ∃ z : Int32, z = fp_19 0 48 := ⟨_, rfl⟩
    have q_3 : 0 ≤ v_2.toInt ∧ v_2.toInt ≤ 19 := by rw [ev_2]; exact hI 0 48
    have q_4 : (fp_19 0 48).toInt = v_2.toInt := by rw [ev_2]
    refine lv_aload_n hx hb dX12_begins_19 rfl (lv_at hl 0 rfl) ?_
    refine lv_dup hx hb dX12_begins_20 rfl ?_
    refine sl_gM_0_48_12 (v := v_2) hx hb hts hown hK hP (show fp_19 0 48 = v_2 from ev_2.symm) dX12_begins_21 ?_
    refine lv_iconst (v := 1) hx hb dX12_begins_24 ic_1 ?_
    refine lv_iadd hx hb dX12_begins_25 ?_
    refine lv_topi (fun v_5 ev_5 => ?_)
    have q_6 : v_5.toInt = v_2.toInt + 1 := by rw [ev_5]; first | exact cm_add ti_1 (by omega) (by omega) | (have k1 : (1 : Int32).toInt = 1 := ti_1; exact (bn_addI (by omega) (by omega)).trans (by omega))
    refine sl_pM_0_48_12 (x := v_5) hx hb hts hown hh hA hK hP hS dX12_begins_26 (fun f_7 H locs ef_7 hP hS => ?_)
    have hI : sgI loM hiM f_7 := by rw [ef_7]; exact sgI.put hI 0 48 (show 0 ≤ (v_5 : Int32).toInt ∧ (v_5 : Int32).toInt ≤ 19 from ⟨by omega, by omega⟩)
    have hF : sgK WkX12_begins_20_f4 f f_7 := sgK.put hF ef_7 (by rfl)
    have q_8 : (f_7 0 48).toInt = v_5.toInt := (congrArg Int32.toInt (show f_7 0 48 = v_5 from (by rw [ef_7, sg_up_s, sgu_s])))
    exact hret _ _ _ _ f_7 L Q dX12_begins_29 hP hS ⟨⟨hI, hF, rfl, rfl⟩, ⟨by omega, by omega⟩, (Eq.trans (Eq.symm (hs.trans ((spl_e ev_2 (spl_e ev_5 (spl_e ef_7 rfl)))))) hsp)⟩
  refine lv_aload_n hx hb dX12_begins_0 rfl (lv_at hl 0 rfl) ?_
  refine sl_gM_0_48_12 (v := 4) hx hb hts hown hK hP (show f 0 48 = 4 from hf_0_48) dX12_begins_1 ?_
  refine lv_bipush (v := 24) hx hb dX12_begins_4 bp_24 ?_
  refine lv_icmp_ge (tgt := 19) hx hb dX12_begins_6 (by decide) (fun c => absurd c (by decide)) (fun c => ?_)
  refine lv_aload_n hx hb dX12_begins_9 rfl (lv_at hl 0 rfl) ?_
  refine sl_gM_0_47_12 hx hb hts hown hK hP dX12_begins_10 ?_
  refine lv_aload_n hx hb dX12_begins_13 rfl (lv_at hl 0 rfl) ?_
  refine sl_gM_0_48_12 (v := 4) hx hb hts hown hK hP (show f 0 48 = 4 from hf_0_48) dX12_begins_14 ?_
  refine lv_iload_n hx hb dX12_begins_17 rfl (lv_at hl 1 rfl) ?_
  refine sg_iast hx hb hh hA hK hP hS 21 (by decide) 0 (fun _ => rfl) rfl (i := 4) (x := 20) (vp_in_iff.mpr (by decide)) dX12_begins_18 (fun f_10 H locs ef_10 hP hS => ?_)
  have ef_10 : f_10 = sg_up f 21 (sgu (f 21) 4 20) := ef_10
  have hI : sgI loM hiM f_10 := by rw [ef_10]; exact sgI.put hI 21 4 (show 0 ≤ (20 : Int32).toInt ∧ (20 : Int32).toInt ≤ 81 from by decide)
  have hF : sgK WkX12_begins_20_f4 f f_10 := sgK.put hF ef_10 (by rfl)
  exact blk_19 f_10 _ _ _ (hs.trans ((spl_e ef_10 rfl))) (by have zz0_48 : (f_10 0 48).toInt = 4 := (congrArg Int32.toInt (show f_10 0 48 = 4 from (by rw [ef_10, sg_up_n (by decide)]; exact hf_0_48))).trans (by decide); exact ⟨by omega, by omega⟩) hI hF hP hS (lv_sub hl [0] rfl)

abbrev WkX12_setsAs_0_f5_f7 : List (Nat × Nat × Option Nat) := [(0, 0, some 48), (21, 21, some 5)]
set_option maxHeartbeats 4000000 in
set_option maxRecDepth 100000 in
theorem kX12_setsAs_0_f5_f7 (l : Launch) (D : va_G) (ca : Nat → ClassId) (za h : Nat → Nat) (hh : sgH 26 h) (f : sg_F) (L : sg_L) (Q : sg_Q) (hI : sgI loM hiM f) (x1 : Int32) (hf_0_48 : f 0 48 = 5) (hf_0_49 : f 0 49 = 7) (p0 : 5 ≤ (f 0 48).toInt ∧ (f 0 48).toInt ≤ 5) (sz : Nat) : Met l yX12_setsAs gwX12_setsAs { frames := 1, cells := 0, slots := 0, locals := 21 } (sgP D vwCl (tyX ca) 26 h (eM ca h) zcM za f L Q sz [.ref (h 0), .int 0, .int x1]) (sgQi D vwCl 26 h (eM ca h) sz (fun r f1 L1 Q1 => ((sgI loM hiM f1 ∧ sgK WkX12_setsAs_0_f5_f7 f f1 ∧ L1 = L ∧ Q1 = Q) ∧ True ∧ (6 ≤ (f1 0 48).toInt ∧ (f1 0 48).toInt ≤ 6) ∧ (r, f1) = sX12_setsAs_0_f5_f7 x1 f L))) 0 0 (sgA 26 h sz) := by
  refine sg_ofWi (cc := cX12_setsAs) (maxL := 3) RX12 (by decide) rfl rfl (Nat.le_of_ble_eq_true rfl) ?_
  intro p e s m below meth cd Qz ls hx hb hml hown hts hK hZ hP hS hl hret
  have hA := sgY.self (n := 26) (h := h) (sz := s.heap.size)
  have hl : lv_has ls 3 [(0, .ref (h 0)), (1, .int 0), (2, .int x1)] := hl
  obtain ⟨H, hH⟩ : ∃ z : Heap, z = s.heap := ⟨_, rfl⟩
  obtain ⟨locs, hlo⟩ : ∃ z : List Loc, z = [] := ⟨_, rfl⟩
  have hP : va_P D vwCl (sgw 26 h (eM ca h) f L Q) H := by rw [hH]; exact hP
  have hS : va_S (sgA 26 h s.heap.size) s.heap H locs := by rw [hH, hlo]; exact hS
  suffices hgo : W p l e ({ frames := 1, cells := 0, slots := 0, locals := 21 }) s m ([.ref (h 0), .int 0, .int x1] : List Value).toArray below meth cd H locs 0 0 Qz (F0 m 0 ls []) by rw [hH, hlo] at hgo; exact hgo
  clear hH hlo
  obtain ⟨sp, hsp⟩ : ∃ z : Int32 × sg_F, z = sX12_setsAs_0_f5_f7 x1 f L := ⟨_, rfl⟩
  have hs : sp = sX12_setsAs_0_f5_f7 x1 f L := hsp
  have o_1 : (f 0 48).toInt = 5 := (congrArg Int32.toInt (show f 0 48 = 5 from hf_0_48)).trans (by decide)
  have hF : sgK WkX12_setsAs_0_f5_f7 f f := sgK.rf
  refine lv_iload_n hx hb dX12_setsAs_0 rfl (lv_at hl 1 rfl) ?_
  refine lv_iconst (v := 1) hx hb dX12_setsAs_1 ic_1 ?_
  refine lv_icmp_eq (tgt := 16) hx hb dX12_setsAs_2 (by decide) (fun c => absurd c (by decide)) (fun c => ?_)
  refine lv_iload_n hx hb dX12_setsAs_5 rfl (lv_at hl 1 rfl) ?_
  refine lv_iconst (v := 4) hx hb dX12_setsAs_6 ic_4 ?_
  refine lv_icmp_eq (tgt := 16) hx hb dX12_setsAs_7 (by decide) (fun c => absurd c (by decide)) (fun c => ?_)
  refine lv_iload_n hx hb dX12_setsAs_10 rfl (lv_at hl 1 rfl) ?_
  refine lv_bipush (v := 7) hx hb dX12_setsAs_11 bp_7 ?_
  refine lv_icmp_ne (tgt := 31) hx hb dX12_setsAs_13 (by decide) (fun c => ?_) (fun c => absurd c (by decide))
  refine lv_iload_n hx hb dX12_setsAs_31 rfl (lv_at hl 1 rfl) ?_
  refine lv_bipush (v := 6) hx hb dX12_setsAs_32 bp_6 ?_
  refine lv_icmp_ne (tgt := 52) hx hb dX12_setsAs_34 (by decide) (fun c => ?_) (fun c => absurd c (by decide))
  refine lv_aload_n hx hb dX12_setsAs_52 rfl (lv_at hl 0 rfl) ?_
  refine lv_iconst (v := 1) hx hb dX12_setsAs_53 ic_1 ?_
  have q_2 : (f 0 48).toInt = 5 := (congrArg Int32.toInt (show f 0 48 = 5 from hf_0_48)).trans (by decide)
  refine sg_callv (va_runV (As := [.int 1]) (rest := []) ⟨hx, hb, hml, hown, hts⟩ (kX12_begins_1_f5 l D ca za h hh f L Q hI hf_0_48 (by have k0 : (1 : Int32).toInt = 1 := ti_1; omega) H.size) (sl_c12_begins_0_0_0_0_12 hts ⟨Nat.le_of_ble_eq_true rfl, Nat.le_of_ble_eq_true rfl⟩) (sl_vM_0 hA hK hP hS hZ) rfl rfl hl.1 rfl (lv_room (Nat.le_of_ble_eq_true rfl)) dX12_setsAs_54 ⟨Nat.le_refl _, Nat.le_refl _⟩) hA hS (fun f_4 L_5 Q_6 H locs hq hP hS => ?_)
  obtain ⟨⟨hI, hk_f_4, eL9, eQ9⟩, p_7, u_8⟩ := hq
  rw [eL9, eQ9] at hP; clear eL9 eQ9
  have hF : sgK WkX12_setsAs_0_f5_f7 f f_4 := sgK.tr hF hk_f_4 (by decide +kernel)
  obtain ⟨v_9, ev_9⟩ : ∃ z : Int32, z = f_4 0 48 := ⟨_, rfl⟩
  have q_10 : 0 ≤ v_9.toInt ∧ v_9.toInt ≤ 19 := by rw [ev_9]; exact hI 0 48
  have q_11 : (f_4 0 48).toInt = v_9.toInt := (congrArg Int32.toInt (show f_4 0 48 = v_9 from ev_9.symm))
  refine lv_iload_n hx hb dX12_setsAs_57 rfl (lv_at hl 2 rfl) ?_
  refine lv_aload_n hx hb dX12_setsAs_58 rfl (lv_at hl 0 rfl) ?_
  refine sl_gM_0_50_12 (v := (f_4 0 50)) hx hb hts hown hK hP rfl dX12_setsAs_59 ?_
  refine lv_topi (fun v_13 ev_13 => ?_)
  have q_14 : 0 ≤ v_13.toInt ∧ v_13.toInt ≤ 49 := by rw [ev_13]; exact hI 0 50
  refine lv_iadd hx hb dX12_setsAs_62 ?_
  refine lv_topi (fun v_15 ev_15 => ?_)
  exact hret _ _ _ _ (v_15) f_4 L Q dX12_setsAs_63 hP hS ⟨⟨hI, hF, rfl, rfl⟩, trivial, ⟨by omega, by omega⟩, (Eq.trans (Eq.symm (hs.trans ((spl_e u_8 (spl_e ev_9 (spl_e ev_13 (spl_e ev_15 rfl))))))) hsp)⟩

abbrev WkX12_setsAs_7_f4_f7 : List (Nat × Nat × Option Nat) := [(0, 0, some 48), (21, 21, some 4), (21, 21, some 5)]
set_option maxHeartbeats 4000000 in
set_option maxRecDepth 100000 in
theorem kX12_setsAs_7_f4_f7 (l : Launch) (D : va_G) (ca : Nat → ClassId) (za h : Nat → Nat) (hh : sgH 26 h) (f : sg_F) (L : sg_L) (Q : sg_Q) (hI : sgI loM hiM f) (x1 : Int32) (hf_0_48 : f 0 48 = 4) (hf_0_49 : f 0 49 = 7) (p0 : 4 ≤ (f 0 48).toInt ∧ (f 0 48).toInt ≤ 4) (sz : Nat) : Met l yX12_setsAs gwX12_setsAs { frames := 2, cells := 0, slots := 0, locals := 43 } (sgP D vwCl (tyX ca) 26 h (eM ca h) zcM za f L Q sz [.ref (h 0), .int 7, .int x1]) (sgQi D vwCl 26 h (eM ca h) sz (fun r f1 L1 Q1 => ((sgI loM hiM f1 ∧ sgK WkX12_setsAs_7_f4_f7 f f1 ∧ L1 = L ∧ Q1 = Q) ∧ True ∧ (6 ≤ (f1 0 48).toInt ∧ (f1 0 48).toInt ≤ 6) ∧ (r, f1) = sX12_setsAs_7_f4_f7 x1 f L))) 0 0 (sgA 26 h sz) := by
  refine sg_ofWi (cc := cX12_setsAs) (maxL := 3) RX12 (by decide) rfl rfl (Nat.le_of_ble_eq_true rfl) ?_
  intro p e s m below meth cd Qz ls hx hb hml hown hts hK hZ hP hS hl hret
  have hA := sgY.self (n := 26) (h := h) (sz := s.heap.size)
  have hl : lv_has ls 3 [(0, .ref (h 0)), (1, .int 7), (2, .int x1)] := hl
  obtain ⟨H, hH⟩ : ∃ z : Heap, z = s.heap := ⟨_, rfl⟩
  obtain ⟨locs, hlo⟩ : ∃ z : List Loc, z = [] := ⟨_, rfl⟩
  have hP : va_P D vwCl (sgw 26 h (eM ca h) f L Q) H := by rw [hH]; exact hP
  have hS : va_S (sgA 26 h s.heap.size) s.heap H locs := by rw [hH, hlo]; exact hS
  suffices hgo : W p l e ({ frames := 2, cells := 0, slots := 0, locals := 43 }) s m ([.ref (h 0), .int 7, .int x1] : List Value).toArray below meth cd H locs 0 0 Qz (F0 m 0 ls []) by rw [hH, hlo] at hgo; exact hgo
  clear hH hlo
  obtain ⟨sp, hsp⟩ : ∃ z : Int32 × sg_F, z = sX12_setsAs_7_f4_f7 x1 f L := ⟨_, rfl⟩
  have hs : sp = sX12_setsAs_7_f4_f7 x1 f L := hsp
  have o_1 : (f 0 48).toInt = 4 := (congrArg Int32.toInt (show f 0 48 = 4 from hf_0_48)).trans (by decide)
  have hF : sgK WkX12_setsAs_7_f4_f7 f f := sgK.rf
  have blk_16 : ∀ (fp_16 : sg_F) (H : Heap) (locs : List Loc) (ls : Array Slot), sp = sX12_setsAs_7_f4_f7_b16 x1 fp_16 L → 4 ≤ (fp_16 0 48).toInt ∧ (fp_16 0 48).toInt ≤ 4 → 7 ≤ (fp_16 0 49).toInt ∧ (fp_16 0 49).toInt ≤ 7 → sgI loM hiM fp_16 → sgK WkX12_setsAs_7_f4_f7 f fp_16 → va_P D vwCl (sgw 26 h (eM ca h) fp_16 L Q) H → va_S (sgA 26 h s.heap.size) s.heap H locs → lv_has ls 3 [(0, .ref (h 0)), (2, .int x1)] → W p l e ({ frames := 2, cells := 0, slots := 0, locals := 43 }) s m ([.ref (h 0), .int 7, .int x1] : List Value).toArray below meth cd H locs 0 0 Qz (F0 m 16 ls []) := by
    intro fp_16 H locs ls hs hy0_16 hy1_16 hI hF hP hS hl
    obtain ⟨v_2, ev_2⟩ : ∃ z : Int32, z = fp_16 0 48 := ⟨_, rfl⟩
    have q_3 : 0 ≤ v_2.toInt ∧ v_2.toInt ≤ 19 := by rw [ev_2]; exact hI 0 48
    have q_4 : (fp_16 0 48).toInt = v_2.toInt := by rw [ev_2]
    obtain ⟨v_5, ev_5⟩ : ∃ z : Int32, z = fp_16 0 49 := ⟨_, rfl⟩
    have q_6 : 0 ≤ v_5.toInt ∧ v_5.toInt ≤ 7 := by rw [ev_5]; exact hI 0 49
    have q_7 : (fp_16 0 49).toInt = v_5.toInt := by rw [ev_5]
    have m_8 : fp_16 0 49 = 7 := (hF 0 49 (by decide)).trans hf_0_49
    refine lv_aload_n hx hb dX12_setsAs_16 rfl (lv_at hl 0 rfl) ?_
    refine lv_bipush (v := 20) hx hb dX12_setsAs_17 bp_20 ?_
    have c_9 : v_2 = 4 := Int32.toInt_inj.mp (by have k9 : (4 : Int32).toInt = 4 := ti_4; omega)
    have q_10 : (fp_16 0 48).toInt = 4 := (congrArg Int32.toInt (show fp_16 0 48 = 4 from (Eq.trans ev_2.symm c_9))).trans (by decide)
    refine sg_callv (va_runV (As := [.int 20]) (rest := []) ⟨hx, hb, hml, hown, hts⟩ (kX12_begins_20_f4 l D ca za h hh fp_16 L Q hI (Eq.trans ev_2.symm c_9) (by have k0 : (20 : Int32).toInt = 20 := ti_20; omega) H.size) (sl_c12_begins_0_0_0_0_12 hts ⟨Nat.le_of_ble_eq_true rfl, Nat.le_of_ble_eq_true rfl⟩) (sl_vM_0 hA hK hP hS hZ) rfl rfl hl.1 rfl (lv_room (Nat.le_of_ble_eq_true rfl)) dX12_setsAs_19 ⟨Nat.le_refl _, Nat.le_refl _⟩) hA hS (fun f_12 L_13 Q_14 H locs hq hP hS => ?_)
    obtain ⟨⟨hI, hk_f_12, eL9, eQ9⟩, p_15, u_16⟩ := hq
    rw [eL9, eQ9] at hP; clear eL9 eQ9
    have hF : sgK WkX12_setsAs_7_f4_f7 f f_12 := sgK.tr hF hk_f_12 (by decide +kernel)
    obtain ⟨v_17, ev_17⟩ : ∃ z : Int32, z = f_12 0 48 := ⟨_, rfl⟩
    have q_18 : 0 ≤ v_17.toInt ∧ v_17.toInt ≤ 19 := by rw [ev_17]; exact hI 0 48
    have q_19 : (f_12 0 48).toInt = v_17.toInt := (congrArg Int32.toInt (show f_12 0 48 = v_17 from ev_17.symm))
    refine lv_aload_n hx hb dX12_setsAs_22 rfl (lv_at hl 0 rfl) ?_
    refine lv_iconst (v := 0) hx hb dX12_setsAs_23 ic_0 ?_
    refine lv_iload_n hx hb dX12_setsAs_24 rfl (lv_at hl 1 rfl) ?_
    have c_21 : v_17 = 5 := Int32.toInt_inj.mp (by have k9 : (5 : Int32).toInt = 5 := ti_5; omega)
    have q_22 : (f_12 0 48).toInt = 5 := (congrArg Int32.toInt (show f_12 0 48 = 5 from (Eq.trans ev_17.symm c_21))).trans (by decide)
    refine sg_calli (va_runV (As := [.int 0, .int x1]) (rest := []) ⟨hx, hb, hml, hown, hts⟩ (kX12_setsAs_0_f5_f7 l D ca za h hh f_12 L Q hI x1 (Eq.trans ev_17.symm c_21) ((hk_f_12 0 49 (by decide)).trans m_8) (by have k0 : (0 : Int32).toInt = 0 := ti_0; omega) H.size) (sl_c12_setsAs_1_0_0_21_12 hts ⟨Nat.le_of_ble_eq_true rfl, Nat.le_of_ble_eq_true rfl⟩) (sl_vM_0 hA hK hP hS hZ) rfl rfl hl.1 rfl (lv_room (Nat.le_of_ble_eq_true rfl)) dX12_setsAs_25 ⟨Nat.le_refl _, Nat.le_refl _⟩) hA hS (fun r_27 f_24 L_25 Q_26 H locs hq hP hS => ?_)
    obtain ⟨⟨hI, hk_f_24, eL9, eQ9⟩, hq, p_28, u_29⟩ := hq
    rw [eL9, eQ9] at hP; clear eL9 eQ9
    have hF : sgK WkX12_setsAs_7_f4_f7 f f_24 := sgK.tr hF hk_f_24 (by decide +kernel)
    obtain ⟨v_30, ev_30⟩ : ∃ z : Int32, z = f_24 0 48 := ⟨_, rfl⟩
    have q_31 : 0 ≤ v_30.toInt ∧ v_30.toInt ≤ 19 := by rw [ev_30]; exact hI 0 48
    have q_32 : (f_24 0 48).toInt = v_30.toInt := (congrArg Int32.toInt (show f_24 0 48 = v_30 from ev_30.symm))
    have k_34 : (0 : Int32).toInt = 0 := by decide
    refine lv_iconst (v := 3) hx hb dX12_setsAs_28 ic_3 ?_
    refine lv_iadd hx hb dX12_setsAs_29 ?_
    refine lv_topi (fun v_35 ev_35 => ?_)
    exact hret _ _ _ _ (v_35) f_24 L Q dX12_setsAs_30 hP hS ⟨⟨hI, hF, rfl, rfl⟩, trivial, ⟨by omega, by omega⟩, (Eq.trans (Eq.symm (hs.trans ((spl_e ev_2 (spl_e ev_5 (spl_e u_16 (spl_e ev_17 (spl2_e u_29 (spl_e ev_30 (spl_e ev_35 rfl)))))))))) hsp)⟩
  refine lv_iload_n hx hb dX12_setsAs_0 rfl (lv_at hl 1 rfl) ?_
  refine lv_iconst (v := 1) hx hb dX12_setsAs_1 ic_1 ?_
  refine lv_icmp_eq (tgt := 16) hx hb dX12_setsAs_2 (by decide) (fun c => absurd c (by decide)) (fun c => ?_)
  refine lv_iload_n hx hb dX12_setsAs_5 rfl (lv_at hl 1 rfl) ?_
  refine lv_iconst (v := 4) hx hb dX12_setsAs_6 ic_4 ?_
  refine lv_icmp_eq (tgt := 16) hx hb dX12_setsAs_7 (by decide) (fun c => absurd c (by decide)) (fun c => ?_)
  refine lv_iload_n hx hb dX12_setsAs_10 rfl (lv_at hl 1 rfl) ?_
  refine lv_bipush (v := 7) hx hb dX12_setsAs_11 bp_7 ?_
  refine lv_icmp_ne (tgt := 31) hx hb dX12_setsAs_13 (by decide) (fun c => absurd c (by decide)) (fun c => ?_)
  exact blk_16 f _ _ _ hs (by have zz0_48 : (f 0 48).toInt = 4 := (congrArg Int32.toInt (show f 0 48 = 4 from hf_0_48)).trans (by decide); exact ⟨by omega, by omega⟩) (by have zz0_49 : (f 0 49).toInt = 7 := (congrArg Int32.toInt (show f 0 49 = 7 from hf_0_49)).trans (by decide); exact ⟨by omega, by omega⟩) hI hF hP hS (lv_sub hl [0, 2] rfl)

abbrev WkX12_sitsAs_4_f3_f7 : List (Nat × Nat × Option Nat) := [(0, 0, some 48), (21, 21, some 3), (21, 21, some 4), (21, 21, some 5)]
set_option maxHeartbeats 4000000 in
set_option maxRecDepth 100000 in
theorem kX12_sitsAs_4_f3_f7 (l : Launch) (D : va_G) (ca : Nat → ClassId) (za h : Nat → Nat) (hh : sgH 26 h) (f : sg_F) (L : sg_L) (Q : sg_Q) (hI : sgI loM hiM f) (x1 : Int32) (hf_0_48 : f 0 48 = 3) (hf_0_49 : f 0 49 = 7) (p0 : 3 ≤ (f 0 48).toInt ∧ (f 0 48).toInt ≤ 3) (sz : Nat) : Met l yX12_sitsAs gwX12_sitsAs { frames := 3, cells := 0, slots := 0, locals := 65 } (sgP D vwCl (tyX ca) 26 h (eM ca h) zcM za f L Q sz [.ref (h 0), .int 4, .int x1]) (sgQi D vwCl 26 h (eM ca h) sz (fun r f1 L1 Q1 => ((sgI loM hiM f1 ∧ sgK WkX12_sitsAs_4_f3_f7 f f1 ∧ L1 = L ∧ Q1 = Q) ∧ True ∧ (6 ≤ (f1 0 48).toInt ∧ (f1 0 48).toInt ≤ 6) ∧ (r, f1) = sX12_sitsAs_4_f3_f7 x1 f L))) 0 0 (sgA 26 h sz) := by
  refine sg_ofWi (cc := cX12_sitsAs) (maxL := 4) RX12 (by decide) rfl rfl (Nat.le_of_ble_eq_true rfl) ?_
  intro p e s m below meth cd Qz ls hx hb hml hown hts hK hZ hP hS hl hret
  have hA := sgY.self (n := 26) (h := h) (sz := s.heap.size)
  have hl : lv_has ls 4 [(0, .ref (h 0)), (1, .int 4), (2, .int x1)] := hl
  obtain ⟨H, hH⟩ : ∃ z : Heap, z = s.heap := ⟨_, rfl⟩
  obtain ⟨locs, hlo⟩ : ∃ z : List Loc, z = [] := ⟨_, rfl⟩
  have hP : va_P D vwCl (sgw 26 h (eM ca h) f L Q) H := by rw [hH]; exact hP
  have hS : va_S (sgA 26 h s.heap.size) s.heap H locs := by rw [hH, hlo]; exact hS
  suffices hgo : W p l e ({ frames := 3, cells := 0, slots := 0, locals := 65 }) s m ([.ref (h 0), .int 4, .int x1] : List Value).toArray below meth cd H locs 0 0 Qz (F0 m 0 ls []) by rw [hH, hlo] at hgo; exact hgo
  clear hH hlo
  obtain ⟨sp, hsp⟩ : ∃ z : Int32 × sg_F, z = sX12_sitsAs_4_f3_f7 x1 f L := ⟨_, rfl⟩
  have hs : sp = sX12_sitsAs_4_f3_f7 x1 f L := hsp
  have o_1 : (f 0 48).toInt = 3 := (congrArg Int32.toInt (show f 0 48 = 3 from hf_0_48)).trans (by decide)
  have hF : sgK WkX12_sitsAs_4_f3_f7 f f := sgK.rf
  refine lv_iload_n hx hb dX12_sitsAs_0 rfl (lv_at hl 1 rfl) ?_
  refine lv_iconst (v := 3) hx hb dX12_sitsAs_1 ic_3 ?_
  refine lv_icmp_eq (tgt := 10) hx hb dX12_sitsAs_2 (by decide) (fun c => absurd c (by decide)) (fun c => ?_)
  refine lv_iload_n hx hb dX12_sitsAs_5 rfl (lv_at hl 1 rfl) ?_
  refine lv_iconst (v := 5) hx hb dX12_sitsAs_6 ic_5 ?_
  refine lv_icmp_ne (tgt := 25) hx hb dX12_sitsAs_7 (by decide) (fun c => ?_) (fun c => absurd c (by decide))
  refine lv_iload_n hx hb dX12_sitsAs_25 rfl (lv_at hl 1 rfl) ?_
  refine lv_iconst (v := 2) hx hb dX12_sitsAs_26 ic_2 ?_
  refine lv_icmp_ne (tgt := 44) hx hb dX12_sitsAs_27 (by decide) (fun c => ?_) (fun c => absurd c (by decide))
  refine lv_iload_n hx hb dX12_sitsAs_44 rfl (lv_at hl 1 rfl) ?_
  refine lv_bipush (v := 7) hx hb dX12_sitsAs_45 bp_7 ?_
  refine lv_icmp_ne (tgt := 75) hx hb dX12_sitsAs_47 (by decide) (fun c => ?_) (fun c => absurd c (by decide))
  refine lv_aload_n hx hb dX12_sitsAs_75 rfl (lv_at hl 0 rfl) ?_
  refine lv_bipush (v := 10) hx hb dX12_sitsAs_76 bp_10 ?_
  have q_2 : (f 0 48).toInt = 3 := (congrArg Int32.toInt (show f 0 48 = 3 from hf_0_48)).trans (by decide)
  refine sg_callv (va_runV (As := [.int 10]) (rest := []) ⟨hx, hb, hml, hown, hts⟩ (kX12_begins_10_f3 l D ca za h hh f L Q hI hf_0_48 (by have k0 : (10 : Int32).toInt = 10 := ti_10; omega) H.size) (sl_c12_begins_0_0_0_0_12 hts ⟨Nat.le_of_ble_eq_true rfl, Nat.le_of_ble_eq_true rfl⟩) (sl_vM_0 hA hK hP hS hZ) rfl rfl hl.1 rfl (lv_room (Nat.le_of_ble_eq_true rfl)) dX12_sitsAs_78 ⟨Nat.le_refl _, Nat.le_refl _⟩) hA hS (fun f_4 L_5 Q_6 H locs hq hP hS => ?_)
  obtain ⟨⟨hI, hk_f_4, eL9, eQ9⟩, p_7, u_8⟩ := hq
  rw [eL9, eQ9] at hP; clear eL9 eQ9
  have hF : sgK WkX12_sitsAs_4_f3_f7 f f_4 := sgK.tr hF hk_f_4 (by decide +kernel)
  obtain ⟨v_9, ev_9⟩ : ∃ z : Int32, z = f_4 0 48 := ⟨_, rfl⟩
  have q_10 : 0 ≤ v_9.toInt ∧ v_9.toInt ≤ 19 := by rw [ev_9]; exact hI 0 48
  have q_11 : (f_4 0 48).toInt = v_9.toInt := (congrArg Int32.toInt (show f_4 0 48 = v_9 from ev_9.symm))
  refine lv_aload_n hx hb dX12_sitsAs_81 rfl (lv_at hl 0 rfl) ?_
  refine lv_aload_n hx hb dX12_sitsAs_82 rfl (lv_at hl 0 rfl) ?_
  refine sl_gM_0_49_12 (v := 7) hx hb hts hown hK hP (show f_4 0 49 = 7 from ((hk_f_4 0 49 (by decide)).trans hf_0_49)) dX12_sitsAs_83 ?_
  refine lv_iload_n hx hb dX12_sitsAs_86 rfl (lv_at hl 2 rfl) ?_
  have c_13 : v_9 = 4 := Int32.toInt_inj.mp (by have k9 : (4 : Int32).toInt = 4 := ti_4; omega)
  have q_14 : (f_4 0 48).toInt = 4 := (congrArg Int32.toInt (show f_4 0 48 = 4 from (Eq.trans ev_9.symm c_13))).trans (by decide)
  refine sg_calli (va_runV (As := [.int 7, .int x1]) (rest := []) ⟨hx, hb, hml, hown, hts⟩ (kX12_setsAs_7_f4_f7 l D ca za h hh f_4 L Q hI x1 (Eq.trans ev_9.symm c_13) ((hk_f_4 0 49 (by decide)).trans hf_0_49) (by have k0 : (7 : Int32).toInt = 7 := ti_7; omega) H.size) (sl_c12_setsAs_2_0_0_43_12 hts ⟨Nat.le_of_ble_eq_true rfl, Nat.le_of_ble_eq_true rfl⟩) (sl_vM_0 hA hK hP hS hZ) rfl rfl hl.1 rfl (lv_room (Nat.le_of_ble_eq_true rfl)) dX12_sitsAs_87 ⟨Nat.le_refl _, Nat.le_refl _⟩) hA hS (fun r_19 f_16 L_17 Q_18 H locs hq hP hS => ?_)
  obtain ⟨⟨hI, hk_f_16, eL9, eQ9⟩, hq, p_20, u_21⟩ := hq
  rw [eL9, eQ9] at hP; clear eL9 eQ9
  have hF : sgK WkX12_sitsAs_4_f3_f7 f f_16 := sgK.tr hF hk_f_16 (by decide +kernel)
  obtain ⟨v_22, ev_22⟩ : ∃ z : Int32, z = f_16 0 48 := ⟨_, rfl⟩
  have q_23 : 0 ≤ v_22.toInt ∧ v_22.toInt ≤ 19 := by rw [ev_22]; exact hI 0 48
  have q_24 : (f_16 0 48).toInt = v_22.toInt := (congrArg Int32.toInt (show f_16 0 48 = v_22 from ev_22.symm))
  have k_26 : (7 : Int32).toInt = 7 := by decide
  refine lv_iconst (v := 2) hx hb dX12_sitsAs_90 ic_2 ?_
  refine lv_imul hx hb dX12_sitsAs_91 ?_
  refine lv_topi (fun v_27 ev_27 => ?_)
  exact hret _ _ _ _ (v_27) f_16 L Q dX12_sitsAs_92 hP hS ⟨⟨hI, hF, rfl, rfl⟩, trivial, ⟨by omega, by omega⟩, (Eq.trans (Eq.symm (hs.trans ((spl_e u_8 (spl_e ev_9 (spl2_e u_21 (spl_e ev_22 (spl_e ev_27 rfl)))))))) hsp)⟩

abbrev WkX12_begins_50_f6 : List (Nat × Nat × Option Nat) := [(0, 0, some 48), (21, 21, some 6)]
set_option maxHeartbeats 4000000 in
set_option maxRecDepth 100000 in
theorem kX12_begins_50_f6 (l : Launch) (D : va_G) (ca : Nat → ClassId) (za h : Nat → Nat) (hh : sgH 26 h) (f : sg_F) (L : sg_L) (Q : sg_Q) (hI : sgI loM hiM f) (hf_0_48 : f 0 48 = 6) (p0 : 6 ≤ (f 0 48).toInt ∧ (f 0 48).toInt ≤ 6) (sz : Nat) : Met l yX12_begins gwX12_begins { frames := 0, cells := 0, slots := 0, locals := 0 } (sgP D vwCl (tyX ca) 26 h (eM ca h) zcM za f L Q sz [.ref (h 0), .int 50]) (sgQv D vwCl 26 h (eM ca h) sz (fun f1 L1 Q1 => ((sgI loM hiM f1 ∧ sgK WkX12_begins_50_f6 f f1 ∧ L1 = L ∧ Q1 = Q) ∧ (7 ≤ (f1 0 48).toInt ∧ (f1 0 48).toInt ≤ 7) ∧ (f1) = sX12_begins_50_f6 f L))) 0 0 (sgA 26 h sz) := by
  refine sg_ofWv (cc := cX12_begins) (maxL := 2) RX12 (by decide) rfl rfl (Nat.le_of_ble_eq_true rfl) ?_
  intro p e s m below meth cd Qz ls hx hb hml hown hts hK hZ hP hS hl hret
  have hA := sgY.self (n := 26) (h := h) (sz := s.heap.size)
  have hl : lv_has ls 2 [(0, .ref (h 0)), (1, .int 50)] := hl
  obtain ⟨H, hH⟩ : ∃ z : Heap, z = s.heap := ⟨_, rfl⟩
  obtain ⟨locs, hlo⟩ : ∃ z : List Loc, z = [] := ⟨_, rfl⟩
  have hP : va_P D vwCl (sgw 26 h (eM ca h) f L Q) H := by rw [hH]; exact hP
  have hS : va_S (sgA 26 h s.heap.size) s.heap H locs := by rw [hH, hlo]; exact hS
  suffices hgo : W p l e ({ frames := 0, cells := 0, slots := 0, locals := 0 }) s m ([.ref (h 0), .int 50] : List Value).toArray below meth cd H locs 0 0 Qz (F0 m 0 ls []) by rw [hH, hlo] at hgo; exact hgo
  clear hH hlo
  obtain ⟨sp, hsp⟩ : ∃ z : sg_F, z = sX12_begins_50_f6 f L := ⟨_, rfl⟩
  have hs : sp = sX12_begins_50_f6 f L := hsp
  have o_1 : (f 0 48).toInt = 6 := (congrArg Int32.toInt (show f 0 48 = 6 from hf_0_48)).trans (by decide)
  have hF : sgK WkX12_begins_50_f6 f f := sgK.rf
  have blk_19 : ∀ (fp_19 : sg_F) (H : Heap) (locs : List Loc) (ls : Array Slot), sp = sX12_begins_50_f6_b19 fp_19 L → 6 ≤ (fp_19 0 48).toInt ∧ (fp_19 0 48).toInt ≤ 6 → sgI loM hiM fp_19 → sgK WkX12_begins_50_f6 f fp_19 → va_P D vwCl (sgw 26 h (eM ca h) fp_19 L Q) H → va_S (sgA 26 h s.heap.size) s.heap H locs → lv_has ls 2 [(0, .ref (h 0))] → W p l e ({ frames := 0, cells := 0, slots := 0, locals := 0 }) s m ([.ref (h 0), .int 50] : List Value).toArray below meth cd H locs 0 0 Qz (F0 m 19 ls []) := by
    intro fp_19 H locs ls hs hy0_19 hI hF hP hS hl
    obtain ⟨v_2, ev_2⟩ : ∃ z : Int32, z = fp_19 0 48 := ⟨_, rfl⟩
    have q_3 : 0 ≤ v_2.toInt ∧ v_2.toInt ≤ 19 := by rw [ev_2]; exact hI 0 48
    have q_4 : (fp_19 0 48).toInt = v_2.toInt := by rw [ev_2]
    refine lv_aload_n hx hb dX12_begins_19 rfl (lv_at hl 0 rfl) ?_
    refine lv_dup hx hb dX12_begins_20 rfl ?_
    refine sl_gM_0_48_12 (v := v_2) hx hb hts hown hK hP (show fp_19 0 48 = v_2 from ev_2.symm) dX12_begins_21 ?_
    refine lv_iconst (v := 1) hx hb dX12_begins_24 ic_1 ?_
    refine lv_iadd hx hb dX12_begins_25 ?_
    refine lv_topi (fun v_5 ev_5 => ?_)
    have q_6 : v_5.toInt = v_2.toInt + 1 := by rw [ev_5]; first | exact cm_add ti_1 (by omega) (by omega) | (have k1 : (1 : Int32).toInt = 1 := ti_1; exact (bn_addI (by omega) (by omega)).trans (by omega))
    refine sl_pM_0_48_12 (x := v_5) hx hb hts hown hh hA hK hP hS dX12_begins_26 (fun f_7 H locs ef_7 hP hS => ?_)
    have hI : sgI loM hiM f_7 := by rw [ef_7]; exact sgI.put hI 0 48 (show 0 ≤ (v_5 : Int32).toInt ∧ (v_5 : Int32).toInt ≤ 19 from ⟨by omega, by omega⟩)
    have hF : sgK WkX12_begins_50_f6 f f_7 := sgK.put hF ef_7 (by rfl)
    have q_8 : (f_7 0 48).toInt = v_5.toInt := (congrArg Int32.toInt (show f_7 0 48 = v_5 from (by rw [ef_7, sg_up_s, sgu_s])))
    exact hret _ _ _ _ f_7 L Q dX12_begins_29 hP hS ⟨⟨hI, hF, rfl, rfl⟩, ⟨by omega, by omega⟩, (Eq.trans (Eq.symm (hs.trans ((spl_e ev_2 (spl_e ev_5 (spl_e ef_7 rfl)))))) hsp)⟩
  refine lv_aload_n hx hb dX12_begins_0 rfl (lv_at hl 0 rfl) ?_
  refine sl_gM_0_48_12 (v := 6) hx hb hts hown hK hP (show f 0 48 = 6 from hf_0_48) dX12_begins_1 ?_
  refine lv_bipush (v := 24) hx hb dX12_begins_4 bp_24 ?_
  refine lv_icmp_ge (tgt := 19) hx hb dX12_begins_6 (by decide) (fun c => absurd c (by decide)) (fun c => ?_)
  refine lv_aload_n hx hb dX12_begins_9 rfl (lv_at hl 0 rfl) ?_
  refine sl_gM_0_47_12 hx hb hts hown hK hP dX12_begins_10 ?_
  refine lv_aload_n hx hb dX12_begins_13 rfl (lv_at hl 0 rfl) ?_
  refine sl_gM_0_48_12 (v := 6) hx hb hts hown hK hP (show f 0 48 = 6 from hf_0_48) dX12_begins_14 ?_
  refine lv_iload_n hx hb dX12_begins_17 rfl (lv_at hl 1 rfl) ?_
  refine sg_iast hx hb hh hA hK hP hS 21 (by decide) 0 (fun _ => rfl) rfl (i := 6) (x := 50) (vp_in_iff.mpr (by decide)) dX12_begins_18 (fun f_10 H locs ef_10 hP hS => ?_)
  have ef_10 : f_10 = sg_up f 21 (sgu (f 21) 6 50) := ef_10
  have hI : sgI loM hiM f_10 := by rw [ef_10]; exact sgI.put hI 21 6 (show 0 ≤ (50 : Int32).toInt ∧ (50 : Int32).toInt ≤ 81 from by decide)
  have hF : sgK WkX12_begins_50_f6 f f_10 := sgK.put hF ef_10 (by rfl)
  exact blk_19 f_10 _ _ _ (hs.trans ((spl_e ef_10 rfl))) (by have zz0_48 : (f_10 0 48).toInt = 6 := (congrArg Int32.toInt (show f_10 0 48 = 6 from (by rw [ef_10, sg_up_n (by decide)]; exact hf_0_48))).trans (by decide); exact ⟨by omega, by omega⟩) hI hF hP hS (lv_sub hl [0] rfl)

abbrev WkX12_slipsAs_1_f7_f7 : List (Nat × Nat × Option Nat) := [(0, 0, some 48), (21, 21, some 7)]
set_option maxHeartbeats 4000000 in
set_option maxRecDepth 100000 in
theorem kX12_slipsAs_1_f7_f7 (l : Launch) (D : va_G) (ca : Nat → ClassId) (za h : Nat → Nat) (hh : sgH 26 h) (f : sg_F) (L : sg_L) (Q : sg_Q) (hI : sgI loM hiM f) (x1 : Int32) (hf_0_48 : f 0 48 = 7) (hf_0_49 : f 0 49 = 7) (b1 : 2 ≤ x1.toInt ∧ x1.toInt ≤ 2) (p0 : 7 ≤ (f 0 48).toInt ∧ (f 0 48).toInt ≤ 7) (sz : Nat) : Met l yX12_slipsAs gwX12_slipsAs { frames := 1, cells := 0, slots := 0, locals := 21 } (sgP D vwCl (tyX ca) 26 h (eM ca h) zcM za f L Q sz [.ref (h 0), .int 1, .int x1]) (sgQi D vwCl 26 h (eM ca h) sz (fun r f1 L1 Q1 => ((sgI loM hiM f1 ∧ sgK WkX12_slipsAs_1_f7_f7 f f1 ∧ L1 = L ∧ Q1 = Q) ∧ True ∧ (8 ≤ (f1 0 48).toInt ∧ (f1 0 48).toInt ≤ 8) ∧ (r, f1) = sX12_slipsAs_1_f7_f7 x1 f L))) 0 0 (sgA 26 h sz) := by
  refine sg_ofWi (cc := cX12_slipsAs) (maxL := 4) RX12 (by decide) rfl rfl (Nat.le_of_ble_eq_true rfl) ?_
  intro p e s m below meth cd Qz ls hx hb hml hown hts hK hZ hP hS hl hret
  have hA := sgY.self (n := 26) (h := h) (sz := s.heap.size)
  have hl : lv_has ls 4 [(0, .ref (h 0)), (1, .int 1), (2, .int x1)] := hl
  obtain ⟨H, hH⟩ : ∃ z : Heap, z = s.heap := ⟨_, rfl⟩
  obtain ⟨locs, hlo⟩ : ∃ z : List Loc, z = [] := ⟨_, rfl⟩
  have hP : va_P D vwCl (sgw 26 h (eM ca h) f L Q) H := by rw [hH]; exact hP
  have hS : va_S (sgA 26 h s.heap.size) s.heap H locs := by rw [hH, hlo]; exact hS
  suffices hgo : W p l e ({ frames := 1, cells := 0, slots := 0, locals := 21 }) s m ([.ref (h 0), .int 1, .int x1] : List Value).toArray below meth cd H locs 0 0 Qz (F0 m 0 ls []) by rw [hH, hlo] at hgo; exact hgo
  clear hH hlo
  obtain ⟨sp, hsp⟩ : ∃ z : Int32 × sg_F, z = sX12_slipsAs_1_f7_f7 x1 f L := ⟨_, rfl⟩
  have hs : sp = sX12_slipsAs_1_f7_f7 x1 f L := hsp
  have o_1 : (f 0 48).toInt = 7 := (congrArg Int32.toInt (show f 0 48 = 7 from hf_0_48)).trans (by decide)
  have hF : sgK WkX12_slipsAs_1_f7_f7 f f := sgK.rf
  refine lv_iload_n hx hb dX12_slipsAs_0 rfl (lv_at hl 1 rfl) ?_
  refine lv_iconst (v := 3) hx hb dX12_slipsAs_1 ic_3 ?_
  refine lv_icmp_eq (tgt := 10) hx hb dX12_slipsAs_2 (by decide) (fun c => absurd c (by decide)) (fun c => ?_)
  refine lv_iload_n hx hb dX12_slipsAs_5 rfl (lv_at hl 1 rfl) ?_
  refine lv_iconst (v := 5) hx hb dX12_slipsAs_6 ic_5 ?_
  refine lv_icmp_ne (tgt := 25) hx hb dX12_slipsAs_7 (by decide) (fun c => ?_) (fun c => absurd c (by decide))
  refine lv_iload_n hx hb dX12_slipsAs_25 rfl (lv_at hl 1 rfl) ?_
  refine lv_iconst (v := 4) hx hb dX12_slipsAs_26 ic_4 ?_
  refine lv_icmp_eq (tgt := 36) hx hb dX12_slipsAs_27 (by decide) (fun c => absurd c (by decide)) (fun c => ?_)
  refine lv_iload_n hx hb dX12_slipsAs_30 rfl (lv_at hl 1 rfl) ?_
  refine lv_bipush (v := 7) hx hb dX12_slipsAs_31 bp_7 ?_
  refine lv_icmp_ne (tgt := 61) hx hb dX12_slipsAs_33 (by decide) (fun c => ?_) (fun c => absurd c (by decide))
  refine lv_aload_n hx hb dX12_slipsAs_61 rfl (lv_at hl 0 rfl) ?_
  refine lv_bipush (v := 11) hx hb dX12_slipsAs_62 bp_11 ?_
  have q_2 : (f 0 48).toInt = 7 := (congrArg Int32.toInt (show f 0 48 = 7 from hf_0_48)).trans (by decide)
  refine sg_callv (va_runV (As := [.int 11]) (rest := []) ⟨hx, hb, hml, hown, hts⟩ (kX12_begins_11_f7 l D ca za h hh f L Q hI hf_0_48 (by have k0 : (11 : Int32).toInt = 11 := ti_11; omega) H.size) (sl_c12_begins_0_0_0_0_12 hts ⟨Nat.le_of_ble_eq_true rfl, Nat.le_of_ble_eq_true rfl⟩) (sl_vM_0 hA hK hP hS hZ) rfl rfl hl.1 rfl (lv_room (Nat.le_of_ble_eq_true rfl)) dX12_slipsAs_64 ⟨Nat.le_refl _, Nat.le_refl _⟩) hA hS (fun f_4 L_5 Q_6 H locs hq hP hS => ?_)
  obtain ⟨⟨hI, hk_f_4, eL9, eQ9⟩, p_7, u_8⟩ := hq
  rw [eL9, eQ9] at hP; clear eL9 eQ9
  have hF : sgK WkX12_slipsAs_1_f7_f7 f f_4 := sgK.tr hF hk_f_4 (by decide +kernel)
  obtain ⟨v_9, ev_9⟩ : ∃ z : Int32, z = f_4 0 48 := ⟨_, rfl⟩
  have q_10 : 0 ≤ v_9.toInt ∧ v_9.toInt ≤ 19 := by rw [ev_9]; exact hI 0 48
  have q_11 : (f_4 0 48).toInt = v_9.toInt := (congrArg Int32.toInt (show f_4 0 48 = v_9 from ev_9.symm))
  refine lv_iload_n hx hb dX12_slipsAs_67 rfl (lv_at hl 2 rfl) ?_
  refine lv_aload_n hx hb dX12_slipsAs_68 rfl (lv_at hl 0 rfl) ?_
  refine sl_gM_0_50_12 (v := (f_4 0 50)) hx hb hts hown hK hP rfl dX12_slipsAs_69 ?_
  refine lv_topi (fun v_13 ev_13 => ?_)
  have q_14 : 0 ≤ v_13.toInt ∧ v_13.toInt ≤ 49 := by rw [ev_13]; exact hI 0 50
  refine lv_ixor hx hb dX12_slipsAs_72 ?_
  refine lv_topi (fun v_15 ev_15 => ?_)
  exact hret _ _ _ _ (v_15) f_4 L Q dX12_slipsAs_73 hP hS ⟨⟨hI, hF, rfl, rfl⟩, trivial, ⟨by omega, by omega⟩, (Eq.trans (Eq.symm (hs.trans ((spl_e u_8 (spl_e ev_9 (spl_e ev_13 (spl_e ev_15 rfl))))))) hsp)⟩

abbrev WkX12_begins_20_f8 : List (Nat × Nat × Option Nat) := [(0, 0, some 48), (21, 21, some 8)]
set_option maxHeartbeats 4000000 in
set_option maxRecDepth 100000 in
theorem kX12_begins_20_f8 (l : Launch) (D : va_G) (ca : Nat → ClassId) (za h : Nat → Nat) (hh : sgH 26 h) (f : sg_F) (L : sg_L) (Q : sg_Q) (hI : sgI loM hiM f) (hf_0_48 : f 0 48 = 8) (p0 : 8 ≤ (f 0 48).toInt ∧ (f 0 48).toInt ≤ 8) (sz : Nat) : Met l yX12_begins gwX12_begins { frames := 0, cells := 0, slots := 0, locals := 0 } (sgP D vwCl (tyX ca) 26 h (eM ca h) zcM za f L Q sz [.ref (h 0), .int 20]) (sgQv D vwCl 26 h (eM ca h) sz (fun f1 L1 Q1 => ((sgI loM hiM f1 ∧ sgK WkX12_begins_20_f8 f f1 ∧ L1 = L ∧ Q1 = Q) ∧ (9 ≤ (f1 0 48).toInt ∧ (f1 0 48).toInt ≤ 9) ∧ (f1) = sX12_begins_20_f8 f L))) 0 0 (sgA 26 h sz) := by
  refine sg_ofWv (cc := cX12_begins) (maxL := 2) RX12 (by decide) rfl rfl (Nat.le_of_ble_eq_true rfl) ?_
  intro p e s m below meth cd Qz ls hx hb hml hown hts hK hZ hP hS hl hret
  have hA := sgY.self (n := 26) (h := h) (sz := s.heap.size)
  have hl : lv_has ls 2 [(0, .ref (h 0)), (1, .int 20)] := hl
  obtain ⟨H, hH⟩ : ∃ z : Heap, z = s.heap := ⟨_, rfl⟩
  obtain ⟨locs, hlo⟩ : ∃ z : List Loc, z = [] := ⟨_, rfl⟩
  have hP : va_P D vwCl (sgw 26 h (eM ca h) f L Q) H := by rw [hH]; exact hP
  have hS : va_S (sgA 26 h s.heap.size) s.heap H locs := by rw [hH, hlo]; exact hS
  suffices hgo : W p l e ({ frames := 0, cells := 0, slots := 0, locals := 0 }) s m ([.ref (h 0), .int 20] : List Value).toArray below meth cd H locs 0 0 Qz (F0 m 0 ls []) by rw [hH, hlo] at hgo; exact hgo
  clear hH hlo
  obtain ⟨sp, hsp⟩ : ∃ z : sg_F, z = sX12_begins_20_f8 f L := ⟨_, rfl⟩
  have hs : sp = sX12_begins_20_f8 f L := hsp
  have o_1 : (f 0 48).toInt = 8 := (congrArg Int32.toInt (show f 0 48 = 8 from hf_0_48)).trans (by decide)
  have hF : sgK WkX12_begins_20_f8 f f := sgK.rf
  have blk_19 : ∀ (fp_19 : sg_F) (H : Heap) (locs : List Loc) (ls : Array Slot), sp = sX12_begins_20_f8_b19 fp_19 L → 8 ≤ (fp_19 0 48).toInt ∧ (fp_19 0 48).toInt ≤ 8 → sgI loM hiM fp_19 → sgK WkX12_begins_20_f8 f fp_19 → va_P D vwCl (sgw 26 h (eM ca h) fp_19 L Q) H → va_S (sgA 26 h s.heap.size) s.heap H locs → lv_has ls 2 [(0, .ref (h 0))] → W p l e ({ frames := 0, cells := 0, slots := 0, locals := 0 }) s m ([.ref (h 0), .int 20] : List Value).toArray below meth cd H locs 0 0 Qz (F0 m 19 ls []) := by
    intro fp_19 H locs ls hs hy0_19 hI hF hP hS hl
    obtain ⟨v_2, ev_2⟩ : ∃ z : Int32, z = fp_19 0 48 := ⟨_, rfl⟩
    have q_3 : 0 ≤ v_2.toInt ∧ v_2.toInt ≤ 19 := by rw [ev_2]; exact hI 0 48
    have q_4 : (fp_19 0 48).toInt = v_2.toInt := by rw [ev_2]
    refine lv_aload_n hx hb dX12_begins_19 rfl (lv_at hl 0 rfl) ?_
    refine lv_dup hx hb dX12_begins_20 rfl ?_
    refine sl_gM_0_48_12 (v := v_2) hx hb hts hown hK hP (show fp_19 0 48 = v_2 from ev_2.symm) dX12_begins_21 ?_
    refine lv_iconst (v := 1) hx hb dX12_begins_24 ic_1 ?_
    refine lv_iadd hx hb dX12_begins_25 ?_
    refine lv_topi (fun v_5 ev_5 => ?_)
    have q_6 : v_5.toInt = v_2.toInt + 1 := by rw [ev_5]; first | exact cm_add ti_1 (by omega) (by omega) | (have k1 : (1 : Int32).toInt = 1 := ti_1; exact (bn_addI (by omega) (by omega)).trans (by omega))
    refine sl_pM_0_48_12 (x := v_5) hx hb hts hown hh hA hK hP hS dX12_begins_26 (fun f_7 H locs ef_7 hP hS => ?_)
    have hI : sgI loM hiM f_7 := by rw [ef_7]; exact sgI.put hI 0 48 (show 0 ≤ (v_5 : Int32).toInt ∧ (v_5 : Int32).toInt ≤ 19 from ⟨by omega, by omega⟩)
    have hF : sgK WkX12_begins_20_f8 f f_7 := sgK.put hF ef_7 (by rfl)
    have q_8 : (f_7 0 48).toInt = v_5.toInt := (congrArg Int32.toInt (show f_7 0 48 = v_5 from (by rw [ef_7, sg_up_s, sgu_s])))
    exact hret _ _ _ _ f_7 L Q dX12_begins_29 hP hS ⟨⟨hI, hF, rfl, rfl⟩, ⟨by omega, by omega⟩, (Eq.trans (Eq.symm (hs.trans ((spl_e ev_2 (spl_e ev_5 (spl_e ef_7 rfl)))))) hsp)⟩
  refine lv_aload_n hx hb dX12_begins_0 rfl (lv_at hl 0 rfl) ?_
  refine sl_gM_0_48_12 (v := 8) hx hb hts hown hK hP (show f 0 48 = 8 from hf_0_48) dX12_begins_1 ?_
  refine lv_bipush (v := 24) hx hb dX12_begins_4 bp_24 ?_
  refine lv_icmp_ge (tgt := 19) hx hb dX12_begins_6 (by decide) (fun c => absurd c (by decide)) (fun c => ?_)
  refine lv_aload_n hx hb dX12_begins_9 rfl (lv_at hl 0 rfl) ?_
  refine sl_gM_0_47_12 hx hb hts hown hK hP dX12_begins_10 ?_
  refine lv_aload_n hx hb dX12_begins_13 rfl (lv_at hl 0 rfl) ?_
  refine sl_gM_0_48_12 (v := 8) hx hb hts hown hK hP (show f 0 48 = 8 from hf_0_48) dX12_begins_14 ?_
  refine lv_iload_n hx hb dX12_begins_17 rfl (lv_at hl 1 rfl) ?_
  refine sg_iast hx hb hh hA hK hP hS 21 (by decide) 0 (fun _ => rfl) rfl (i := 8) (x := 20) (vp_in_iff.mpr (by decide)) dX12_begins_18 (fun f_10 H locs ef_10 hP hS => ?_)
  have ef_10 : f_10 = sg_up f 21 (sgu (f 21) 8 20) := ef_10
  have hI : sgI loM hiM f_10 := by rw [ef_10]; exact sgI.put hI 21 8 (show 0 ≤ (20 : Int32).toInt ∧ (20 : Int32).toInt ≤ 81 from by decide)
  have hF : sgK WkX12_begins_20_f8 f f_10 := sgK.put hF ef_10 (by rfl)
  exact blk_19 f_10 _ _ _ (hs.trans ((spl_e ef_10 rfl))) (by have zz0_48 : (f_10 0 48).toInt = 8 := (congrArg Int32.toInt (show f_10 0 48 = 8 from (by rw [ef_10, sg_up_n (by decide)]; exact hf_0_48))).trans (by decide); exact ⟨by omega, by omega⟩) hI hF hP hS (lv_sub hl [0] rfl)

abbrev WkX12_begins_1_f9 : List (Nat × Nat × Option Nat) := [(0, 0, some 48), (21, 21, some 9)]
set_option maxHeartbeats 4000000 in
set_option maxRecDepth 100000 in
theorem kX12_begins_1_f9 (l : Launch) (D : va_G) (ca : Nat → ClassId) (za h : Nat → Nat) (hh : sgH 26 h) (f : sg_F) (L : sg_L) (Q : sg_Q) (hI : sgI loM hiM f) (hf_0_48 : f 0 48 = 9) (p0 : 9 ≤ (f 0 48).toInt ∧ (f 0 48).toInt ≤ 9) (sz : Nat) : Met l yX12_begins gwX12_begins { frames := 0, cells := 0, slots := 0, locals := 0 } (sgP D vwCl (tyX ca) 26 h (eM ca h) zcM za f L Q sz [.ref (h 0), .int 1]) (sgQv D vwCl 26 h (eM ca h) sz (fun f1 L1 Q1 => ((sgI loM hiM f1 ∧ sgK WkX12_begins_1_f9 f f1 ∧ L1 = L ∧ Q1 = Q) ∧ (10 ≤ (f1 0 48).toInt ∧ (f1 0 48).toInt ≤ 10) ∧ (f1) = sX12_begins_1_f9 f L))) 0 0 (sgA 26 h sz) := by
  refine sg_ofWv (cc := cX12_begins) (maxL := 2) RX12 (by decide) rfl rfl (Nat.le_of_ble_eq_true rfl) ?_
  intro p e s m below meth cd Qz ls hx hb hml hown hts hK hZ hP hS hl hret
  have hA := sgY.self (n := 26) (h := h) (sz := s.heap.size)
  have hl : lv_has ls 2 [(0, .ref (h 0)), (1, .int 1)] := hl
  obtain ⟨H, hH⟩ : ∃ z : Heap, z = s.heap := ⟨_, rfl⟩
  obtain ⟨locs, hlo⟩ : ∃ z : List Loc, z = [] := ⟨_, rfl⟩
  have hP : va_P D vwCl (sgw 26 h (eM ca h) f L Q) H := by rw [hH]; exact hP
  have hS : va_S (sgA 26 h s.heap.size) s.heap H locs := by rw [hH, hlo]; exact hS
  suffices hgo : W p l e ({ frames := 0, cells := 0, slots := 0, locals := 0 }) s m ([.ref (h 0), .int 1] : List Value).toArray below meth cd H locs 0 0 Qz (F0 m 0 ls []) by rw [hH, hlo] at hgo; exact hgo
  clear hH hlo
  obtain ⟨sp, hsp⟩ : ∃ z : sg_F, z = sX12_begins_1_f9 f L := ⟨_, rfl⟩
  have hs : sp = sX12_begins_1_f9 f L := hsp
  have o_1 : (f 0 48).toInt = 9 := (congrArg Int32.toInt (show f 0 48 = 9 from hf_0_48)).trans (by decide)
  have hF : sgK WkX12_begins_1_f9 f f := sgK.rf
  have blk_19 : ∀ (fp_19 : sg_F) (H : Heap) (locs : List Loc) (ls : Array Slot), sp = sX12_begins_1_f9_b19 fp_19 L → 9 ≤ (fp_19 0 48).toInt ∧ (fp_19 0 48).toInt ≤ 9 → sgI loM hiM fp_19 → sgK WkX12_begins_1_f9 f fp_19 → va_P D vwCl (sgw 26 h (eM ca h) fp_19 L Q) H → va_S (sgA 26 h s.heap.size) s.heap H locs → lv_has ls 2 [(0, .ref (h 0))] → W p l e ({ frames := 0, cells := 0, slots := 0, locals := 0 }) s m ([.ref (h 0), .int 1] : List Value).toArray below meth cd H locs 0 0 Qz (F0 m 19 ls []) := by
    intro fp_19 H locs ls hs hy0_19 hI hF hP hS hl
    obtain ⟨v_2, ev_2⟩ : ∃ z : Int32, z = fp_19 0 48 := ⟨_, rfl⟩
    have q_3 : 0 ≤ v_2.toInt ∧ v_2.toInt ≤ 19 := by rw [ev_2]; exact hI 0 48
    have q_4 : (fp_19 0 48).toInt = v_2.toInt := by rw [ev_2]
    refine lv_aload_n hx hb dX12_begins_19 rfl (lv_at hl 0 rfl) ?_
    refine lv_dup hx hb dX12_begins_20 rfl ?_
    refine sl_gM_0_48_12 (v := v_2) hx hb hts hown hK hP (show fp_19 0 48 = v_2 from ev_2.symm) dX12_begins_21 ?_
    refine lv_iconst (v := 1) hx hb dX12_begins_24 ic_1 ?_
    refine lv_iadd hx hb dX12_begins_25 ?_
    refine lv_topi (fun v_5 ev_5 => ?_)
    have q_6 : v_5.toInt = v_2.toInt + 1 := by rw [ev_5]; first | exact cm_add ti_1 (by omega) (by omega) | (have k1 : (1 : Int32).toInt = 1 := ti_1; exact (bn_addI (by omega) (by omega)).trans (by omega))
    refine sl_pM_0_48_12 (x := v_5) hx hb hts hown hh hA hK hP hS dX12_begins_26 (fun f_7 H locs ef_7 hP hS => ?_)
    have hI : sgI loM hiM f_7 := by rw [ef_7]; exact sgI.put hI 0 48 (show 0 ≤ (v_5 : Int32).toInt ∧ (v_5 : Int32).toInt ≤ 19 from ⟨by omega, by omega⟩)
    have hF : sgK WkX12_begins_1_f9 f f_7 := sgK.put hF ef_7 (by rfl)
    have q_8 : (f_7 0 48).toInt = v_5.toInt := (congrArg Int32.toInt (show f_7 0 48 = v_5 from (by rw [ef_7, sg_up_s, sgu_s])))
    exact hret _ _ _ _ f_7 L Q dX12_begins_29 hP hS ⟨⟨hI, hF, rfl, rfl⟩, ⟨by omega, by omega⟩, (Eq.trans (Eq.symm (hs.trans ((spl_e ev_2 (spl_e ev_5 (spl_e ef_7 rfl)))))) hsp)⟩
  refine lv_aload_n hx hb dX12_begins_0 rfl (lv_at hl 0 rfl) ?_
  refine sl_gM_0_48_12 (v := 9) hx hb hts hown hK hP (show f 0 48 = 9 from hf_0_48) dX12_begins_1 ?_
  refine lv_bipush (v := 24) hx hb dX12_begins_4 bp_24 ?_
  refine lv_icmp_ge (tgt := 19) hx hb dX12_begins_6 (by decide) (fun c => absurd c (by decide)) (fun c => ?_)
  refine lv_aload_n hx hb dX12_begins_9 rfl (lv_at hl 0 rfl) ?_
  refine sl_gM_0_47_12 hx hb hts hown hK hP dX12_begins_10 ?_
  refine lv_aload_n hx hb dX12_begins_13 rfl (lv_at hl 0 rfl) ?_
  refine sl_gM_0_48_12 (v := 9) hx hb hts hown hK hP (show f 0 48 = 9 from hf_0_48) dX12_begins_14 ?_
  refine lv_iload_n hx hb dX12_begins_17 rfl (lv_at hl 1 rfl) ?_
  refine sg_iast hx hb hh hA hK hP hS 21 (by decide) 0 (fun _ => rfl) rfl (i := 9) (x := 1) (vp_in_iff.mpr (by decide)) dX12_begins_18 (fun f_10 H locs ef_10 hP hS => ?_)
  have ef_10 : f_10 = sg_up f 21 (sgu (f 21) 9 1) := ef_10
  have hI : sgI loM hiM f_10 := by rw [ef_10]; exact sgI.put hI 21 9 (show 0 ≤ (1 : Int32).toInt ∧ (1 : Int32).toInt ≤ 81 from by decide)
  have hF : sgK WkX12_begins_1_f9 f f_10 := sgK.put hF ef_10 (by rfl)
  exact blk_19 f_10 _ _ _ (hs.trans ((spl_e ef_10 rfl))) (by have zz0_48 : (f_10 0 48).toInt = 9 := (congrArg Int32.toInt (show f_10 0 48 = 9 from (by rw [ef_10, sg_up_n (by decide)]; exact hf_0_48))).trans (by decide); exact ⟨by omega, by omega⟩) hI hF hP hS (lv_sub hl [0] rfl)

abbrev WkX12_setsAs_0_f9_f7 : List (Nat × Nat × Option Nat) := [(0, 0, some 48), (21, 21, some 9)]
set_option maxHeartbeats 4000000 in
set_option maxRecDepth 100000 in
theorem kX12_setsAs_0_f9_f7 (l : Launch) (D : va_G) (ca : Nat → ClassId) (za h : Nat → Nat) (hh : sgH 26 h) (f : sg_F) (L : sg_L) (Q : sg_Q) (hI : sgI loM hiM f) (x1 : Int32) (hf_0_48 : f 0 48 = 9) (hf_0_49 : f 0 49 = 7) (b1 : 2 ≤ x1.toInt ∧ x1.toInt ≤ 2) (p0 : 9 ≤ (f 0 48).toInt ∧ (f 0 48).toInt ≤ 9) (sz : Nat) : Met l yX12_setsAs gwX12_setsAs { frames := 1, cells := 0, slots := 0, locals := 21 } (sgP D vwCl (tyX ca) 26 h (eM ca h) zcM za f L Q sz [.ref (h 0), .int 0, .int x1]) (sgQi D vwCl 26 h (eM ca h) sz (fun r f1 L1 Q1 => ((sgI loM hiM f1 ∧ sgK WkX12_setsAs_0_f9_f7 f f1 ∧ L1 = L ∧ Q1 = Q) ∧ (2 ≤ r.toInt ∧ r.toInt ≤ 51) ∧ (10 ≤ (f1 0 48).toInt ∧ (f1 0 48).toInt ≤ 10) ∧ (r, f1) = sX12_setsAs_0_f9_f7 x1 f L))) 0 0 (sgA 26 h sz) := by
  refine sg_ofWi (cc := cX12_setsAs) (maxL := 3) RX12 (by decide) rfl rfl (Nat.le_of_ble_eq_true rfl) ?_
  intro p e s m below meth cd Qz ls hx hb hml hown hts hK hZ hP hS hl hret
  have hA := sgY.self (n := 26) (h := h) (sz := s.heap.size)
  have hl : lv_has ls 3 [(0, .ref (h 0)), (1, .int 0), (2, .int x1)] := hl
  obtain ⟨H, hH⟩ : ∃ z : Heap, z = s.heap := ⟨_, rfl⟩
  obtain ⟨locs, hlo⟩ : ∃ z : List Loc, z = [] := ⟨_, rfl⟩
  have hP : va_P D vwCl (sgw 26 h (eM ca h) f L Q) H := by rw [hH]; exact hP
  have hS : va_S (sgA 26 h s.heap.size) s.heap H locs := by rw [hH, hlo]; exact hS
  suffices hgo : W p l e ({ frames := 1, cells := 0, slots := 0, locals := 21 }) s m ([.ref (h 0), .int 0, .int x1] : List Value).toArray below meth cd H locs 0 0 Qz (F0 m 0 ls []) by rw [hH, hlo] at hgo; exact hgo
  clear hH hlo
  obtain ⟨sp, hsp⟩ : ∃ z : Int32 × sg_F, z = sX12_setsAs_0_f9_f7 x1 f L := ⟨_, rfl⟩
  have hs : sp = sX12_setsAs_0_f9_f7 x1 f L := hsp
  have o_1 : (f 0 48).toInt = 9 := (congrArg Int32.toInt (show f 0 48 = 9 from hf_0_48)).trans (by decide)
  have hF : sgK WkX12_setsAs_0_f9_f7 f f := sgK.rf
  refine lv_iload_n hx hb dX12_setsAs_0 rfl (lv_at hl 1 rfl) ?_
  refine lv_iconst (v := 1) hx hb dX12_setsAs_1 ic_1 ?_
  refine lv_icmp_eq (tgt := 16) hx hb dX12_setsAs_2 (by decide) (fun c => absurd c (by decide)) (fun c => ?_)
  refine lv_iload_n hx hb dX12_setsAs_5 rfl (lv_at hl 1 rfl) ?_
  refine lv_iconst (v := 4) hx hb dX12_setsAs_6 ic_4 ?_
  refine lv_icmp_eq (tgt := 16) hx hb dX12_setsAs_7 (by decide) (fun c => absurd c (by decide)) (fun c => ?_)
  refine lv_iload_n hx hb dX12_setsAs_10 rfl (lv_at hl 1 rfl) ?_
  refine lv_bipush (v := 7) hx hb dX12_setsAs_11 bp_7 ?_
  refine lv_icmp_ne (tgt := 31) hx hb dX12_setsAs_13 (by decide) (fun c => ?_) (fun c => absurd c (by decide))
  refine lv_iload_n hx hb dX12_setsAs_31 rfl (lv_at hl 1 rfl) ?_
  refine lv_bipush (v := 6) hx hb dX12_setsAs_32 bp_6 ?_
  refine lv_icmp_ne (tgt := 52) hx hb dX12_setsAs_34 (by decide) (fun c => ?_) (fun c => absurd c (by decide))
  refine lv_aload_n hx hb dX12_setsAs_52 rfl (lv_at hl 0 rfl) ?_
  refine lv_iconst (v := 1) hx hb dX12_setsAs_53 ic_1 ?_
  have q_2 : (f 0 48).toInt = 9 := (congrArg Int32.toInt (show f 0 48 = 9 from hf_0_48)).trans (by decide)
  refine sg_callv (va_runV (As := [.int 1]) (rest := []) ⟨hx, hb, hml, hown, hts⟩ (kX12_begins_1_f9 l D ca za h hh f L Q hI hf_0_48 (by have k0 : (1 : Int32).toInt = 1 := ti_1; omega) H.size) (sl_c12_begins_0_0_0_0_12 hts ⟨Nat.le_of_ble_eq_true rfl, Nat.le_of_ble_eq_true rfl⟩) (sl_vM_0 hA hK hP hS hZ) rfl rfl hl.1 rfl (lv_room (Nat.le_of_ble_eq_true rfl)) dX12_setsAs_54 ⟨Nat.le_refl _, Nat.le_refl _⟩) hA hS (fun f_4 L_5 Q_6 H locs hq hP hS => ?_)
  obtain ⟨⟨hI, hk_f_4, eL9, eQ9⟩, p_7, u_8⟩ := hq
  rw [eL9, eQ9] at hP; clear eL9 eQ9
  have hF : sgK WkX12_setsAs_0_f9_f7 f f_4 := sgK.tr hF hk_f_4 (by decide +kernel)
  obtain ⟨v_9, ev_9⟩ : ∃ z : Int32, z = f_4 0 48 := ⟨_, rfl⟩
  have q_10 : 0 ≤ v_9.toInt ∧ v_9.toInt ≤ 19 := by rw [ev_9]; exact hI 0 48
  have q_11 : (f_4 0 48).toInt = v_9.toInt := (congrArg Int32.toInt (show f_4 0 48 = v_9 from ev_9.symm))
  refine lv_iload_n hx hb dX12_setsAs_57 rfl (lv_at hl 2 rfl) ?_
  refine lv_aload_n hx hb dX12_setsAs_58 rfl (lv_at hl 0 rfl) ?_
  refine sl_gM_0_50_12 (v := (f_4 0 50)) hx hb hts hown hK hP rfl dX12_setsAs_59 ?_
  refine lv_topi (fun v_13 ev_13 => ?_)
  have q_14 : 0 ≤ v_13.toInt ∧ v_13.toInt ≤ 49 := by rw [ev_13]; exact hI 0 50
  refine lv_iadd hx hb dX12_setsAs_62 ?_
  refine lv_topi (fun v_15 ev_15 => ?_)
  have q_16 : v_15.toInt = x1.toInt + v_13.toInt := by rw [ev_15]; first | exact bn_addI (by omega) (by omega) | exact (bn_addI (by omega) (by omega)).trans (by omega)
  exact hret _ _ _ _ (v_15) f_4 L Q dX12_setsAs_63 hP hS ⟨⟨hI, hF, rfl, rfl⟩, ⟨by omega, by omega⟩, ⟨by omega, by omega⟩, (Eq.trans (Eq.symm (hs.trans ((spl_e u_8 (spl_e ev_9 (spl_e ev_13 (spl_e ev_15 rfl))))))) hsp)⟩

abbrev WkX12_setsAs_7_f8_f7 : List (Nat × Nat × Option Nat) := [(0, 0, some 48), (21, 21, some 8), (21, 21, some 9)]
set_option maxHeartbeats 4000000 in
set_option maxRecDepth 100000 in
theorem kX12_setsAs_7_f8_f7 (l : Launch) (D : va_G) (ca : Nat → ClassId) (za h : Nat → Nat) (hh : sgH 26 h) (f : sg_F) (L : sg_L) (Q : sg_Q) (hI : sgI loM hiM f) (x1 : Int32) (hf_0_48 : f 0 48 = 8) (hf_0_49 : f 0 49 = 7) (b1 : 2 ≤ x1.toInt ∧ x1.toInt ≤ 2) (p0 : 8 ≤ (f 0 48).toInt ∧ (f 0 48).toInt ≤ 8) (sz : Nat) : Met l yX12_setsAs gwX12_setsAs { frames := 2, cells := 0, slots := 0, locals := 43 } (sgP D vwCl (tyX ca) 26 h (eM ca h) zcM za f L Q sz [.ref (h 0), .int 7, .int x1]) (sgQi D vwCl 26 h (eM ca h) sz (fun r f1 L1 Q1 => ((sgI loM hiM f1 ∧ sgK WkX12_setsAs_7_f8_f7 f f1 ∧ L1 = L ∧ Q1 = Q) ∧ (5 ≤ r.toInt ∧ r.toInt ≤ 54) ∧ (10 ≤ (f1 0 48).toInt ∧ (f1 0 48).toInt ≤ 10) ∧ (r, f1) = sX12_setsAs_7_f8_f7 x1 f L))) 0 0 (sgA 26 h sz) := by
  refine sg_ofWi (cc := cX12_setsAs) (maxL := 3) RX12 (by decide) rfl rfl (Nat.le_of_ble_eq_true rfl) ?_
  intro p e s m below meth cd Qz ls hx hb hml hown hts hK hZ hP hS hl hret
  have hA := sgY.self (n := 26) (h := h) (sz := s.heap.size)
  have hl : lv_has ls 3 [(0, .ref (h 0)), (1, .int 7), (2, .int x1)] := hl
  obtain ⟨H, hH⟩ : ∃ z : Heap, z = s.heap := ⟨_, rfl⟩
  obtain ⟨locs, hlo⟩ : ∃ z : List Loc, z = [] := ⟨_, rfl⟩
  have hP : va_P D vwCl (sgw 26 h (eM ca h) f L Q) H := by rw [hH]; exact hP
  have hS : va_S (sgA 26 h s.heap.size) s.heap H locs := by rw [hH, hlo]; exact hS
  suffices hgo : W p l e ({ frames := 2, cells := 0, slots := 0, locals := 43 }) s m ([.ref (h 0), .int 7, .int x1] : List Value).toArray below meth cd H locs 0 0 Qz (F0 m 0 ls []) by rw [hH, hlo] at hgo; exact hgo
  clear hH hlo
  obtain ⟨sp, hsp⟩ : ∃ z : Int32 × sg_F, z = sX12_setsAs_7_f8_f7 x1 f L := ⟨_, rfl⟩
  have hs : sp = sX12_setsAs_7_f8_f7 x1 f L := hsp
  have o_1 : (f 0 48).toInt = 8 := (congrArg Int32.toInt (show f 0 48 = 8 from hf_0_48)).trans (by decide)
  have hF : sgK WkX12_setsAs_7_f8_f7 f f := sgK.rf
  have blk_16 : ∀ (fp_16 : sg_F) (H : Heap) (locs : List Loc) (ls : Array Slot), sp = sX12_setsAs_7_f8_f7_b16 x1 fp_16 L → 8 ≤ (fp_16 0 48).toInt ∧ (fp_16 0 48).toInt ≤ 8 → 7 ≤ (fp_16 0 49).toInt ∧ (fp_16 0 49).toInt ≤ 7 → sgI loM hiM fp_16 → sgK WkX12_setsAs_7_f8_f7 f fp_16 → va_P D vwCl (sgw 26 h (eM ca h) fp_16 L Q) H → va_S (sgA 26 h s.heap.size) s.heap H locs → lv_has ls 3 [(0, .ref (h 0)), (2, .int x1)] → W p l e ({ frames := 2, cells := 0, slots := 0, locals := 43 }) s m ([.ref (h 0), .int 7, .int x1] : List Value).toArray below meth cd H locs 0 0 Qz (F0 m 16 ls []) := by
    intro fp_16 H locs ls hs hy0_16 hy1_16 hI hF hP hS hl
    obtain ⟨v_2, ev_2⟩ : ∃ z : Int32, z = fp_16 0 48 := ⟨_, rfl⟩
    have q_3 : 0 ≤ v_2.toInt ∧ v_2.toInt ≤ 19 := by rw [ev_2]; exact hI 0 48
    have q_4 : (fp_16 0 48).toInt = v_2.toInt := by rw [ev_2]
    obtain ⟨v_5, ev_5⟩ : ∃ z : Int32, z = fp_16 0 49 := ⟨_, rfl⟩
    have q_6 : 0 ≤ v_5.toInt ∧ v_5.toInt ≤ 7 := by rw [ev_5]; exact hI 0 49
    have q_7 : (fp_16 0 49).toInt = v_5.toInt := by rw [ev_5]
    have m_8 : fp_16 0 49 = 7 := (hF 0 49 (by decide)).trans hf_0_49
    refine lv_aload_n hx hb dX12_setsAs_16 rfl (lv_at hl 0 rfl) ?_
    refine lv_bipush (v := 20) hx hb dX12_setsAs_17 bp_20 ?_
    have c_9 : v_2 = 8 := Int32.toInt_inj.mp (by have k9 : (8 : Int32).toInt = 8 := ti_8; omega)
    have q_10 : (fp_16 0 48).toInt = 8 := (congrArg Int32.toInt (show fp_16 0 48 = 8 from (Eq.trans ev_2.symm c_9))).trans (by decide)
    refine sg_callv (va_runV (As := [.int 20]) (rest := []) ⟨hx, hb, hml, hown, hts⟩ (kX12_begins_20_f8 l D ca za h hh fp_16 L Q hI (Eq.trans ev_2.symm c_9) (by have k0 : (20 : Int32).toInt = 20 := ti_20; omega) H.size) (sl_c12_begins_0_0_0_0_12 hts ⟨Nat.le_of_ble_eq_true rfl, Nat.le_of_ble_eq_true rfl⟩) (sl_vM_0 hA hK hP hS hZ) rfl rfl hl.1 rfl (lv_room (Nat.le_of_ble_eq_true rfl)) dX12_setsAs_19 ⟨Nat.le_refl _, Nat.le_refl _⟩) hA hS (fun f_12 L_13 Q_14 H locs hq hP hS => ?_)
    obtain ⟨⟨hI, hk_f_12, eL9, eQ9⟩, p_15, u_16⟩ := hq
    rw [eL9, eQ9] at hP; clear eL9 eQ9
    have hF : sgK WkX12_setsAs_7_f8_f7 f f_12 := sgK.tr hF hk_f_12 (by decide +kernel)
    obtain ⟨v_17, ev_17⟩ : ∃ z : Int32, z = f_12 0 48 := ⟨_, rfl⟩
    have q_18 : 0 ≤ v_17.toInt ∧ v_17.toInt ≤ 19 := by rw [ev_17]; exact hI 0 48
    have q_19 : (f_12 0 48).toInt = v_17.toInt := (congrArg Int32.toInt (show f_12 0 48 = v_17 from ev_17.symm))
    refine lv_aload_n hx hb dX12_setsAs_22 rfl (lv_at hl 0 rfl) ?_
    refine lv_iconst (v := 0) hx hb dX12_setsAs_23 ic_0 ?_
    refine lv_iload_n hx hb dX12_setsAs_24 rfl (lv_at hl 1 rfl) ?_
    have c_21 : v_17 = 9 := Int32.toInt_inj.mp (by have k9 : (9 : Int32).toInt = 9 := ti_9; omega)
    have q_22 : (f_12 0 48).toInt = 9 := (congrArg Int32.toInt (show f_12 0 48 = 9 from (Eq.trans ev_17.symm c_21))).trans (by decide)
    refine sg_calli (va_runV (As := [.int 0, .int x1]) (rest := []) ⟨hx, hb, hml, hown, hts⟩ (kX12_setsAs_0_f9_f7 l D ca za h hh f_12 L Q hI x1 (Eq.trans ev_17.symm c_21) ((hk_f_12 0 49 (by decide)).trans m_8) b1 (by have k0 : (0 : Int32).toInt = 0 := ti_0; omega) H.size) (sl_c12_setsAs_1_0_0_21_12 hts ⟨Nat.le_of_ble_eq_true rfl, Nat.le_of_ble_eq_true rfl⟩) (sl_vM_0 hA hK hP hS hZ) rfl rfl hl.1 rfl (lv_room (Nat.le_of_ble_eq_true rfl)) dX12_setsAs_25 ⟨Nat.le_refl _, Nat.le_refl _⟩) hA hS (fun r_27 f_24 L_25 Q_26 H locs hq hP hS => ?_)
    obtain ⟨⟨hI, hk_f_24, eL9, eQ9⟩, hq, p_28, u_29⟩ := hq
    rw [eL9, eQ9] at hP; clear eL9 eQ9
    have hF : sgK WkX12_setsAs_7_f8_f7 f f_24 := sgK.tr hF hk_f_24 (by decide +kernel)
    obtain ⟨v_30, ev_30⟩ : ∃ z : Int32, z = f_24 0 48 := ⟨_, rfl⟩
    have q_31 : 0 ≤ v_30.toInt ∧ v_30.toInt ≤ 19 := by rw [ev_30]; exact hI 0 48
    have q_32 : (f_24 0 48).toInt = v_30.toInt := (congrArg Int32.toInt (show f_24 0 48 = v_30 from ev_30.symm))
    have k_34 : (0 : Int32).toInt = 0 := by decide
    refine lv_iconst (v := 3) hx hb dX12_setsAs_28 ic_3 ?_
    refine lv_iadd hx hb dX12_setsAs_29 ?_
    refine lv_topi (fun v_35 ev_35 => ?_)
    have q_36 : v_35.toInt = r_27.toInt + 3 := by rw [ev_35]; first | exact cm_add ti_3 (by omega) (by omega) | (have k1 : (3 : Int32).toInt = 3 := ti_3; exact (bn_addI (by omega) (by omega)).trans (by omega))
    exact hret _ _ _ _ (v_35) f_24 L Q dX12_setsAs_30 hP hS ⟨⟨hI, hF, rfl, rfl⟩, ⟨by omega, by omega⟩, ⟨by omega, by omega⟩, (Eq.trans (Eq.symm (hs.trans ((spl_e ev_2 (spl_e ev_5 (spl_e u_16 (spl_e ev_17 (spl2_e u_29 (spl_e ev_30 (spl_e ev_35 rfl)))))))))) hsp)⟩
  refine lv_iload_n hx hb dX12_setsAs_0 rfl (lv_at hl 1 rfl) ?_
  refine lv_iconst (v := 1) hx hb dX12_setsAs_1 ic_1 ?_
  refine lv_icmp_eq (tgt := 16) hx hb dX12_setsAs_2 (by decide) (fun c => absurd c (by decide)) (fun c => ?_)
  refine lv_iload_n hx hb dX12_setsAs_5 rfl (lv_at hl 1 rfl) ?_
  refine lv_iconst (v := 4) hx hb dX12_setsAs_6 ic_4 ?_
  refine lv_icmp_eq (tgt := 16) hx hb dX12_setsAs_7 (by decide) (fun c => absurd c (by decide)) (fun c => ?_)
  refine lv_iload_n hx hb dX12_setsAs_10 rfl (lv_at hl 1 rfl) ?_
  refine lv_bipush (v := 7) hx hb dX12_setsAs_11 bp_7 ?_
  refine lv_icmp_ne (tgt := 31) hx hb dX12_setsAs_13 (by decide) (fun c => absurd c (by decide)) (fun c => ?_)
  exact blk_16 f _ _ _ hs (by have zz0_48 : (f 0 48).toInt = 8 := (congrArg Int32.toInt (show f 0 48 = 8 from hf_0_48)).trans (by decide); exact ⟨by omega, by omega⟩) (by have zz0_49 : (f 0 49).toInt = 7 := (congrArg Int32.toInt (show f 0 49 = 7 from hf_0_49)).trans (by decide); exact ⟨by omega, by omega⟩) hI hF hP hS (lv_sub hl [0, 2] rfl)

abbrev WkX12_slipsAs_7_f6_f7 : List (Nat × Nat × Option Nat) := [(0, 0, some 48), (21, 21, some 6), (21, 21, some 7), (21, 21, some 8), (21, 21, some 9)]
set_option maxHeartbeats 4000000 in
set_option maxRecDepth 100000 in
theorem kX12_slipsAs_7_f6_f7 (l : Launch) (D : va_G) (ca : Nat → ClassId) (za h : Nat → Nat) (hh : sgH 26 h) (f : sg_F) (L : sg_L) (Q : sg_Q) (hI : sgI loM hiM f) (x1 : Int32) (hf_0_48 : f 0 48 = 6) (hf_0_49 : f 0 49 = 7) (b1 : 2 ≤ x1.toInt ∧ x1.toInt ≤ 2) (p0 : 6 ≤ (f 0 48).toInt ∧ (f 0 48).toInt ≤ 6) (sz : Nat) : Met l yX12_slipsAs gwX12_slipsAs { frames := 3, cells := 0, slots := 0, locals := 65 } (sgP D vwCl (tyX ca) 26 h (eM ca h) zcM za f L Q sz [.ref (h 0), .int 7, .int x1]) (sgQi D vwCl 26 h (eM ca h) sz (fun r f1 L1 Q1 => ((sgI loM hiM f1 ∧ sgK WkX12_slipsAs_7_f6_f7 f f1 ∧ L1 = L ∧ Q1 = Q) ∧ True ∧ (10 ≤ (f1 0 48).toInt ∧ (f1 0 48).toInt ≤ 10) ∧ (r, f1) = sX12_slipsAs_7_f6_f7 x1 f L))) 0 0 (sgA 26 h sz) := by
  refine sg_ofWi (cc := cX12_slipsAs) (maxL := 4) RX12 (by decide) rfl rfl (Nat.le_of_ble_eq_true rfl) ?_
  intro p e s m below meth cd Qz ls hx hb hml hown hts hK hZ hP hS hl hret
  have hA := sgY.self (n := 26) (h := h) (sz := s.heap.size)
  have hl : lv_has ls 4 [(0, .ref (h 0)), (1, .int 7), (2, .int x1)] := hl
  obtain ⟨H, hH⟩ : ∃ z : Heap, z = s.heap := ⟨_, rfl⟩
  obtain ⟨locs, hlo⟩ : ∃ z : List Loc, z = [] := ⟨_, rfl⟩
  have hP : va_P D vwCl (sgw 26 h (eM ca h) f L Q) H := by rw [hH]; exact hP
  have hS : va_S (sgA 26 h s.heap.size) s.heap H locs := by rw [hH, hlo]; exact hS
  suffices hgo : W p l e ({ frames := 3, cells := 0, slots := 0, locals := 65 }) s m ([.ref (h 0), .int 7, .int x1] : List Value).toArray below meth cd H locs 0 0 Qz (F0 m 0 ls []) by rw [hH, hlo] at hgo; exact hgo
  clear hH hlo
  obtain ⟨sp, hsp⟩ : ∃ z : Int32 × sg_F, z = sX12_slipsAs_7_f6_f7 x1 f L := ⟨_, rfl⟩
  have hs : sp = sX12_slipsAs_7_f6_f7 x1 f L := hsp
  have o_1 : (f 0 48).toInt = 6 := (congrArg Int32.toInt (show f 0 48 = 6 from hf_0_48)).trans (by decide)
  have hF : sgK WkX12_slipsAs_7_f6_f7 f f := sgK.rf
  have blk_36 : ∀ (fp_36 : sg_F) (H : Heap) (locs : List Loc) (ls : Array Slot), sp = sX12_slipsAs_7_f6_f7_b36 x1 fp_36 L → 6 ≤ (fp_36 0 48).toInt ∧ (fp_36 0 48).toInt ≤ 6 → 7 ≤ (fp_36 0 49).toInt ∧ (fp_36 0 49).toInt ≤ 7 → sgI loM hiM fp_36 → sgK WkX12_slipsAs_7_f6_f7 f fp_36 → va_P D vwCl (sgw 26 h (eM ca h) fp_36 L Q) H → va_S (sgA 26 h s.heap.size) s.heap H locs → lv_has ls 4 [(0, .ref (h 0)), (2, .int x1)] → W p l e ({ frames := 3, cells := 0, slots := 0, locals := 65 }) s m ([.ref (h 0), .int 7, .int x1] : List Value).toArray below meth cd H locs 0 0 Qz (F0 m 36 ls []) := by
    intro fp_36 H locs ls hs hy0_36 hy1_36 hI hF hP hS hl
    obtain ⟨v_2, ev_2⟩ : ∃ z : Int32, z = fp_36 0 48 := ⟨_, rfl⟩
    have q_3 : 0 ≤ v_2.toInt ∧ v_2.toInt ≤ 19 := by rw [ev_2]; exact hI 0 48
    have q_4 : (fp_36 0 48).toInt = v_2.toInt := by rw [ev_2]
    obtain ⟨v_5, ev_5⟩ : ∃ z : Int32, z = fp_36 0 49 := ⟨_, rfl⟩
    have q_6 : 0 ≤ v_5.toInt ∧ v_5.toInt ≤ 7 := by rw [ev_5]; exact hI 0 49
    have q_7 : (fp_36 0 49).toInt = v_5.toInt := by rw [ev_5]
    have m_8 : fp_36 0 49 = 7 := (hF 0 49 (by decide)).trans hf_0_49
    refine lv_aload_n hx hb dX12_slipsAs_36 rfl (lv_at hl 0 rfl) ?_
    refine lv_bipush (v := 50) hx hb dX12_slipsAs_37 bp_50 ?_
    have c_9 : v_2 = 6 := Int32.toInt_inj.mp (by have k9 : (6 : Int32).toInt = 6 := ti_6; omega)
    have q_10 : (fp_36 0 48).toInt = 6 := (congrArg Int32.toInt (show fp_36 0 48 = 6 from (Eq.trans ev_2.symm c_9))).trans (by decide)
    refine sg_callv (va_runV (As := [.int 50]) (rest := []) ⟨hx, hb, hml, hown, hts⟩ (kX12_begins_50_f6 l D ca za h hh fp_36 L Q hI (Eq.trans ev_2.symm c_9) (by have k0 : (50 : Int32).toInt = 50 := ti_50; omega) H.size) (sl_c12_begins_0_0_0_0_12 hts ⟨Nat.le_of_ble_eq_true rfl, Nat.le_of_ble_eq_true rfl⟩) (sl_vM_0 hA hK hP hS hZ) rfl rfl hl.1 rfl (lv_room (Nat.le_of_ble_eq_true rfl)) dX12_slipsAs_39 ⟨Nat.le_refl _, Nat.le_refl _⟩) hA hS (fun f_12 L_13 Q_14 H locs hq hP hS => ?_)
    obtain ⟨⟨hI, hk_f_12, eL9, eQ9⟩, p_15, u_16⟩ := hq
    rw [eL9, eQ9] at hP; clear eL9 eQ9
    have hF : sgK WkX12_slipsAs_7_f6_f7 f f_12 := sgK.tr hF hk_f_12 (by decide +kernel)
    obtain ⟨v_17, ev_17⟩ : ∃ z : Int32, z = f_12 0 48 := ⟨_, rfl⟩
    have q_18 : 0 ≤ v_17.toInt ∧ v_17.toInt ≤ 19 := by rw [ev_17]; exact hI 0 48
    have q_19 : (f_12 0 48).toInt = v_17.toInt := (congrArg Int32.toInt (show f_12 0 48 = v_17 from ev_17.symm))
    refine lv_aload_n hx hb dX12_slipsAs_42 rfl (lv_at hl 0 rfl) ?_
    refine lv_iconst (v := 1) hx hb dX12_slipsAs_43 ic_1 ?_
    refine lv_iload_n hx hb dX12_slipsAs_44 rfl (lv_at hl 1 rfl) ?_
    have c_21 : v_17 = 7 := Int32.toInt_inj.mp (by have k9 : (7 : Int32).toInt = 7 := ti_7; omega)
    have q_22 : (f_12 0 48).toInt = 7 := (congrArg Int32.toInt (show f_12 0 48 = 7 from (Eq.trans ev_17.symm c_21))).trans (by decide)
    refine sg_calli (va_runV (As := [.int 1, .int x1]) (rest := []) ⟨hx, hb, hml, hown, hts⟩ (kX12_slipsAs_1_f7_f7 l D ca za h hh f_12 L Q hI x1 (Eq.trans ev_17.symm c_21) ((hk_f_12 0 49 (by decide)).trans m_8) b1 (by have k0 : (1 : Int32).toInt = 1 := ti_1; omega) H.size) (sl_c12_slipsAs_1_0_0_21_12 hts ⟨Nat.le_of_ble_eq_true rfl, Nat.le_of_ble_eq_true rfl⟩) (sl_vM_0 hA hK hP hS hZ) rfl rfl hl.1 rfl (lv_room (Nat.le_of_ble_eq_true rfl)) dX12_slipsAs_45 ⟨Nat.le_refl _, Nat.le_refl _⟩) hA hS (fun r_27 f_24 L_25 Q_26 H locs hq hP hS => ?_)
    obtain ⟨⟨hI, hk_f_24, eL9, eQ9⟩, hq, p_28, u_29⟩ := hq
    rw [eL9, eQ9] at hP; clear eL9 eQ9
    have hF : sgK WkX12_slipsAs_7_f6_f7 f f_24 := sgK.tr hF hk_f_24 (by decide +kernel)
    obtain ⟨v_30, ev_30⟩ : ∃ z : Int32, z = f_24 0 48 := ⟨_, rfl⟩
    have q_31 : 0 ≤ v_30.toInt ∧ v_30.toInt ≤ 19 := by rw [ev_30]; exact hI 0 48
    have q_32 : (f_24 0 48).toInt = v_30.toInt := (congrArg Int32.toInt (show f_24 0 48 = v_30 from ev_30.symm))
    have k_34 : (1 : Int32).toInt = 1 := by decide
    refine lv_istore_n (lv' := [(3, .int r_27), (0, .ref (h 0)), (2, .int x1)]) hx hb dX12_slipsAs_48 rfl hl (by decide) rfl (fun ls hl => ?_)
    refine lv_iload_n hx hb dX12_slipsAs_49 rfl (lv_at hl 0 rfl) ?_
    refine lv_aload_n hx hb dX12_slipsAs_50 rfl (lv_at hl 1 rfl) ?_
    refine lv_aload_n hx hb dX12_slipsAs_51 rfl (lv_at hl 1 rfl) ?_
    refine sl_gM_0_49_12 (v := 7) hx hb hts hown hK hP (show f_24 0 49 = 7 from ((hk_f_24 0 49 (by decide)).trans ((hk_f_12 0 49 (by decide)).trans m_8))) dX12_slipsAs_52 ?_
    refine lv_iconst (v := 2) hx hb dX12_slipsAs_55 ic_2 ?_
    have c_35 : v_30 = 8 := Int32.toInt_inj.mp (by have k9 : (8 : Int32).toInt = 8 := ti_8; omega)
    have q_36 : (f_24 0 48).toInt = 8 := (congrArg Int32.toInt (show f_24 0 48 = 8 from (Eq.trans ev_30.symm c_35))).trans (by decide)
    refine sg_calli (va_runV (As := [.int 7, .int 2]) (rest := [.int r_27]) ⟨hx, hb, hml, hown, hts⟩ (kX12_setsAs_7_f8_f7 l D ca za h hh f_24 L Q hI 2 (Eq.trans ev_30.symm c_35) ((hk_f_24 0 49 (by decide)).trans ((hk_f_12 0 49 (by decide)).trans m_8)) (by decide) (by have k0 : (7 : Int32).toInt = 7 := ti_7; have k1 : (2 : Int32).toInt = 2 := ti_2; omega) H.size) (sl_c12_setsAs_2_0_0_43_12 hts ⟨Nat.le_of_ble_eq_true rfl, Nat.le_of_ble_eq_true rfl⟩) (sl_vM_0 hA hK hP hS hZ) rfl rfl hl.1 rfl (lv_room (Nat.le_of_ble_eq_true rfl)) dX12_slipsAs_56 ⟨Nat.le_refl _, Nat.le_refl _⟩) hA hS (fun r_41 f_38 L_39 Q_40 H locs hq hP hS => ?_)
    obtain ⟨⟨hI, hk_f_38, eL9, eQ9⟩, hq, p_42, u_43⟩ := hq
    rw [eL9, eQ9] at hP; clear eL9 eQ9
    have hF : sgK WkX12_slipsAs_7_f6_f7 f f_38 := sgK.tr hF hk_f_38 (by decide +kernel)
    obtain ⟨v_44, ev_44⟩ : ∃ z : Int32, z = f_38 0 48 := ⟨_, rfl⟩
    have q_45 : 0 ≤ v_44.toInt ∧ v_44.toInt ≤ 19 := by rw [ev_44]; exact hI 0 48
    have q_46 : (f_38 0 48).toInt = v_44.toInt := (congrArg Int32.toInt (show f_38 0 48 = v_44 from ev_44.symm))
    have k_48 : (7 : Int32).toInt = 7 := by decide
    have k_49 : (2 : Int32).toInt = 2 := by decide
    refine lv_isub hx hb dX12_slipsAs_59 ?_
    refine lv_topi (fun v_50 ev_50 => ?_)
    exact hret _ _ _ _ (v_50) f_38 L Q dX12_slipsAs_60 hP hS ⟨⟨hI, hF, rfl, rfl⟩, trivial, ⟨by omega, by omega⟩, (Eq.trans (Eq.symm (hs.trans ((spl_e ev_2 (spl_e ev_5 (spl_e u_16 (spl_e ev_17 (spl2_e u_29 (spl_e ev_30 (spl2_e u_43 (spl_e ev_44 (spl_e ev_50 rfl)))))))))))) hsp)⟩
  refine lv_iload_n hx hb dX12_slipsAs_0 rfl (lv_at hl 1 rfl) ?_
  refine lv_iconst (v := 3) hx hb dX12_slipsAs_1 ic_3 ?_
  refine lv_icmp_eq (tgt := 10) hx hb dX12_slipsAs_2 (by decide) (fun c => absurd c (by decide)) (fun c => ?_)
  refine lv_iload_n hx hb dX12_slipsAs_5 rfl (lv_at hl 1 rfl) ?_
  refine lv_iconst (v := 5) hx hb dX12_slipsAs_6 ic_5 ?_
  refine lv_icmp_ne (tgt := 25) hx hb dX12_slipsAs_7 (by decide) (fun c => ?_) (fun c => absurd c (by decide))
  refine lv_iload_n hx hb dX12_slipsAs_25 rfl (lv_at hl 1 rfl) ?_
  refine lv_iconst (v := 4) hx hb dX12_slipsAs_26 ic_4 ?_
  refine lv_icmp_eq (tgt := 36) hx hb dX12_slipsAs_27 (by decide) (fun c => absurd c (by decide)) (fun c => ?_)
  refine lv_iload_n hx hb dX12_slipsAs_30 rfl (lv_at hl 1 rfl) ?_
  refine lv_bipush (v := 7) hx hb dX12_slipsAs_31 bp_7 ?_
  refine lv_icmp_ne (tgt := 61) hx hb dX12_slipsAs_33 (by decide) (fun c => absurd c (by decide)) (fun c => ?_)
  exact blk_36 f _ _ _ hs (by have zz0_48 : (f 0 48).toInt = 6 := (congrArg Int32.toInt (show f 0 48 = 6 from hf_0_48)).trans (by decide); exact ⟨by omega, by omega⟩) (by have zz0_49 : (f 0 49).toInt = 7 := (congrArg Int32.toInt (show f 0 49 = 7 from hf_0_49)).trans (by decide); exact ⟨by omega, by omega⟩) hI hF hP hS (lv_sub hl [0, 2] rfl)

abbrev WkX12_sitsAs_7_f2_f7 : List (Nat × Nat × Option Nat) := [(0, 0, some 48), (21, 21, some 2), (21, 21, some 3), (21, 21, some 4), (21, 21, some 5), (21, 21, some 6), (21, 21, some 7), (21, 21, some 8), (21, 21, some 9)]
set_option maxHeartbeats 4000000 in
set_option maxRecDepth 100000 in
theorem kX12_sitsAs_7_f2_f7 (l : Launch) (D : va_G) (ca : Nat → ClassId) (za h : Nat → Nat) (hh : sgH 26 h) (f : sg_F) (L : sg_L) (Q : sg_Q) (hI : sgI loM hiM f) (x1 : Int32) (hf_0_48 : f 0 48 = 2) (hf_0_49 : f 0 49 = 7) (p0 : 2 ≤ (f 0 48).toInt ∧ (f 0 48).toInt ≤ 2) (sz : Nat) : Met l yX12_sitsAs gwX12_sitsAs { frames := 4, cells := 0, slots := 0, locals := 88 } (sgP D vwCl (tyX ca) 26 h (eM ca h) zcM za f L Q sz [.ref (h 0), .int 7, .int x1]) (sgQi D vwCl 26 h (eM ca h) sz (fun r f1 L1 Q1 => ((sgI loM hiM f1 ∧ sgK WkX12_sitsAs_7_f2_f7 f f1 ∧ L1 = L ∧ Q1 = Q) ∧ True ∧ (10 ≤ (f1 0 48).toInt ∧ (f1 0 48).toInt ≤ 10) ∧ (r, f1) = sX12_sitsAs_7_f2_f7 x1 f L))) 0 0 (sgA 26 h sz) := by
  refine sg_ofWi (cc := cX12_sitsAs) (maxL := 4) RX12 (by decide) rfl rfl (Nat.le_of_ble_eq_true rfl) ?_
  intro p e s m below meth cd Qz ls hx hb hml hown hts hK hZ hP hS hl hret
  have hA := sgY.self (n := 26) (h := h) (sz := s.heap.size)
  have hl : lv_has ls 4 [(0, .ref (h 0)), (1, .int 7), (2, .int x1)] := hl
  obtain ⟨H, hH⟩ : ∃ z : Heap, z = s.heap := ⟨_, rfl⟩
  obtain ⟨locs, hlo⟩ : ∃ z : List Loc, z = [] := ⟨_, rfl⟩
  have hP : va_P D vwCl (sgw 26 h (eM ca h) f L Q) H := by rw [hH]; exact hP
  have hS : va_S (sgA 26 h s.heap.size) s.heap H locs := by rw [hH, hlo]; exact hS
  suffices hgo : W p l e ({ frames := 4, cells := 0, slots := 0, locals := 88 }) s m ([.ref (h 0), .int 7, .int x1] : List Value).toArray below meth cd H locs 0 0 Qz (F0 m 0 ls []) by rw [hH, hlo] at hgo; exact hgo
  clear hH hlo
  obtain ⟨sp, hsp⟩ : ∃ z : Int32 × sg_F, z = sX12_sitsAs_7_f2_f7 x1 f L := ⟨_, rfl⟩
  have hs : sp = sX12_sitsAs_7_f2_f7 x1 f L := hsp
  have o_1 : (f 0 48).toInt = 2 := (congrArg Int32.toInt (show f 0 48 = 2 from hf_0_48)).trans (by decide)
  have hF : sgK WkX12_sitsAs_7_f2_f7 f f := sgK.rf
  refine lv_iload_n hx hb dX12_sitsAs_0 rfl (lv_at hl 1 rfl) ?_
  refine lv_iconst (v := 3) hx hb dX12_sitsAs_1 ic_3 ?_
  refine lv_icmp_eq (tgt := 10) hx hb dX12_sitsAs_2 (by decide) (fun c => absurd c (by decide)) (fun c => ?_)
  refine lv_iload_n hx hb dX12_sitsAs_5 rfl (lv_at hl 1 rfl) ?_
  refine lv_iconst (v := 5) hx hb dX12_sitsAs_6 ic_5 ?_
  refine lv_icmp_ne (tgt := 25) hx hb dX12_sitsAs_7 (by decide) (fun c => ?_) (fun c => absurd c (by decide))
  refine lv_iload_n hx hb dX12_sitsAs_25 rfl (lv_at hl 1 rfl) ?_
  refine lv_iconst (v := 2) hx hb dX12_sitsAs_26 ic_2 ?_
  refine lv_icmp_ne (tgt := 44) hx hb dX12_sitsAs_27 (by decide) (fun c => ?_) (fun c => absurd c (by decide))
  refine lv_iload_n hx hb dX12_sitsAs_44 rfl (lv_at hl 1 rfl) ?_
  refine lv_bipush (v := 7) hx hb dX12_sitsAs_45 bp_7 ?_
  refine lv_icmp_ne (tgt := 75) hx hb dX12_sitsAs_47 (by decide) (fun c => absurd c (by decide)) (fun c => ?_)
  refine lv_aload_n hx hb dX12_sitsAs_50 rfl (lv_at hl 0 rfl) ?_
  refine lv_bipush (v := 80) hx hb dX12_sitsAs_51 bp_80 ?_
  have q_2 : (f 0 48).toInt = 2 := (congrArg Int32.toInt (show f 0 48 = 2 from hf_0_48)).trans (by decide)
  refine sg_callv (va_runV (As := [.int 80]) (rest := []) ⟨hx, hb, hml, hown, hts⟩ (kX12_begins_80_f2 l D ca za h hh f L Q hI hf_0_48 (by have k0 : (80 : Int32).toInt = 80 := ti_80; omega) H.size) (sl_c12_begins_0_0_0_0_12 hts ⟨Nat.le_of_ble_eq_true rfl, Nat.le_of_ble_eq_true rfl⟩) (sl_vM_0 hA hK hP hS hZ) rfl rfl hl.1 rfl (lv_room (Nat.le_of_ble_eq_true rfl)) dX12_sitsAs_53 ⟨Nat.le_refl _, Nat.le_refl _⟩) hA hS (fun f_4 L_5 Q_6 H locs hq hP hS => ?_)
  obtain ⟨⟨hI, hk_f_4, eL9, eQ9⟩, p_7, u_8⟩ := hq
  rw [eL9, eQ9] at hP; clear eL9 eQ9
  have hF : sgK WkX12_sitsAs_7_f2_f7 f f_4 := sgK.tr hF hk_f_4 (by decide +kernel)
  obtain ⟨v_9, ev_9⟩ : ∃ z : Int32, z = f_4 0 48 := ⟨_, rfl⟩
  have q_10 : 0 ≤ v_9.toInt ∧ v_9.toInt ≤ 19 := by rw [ev_9]; exact hI 0 48
  have q_11 : (f_4 0 48).toInt = v_9.toInt := (congrArg Int32.toInt (show f_4 0 48 = v_9 from ev_9.symm))
  refine lv_aload_n hx hb dX12_sitsAs_56 rfl (lv_at hl 0 rfl) ?_
  refine lv_iconst (v := 4) hx hb dX12_sitsAs_57 ic_4 ?_
  refine lv_iload_n hx hb dX12_sitsAs_58 rfl (lv_at hl 2 rfl) ?_
  have c_13 : v_9 = 3 := Int32.toInt_inj.mp (by have k9 : (3 : Int32).toInt = 3 := ti_3; omega)
  have q_14 : (f_4 0 48).toInt = 3 := (congrArg Int32.toInt (show f_4 0 48 = 3 from (Eq.trans ev_9.symm c_13))).trans (by decide)
  refine sg_calli (va_runV (As := [.int 4, .int x1]) (rest := []) ⟨hx, hb, hml, hown, hts⟩ (kX12_sitsAs_4_f3_f7 l D ca za h hh f_4 L Q hI x1 (Eq.trans ev_9.symm c_13) ((hk_f_4 0 49 (by decide)).trans hf_0_49) (by have k0 : (4 : Int32).toInt = 4 := ti_4; omega) H.size) (sl_c12_sitsAs_3_0_0_65_12 hts ⟨Nat.le_of_ble_eq_true rfl, Nat.le_of_ble_eq_true rfl⟩) (sl_vM_0 hA hK hP hS hZ) rfl rfl hl.1 rfl (lv_room (Nat.le_of_ble_eq_true rfl)) dX12_sitsAs_59 ⟨Nat.le_refl _, Nat.le_refl _⟩) hA hS (fun r_19 f_16 L_17 Q_18 H locs hq hP hS => ?_)
  obtain ⟨⟨hI, hk_f_16, eL9, eQ9⟩, hq, p_20, u_21⟩ := hq
  rw [eL9, eQ9] at hP; clear eL9 eQ9
  have hF : sgK WkX12_sitsAs_7_f2_f7 f f_16 := sgK.tr hF hk_f_16 (by decide +kernel)
  obtain ⟨v_22, ev_22⟩ : ∃ z : Int32, z = f_16 0 48 := ⟨_, rfl⟩
  have q_23 : 0 ≤ v_22.toInt ∧ v_22.toInt ≤ 19 := by rw [ev_22]; exact hI 0 48
  have q_24 : (f_16 0 48).toInt = v_22.toInt := (congrArg Int32.toInt (show f_16 0 48 = v_22 from ev_22.symm))
  have k_26 : (4 : Int32).toInt = 4 := by decide
  refine lv_istore_n (lv' := [(3, .int r_19), (0, .ref (h 0)), (1, .int 7), (2, .int x1)]) hx hb dX12_sitsAs_62 rfl hl (by decide) rfl (fun ls hl => ?_)
  refine lv_iload_n hx hb dX12_sitsAs_63 rfl (lv_at hl 0 rfl) ?_
  refine lv_aload_n hx hb dX12_sitsAs_64 rfl (lv_at hl 1 rfl) ?_
  refine lv_aload_n hx hb dX12_sitsAs_65 rfl (lv_at hl 1 rfl) ?_
  refine sl_gM_0_49_12 (v := 7) hx hb hts hown hK hP (show f_16 0 49 = 7 from ((hk_f_16 0 49 (by decide)).trans ((hk_f_4 0 49 (by decide)).trans hf_0_49))) dX12_sitsAs_66 ?_
  refine lv_iconst (v := 2) hx hb dX12_sitsAs_69 ic_2 ?_
  have c_27 : v_22 = 6 := Int32.toInt_inj.mp (by have k9 : (6 : Int32).toInt = 6 := ti_6; omega)
  have q_28 : (f_16 0 48).toInt = 6 := (congrArg Int32.toInt (show f_16 0 48 = 6 from (Eq.trans ev_22.symm c_27))).trans (by decide)
  refine sg_calli (va_runV (As := [.int 7, .int 2]) (rest := [.int r_19]) ⟨hx, hb, hml, hown, hts⟩ (kX12_slipsAs_7_f6_f7 l D ca za h hh f_16 L Q hI 2 (Eq.trans ev_22.symm c_27) ((hk_f_16 0 49 (by decide)).trans ((hk_f_4 0 49 (by decide)).trans hf_0_49)) (by decide) (by have k0 : (7 : Int32).toInt = 7 := ti_7; have k1 : (2 : Int32).toInt = 2 := ti_2; omega) H.size) (sl_c12_slipsAs_3_0_0_65_12 hts ⟨Nat.le_of_ble_eq_true rfl, Nat.le_of_ble_eq_true rfl⟩) (sl_vM_0 hA hK hP hS hZ) rfl rfl hl.1 rfl (lv_room (Nat.le_of_ble_eq_true rfl)) dX12_sitsAs_70 ⟨Nat.le_refl _, Nat.le_refl _⟩) hA hS (fun r_33 f_30 L_31 Q_32 H locs hq hP hS => ?_)
  obtain ⟨⟨hI, hk_f_30, eL9, eQ9⟩, hq, p_34, u_35⟩ := hq
  rw [eL9, eQ9] at hP; clear eL9 eQ9
  have hF : sgK WkX12_sitsAs_7_f2_f7 f f_30 := sgK.tr hF hk_f_30 (by decide +kernel)
  obtain ⟨v_36, ev_36⟩ : ∃ z : Int32, z = f_30 0 48 := ⟨_, rfl⟩
  have q_37 : 0 ≤ v_36.toInt ∧ v_36.toInt ≤ 19 := by rw [ev_36]; exact hI 0 48
  have q_38 : (f_30 0 48).toInt = v_36.toInt := (congrArg Int32.toInt (show f_30 0 48 = v_36 from ev_36.symm))
  have k_40 : (7 : Int32).toInt = 7 := by decide
  have k_41 : (2 : Int32).toInt = 2 := by decide
  refine lv_iadd hx hb dX12_sitsAs_73 ?_
  refine lv_topi (fun v_42 ev_42 => ?_)
  exact hret _ _ _ _ (v_42) f_30 L Q dX12_sitsAs_74 hP hS ⟨⟨hI, hF, rfl, rfl⟩, trivial, ⟨by omega, by omega⟩, (Eq.trans (Eq.symm (hs.trans ((spl_e u_8 (spl_e ev_9 (spl2_e u_21 (spl_e ev_22 (spl2_e u_35 (spl_e ev_36 (spl_e ev_42 rfl)))))))))) hsp)⟩

abbrev WkX12_begins_50_f10 : List (Nat × Nat × Option Nat) := [(0, 0, some 48), (21, 21, some 10)]
set_option maxHeartbeats 4000000 in
set_option maxRecDepth 100000 in
theorem kX12_begins_50_f10 (l : Launch) (D : va_G) (ca : Nat → ClassId) (za h : Nat → Nat) (hh : sgH 26 h) (f : sg_F) (L : sg_L) (Q : sg_Q) (hI : sgI loM hiM f) (hf_0_48 : f 0 48 = 10) (p0 : 10 ≤ (f 0 48).toInt ∧ (f 0 48).toInt ≤ 10) (sz : Nat) : Met l yX12_begins gwX12_begins { frames := 0, cells := 0, slots := 0, locals := 0 } (sgP D vwCl (tyX ca) 26 h (eM ca h) zcM za f L Q sz [.ref (h 0), .int 50]) (sgQv D vwCl 26 h (eM ca h) sz (fun f1 L1 Q1 => ((sgI loM hiM f1 ∧ sgK WkX12_begins_50_f10 f f1 ∧ L1 = L ∧ Q1 = Q) ∧ (11 ≤ (f1 0 48).toInt ∧ (f1 0 48).toInt ≤ 11) ∧ (f1) = sX12_begins_50_f10 f L))) 0 0 (sgA 26 h sz) := by
  refine sg_ofWv (cc := cX12_begins) (maxL := 2) RX12 (by decide) rfl rfl (Nat.le_of_ble_eq_true rfl) ?_
  intro p e s m below meth cd Qz ls hx hb hml hown hts hK hZ hP hS hl hret
  have hA := sgY.self (n := 26) (h := h) (sz := s.heap.size)
  have hl : lv_has ls 2 [(0, .ref (h 0)), (1, .int 50)] := hl
  obtain ⟨H, hH⟩ : ∃ z : Heap, z = s.heap := ⟨_, rfl⟩
  obtain ⟨locs, hlo⟩ : ∃ z : List Loc, z = [] := ⟨_, rfl⟩
  have hP : va_P D vwCl (sgw 26 h (eM ca h) f L Q) H := by rw [hH]; exact hP
  have hS : va_S (sgA 26 h s.heap.size) s.heap H locs := by rw [hH, hlo]; exact hS
  suffices hgo : W p l e ({ frames := 0, cells := 0, slots := 0, locals := 0 }) s m ([.ref (h 0), .int 50] : List Value).toArray below meth cd H locs 0 0 Qz (F0 m 0 ls []) by rw [hH, hlo] at hgo; exact hgo
  clear hH hlo
  obtain ⟨sp, hsp⟩ : ∃ z : sg_F, z = sX12_begins_50_f10 f L := ⟨_, rfl⟩
  have hs : sp = sX12_begins_50_f10 f L := hsp
  have o_1 : (f 0 48).toInt = 10 := (congrArg Int32.toInt (show f 0 48 = 10 from hf_0_48)).trans (by decide)
  have hF : sgK WkX12_begins_50_f10 f f := sgK.rf
  have blk_19 : ∀ (fp_19 : sg_F) (H : Heap) (locs : List Loc) (ls : Array Slot), sp = sX12_begins_50_f10_b19 fp_19 L → 10 ≤ (fp_19 0 48).toInt ∧ (fp_19 0 48).toInt ≤ 10 → sgI loM hiM fp_19 → sgK WkX12_begins_50_f10 f fp_19 → va_P D vwCl (sgw 26 h (eM ca h) fp_19 L Q) H → va_S (sgA 26 h s.heap.size) s.heap H locs → lv_has ls 2 [(0, .ref (h 0))] → W p l e ({ frames := 0, cells := 0, slots := 0, locals := 0 }) s m ([.ref (h 0), .int 50] : List Value).toArray below meth cd H locs 0 0 Qz (F0 m 19 ls []) := by
    intro fp_19 H locs ls hs hy0_19 hI hF hP hS hl
    obtain ⟨v_2, ev_2⟩ : ∃ z : Int32, z = fp_19 0 48 := ⟨_, rfl⟩
    have q_3 : 0 ≤ v_2.toInt ∧ v_2.toInt ≤ 19 := by rw [ev_2]; exact hI 0 48
    have q_4 : (fp_19 0 48).toInt = v_2.toInt := by rw [ev_2]
    refine lv_aload_n hx hb dX12_begins_19 rfl (lv_at hl 0 rfl) ?_
    refine lv_dup hx hb dX12_begins_20 rfl ?_
    refine sl_gM_0_48_12 (v := v_2) hx hb hts hown hK hP (show fp_19 0 48 = v_2 from ev_2.symm) dX12_begins_21 ?_
    refine lv_iconst (v := 1) hx hb dX12_begins_24 ic_1 ?_
    refine lv_iadd hx hb dX12_begins_25 ?_
    refine lv_topi (fun v_5 ev_5 => ?_)
    have q_6 : v_5.toInt = v_2.toInt + 1 := by rw [ev_5]; first | exact cm_add ti_1 (by omega) (by omega) | (have k1 : (1 : Int32).toInt = 1 := ti_1; exact (bn_addI (by omega) (by omega)).trans (by omega))
    refine sl_pM_0_48_12 (x := v_5) hx hb hts hown hh hA hK hP hS dX12_begins_26 (fun f_7 H locs ef_7 hP hS => ?_)
    have hI : sgI loM hiM f_7 := by rw [ef_7]; exact sgI.put hI 0 48 (show 0 ≤ (v_5 : Int32).toInt ∧ (v_5 : Int32).toInt ≤ 19 from ⟨by omega, by omega⟩)
    have hF : sgK WkX12_begins_50_f10 f f_7 := sgK.put hF ef_7 (by rfl)
    have q_8 : (f_7 0 48).toInt = v_5.toInt := (congrArg Int32.toInt (show f_7 0 48 = v_5 from (by rw [ef_7, sg_up_s, sgu_s])))
    exact hret _ _ _ _ f_7 L Q dX12_begins_29 hP hS ⟨⟨hI, hF, rfl, rfl⟩, ⟨by omega, by omega⟩, (Eq.trans (Eq.symm (hs.trans ((spl_e ev_2 (spl_e ev_5 (spl_e ef_7 rfl)))))) hsp)⟩
  refine lv_aload_n hx hb dX12_begins_0 rfl (lv_at hl 0 rfl) ?_
  refine sl_gM_0_48_12 (v := 10) hx hb hts hown hK hP (show f 0 48 = 10 from hf_0_48) dX12_begins_1 ?_
  refine lv_bipush (v := 24) hx hb dX12_begins_4 bp_24 ?_
  refine lv_icmp_ge (tgt := 19) hx hb dX12_begins_6 (by decide) (fun c => absurd c (by decide)) (fun c => ?_)
  refine lv_aload_n hx hb dX12_begins_9 rfl (lv_at hl 0 rfl) ?_
  refine sl_gM_0_47_12 hx hb hts hown hK hP dX12_begins_10 ?_
  refine lv_aload_n hx hb dX12_begins_13 rfl (lv_at hl 0 rfl) ?_
  refine sl_gM_0_48_12 (v := 10) hx hb hts hown hK hP (show f 0 48 = 10 from hf_0_48) dX12_begins_14 ?_
  refine lv_iload_n hx hb dX12_begins_17 rfl (lv_at hl 1 rfl) ?_
  refine sg_iast hx hb hh hA hK hP hS 21 (by decide) 0 (fun _ => rfl) rfl (i := 10) (x := 50) (vp_in_iff.mpr (by decide)) dX12_begins_18 (fun f_10 H locs ef_10 hP hS => ?_)
  have ef_10 : f_10 = sg_up f 21 (sgu (f 21) 10 50) := ef_10
  have hI : sgI loM hiM f_10 := by rw [ef_10]; exact sgI.put hI 21 10 (show 0 ≤ (50 : Int32).toInt ∧ (50 : Int32).toInt ≤ 81 from by decide)
  have hF : sgK WkX12_begins_50_f10 f f_10 := sgK.put hF ef_10 (by rfl)
  exact blk_19 f_10 _ _ _ (hs.trans ((spl_e ef_10 rfl))) (by have zz0_48 : (f_10 0 48).toInt = 10 := (congrArg Int32.toInt (show f_10 0 48 = 10 from (by rw [ef_10, sg_up_n (by decide)]; exact hf_0_48))).trans (by decide); exact ⟨by omega, by omega⟩) hI hF hP hS (lv_sub hl [0] rfl)

abbrev WkX12_begins_11_f11 : List (Nat × Nat × Option Nat) := [(0, 0, some 48), (21, 21, some 11)]
set_option maxHeartbeats 4000000 in
set_option maxRecDepth 100000 in
theorem kX12_begins_11_f11 (l : Launch) (D : va_G) (ca : Nat → ClassId) (za h : Nat → Nat) (hh : sgH 26 h) (f : sg_F) (L : sg_L) (Q : sg_Q) (hI : sgI loM hiM f) (hf_0_48 : f 0 48 = 11) (p0 : 11 ≤ (f 0 48).toInt ∧ (f 0 48).toInt ≤ 11) (sz : Nat) : Met l yX12_begins gwX12_begins { frames := 0, cells := 0, slots := 0, locals := 0 } (sgP D vwCl (tyX ca) 26 h (eM ca h) zcM za f L Q sz [.ref (h 0), .int 11]) (sgQv D vwCl 26 h (eM ca h) sz (fun f1 L1 Q1 => ((sgI loM hiM f1 ∧ sgK WkX12_begins_11_f11 f f1 ∧ L1 = L ∧ Q1 = Q) ∧ (12 ≤ (f1 0 48).toInt ∧ (f1 0 48).toInt ≤ 12) ∧ (f1) = sX12_begins_11_f11 f L))) 0 0 (sgA 26 h sz) := by
  refine sg_ofWv (cc := cX12_begins) (maxL := 2) RX12 (by decide) rfl rfl (Nat.le_of_ble_eq_true rfl) ?_
  intro p e s m below meth cd Qz ls hx hb hml hown hts hK hZ hP hS hl hret
  have hA := sgY.self (n := 26) (h := h) (sz := s.heap.size)
  have hl : lv_has ls 2 [(0, .ref (h 0)), (1, .int 11)] := hl
  obtain ⟨H, hH⟩ : ∃ z : Heap, z = s.heap := ⟨_, rfl⟩
  obtain ⟨locs, hlo⟩ : ∃ z : List Loc, z = [] := ⟨_, rfl⟩
  have hP : va_P D vwCl (sgw 26 h (eM ca h) f L Q) H := by rw [hH]; exact hP
  have hS : va_S (sgA 26 h s.heap.size) s.heap H locs := by rw [hH, hlo]; exact hS
  suffices hgo : W p l e ({ frames := 0, cells := 0, slots := 0, locals := 0 }) s m ([.ref (h 0), .int 11] : List Value).toArray below meth cd H locs 0 0 Qz (F0 m 0 ls []) by rw [hH, hlo] at hgo; exact hgo
  clear hH hlo
  obtain ⟨sp, hsp⟩ : ∃ z : sg_F, z = sX12_begins_11_f11 f L := ⟨_, rfl⟩
  have hs : sp = sX12_begins_11_f11 f L := hsp
  have o_1 : (f 0 48).toInt = 11 := (congrArg Int32.toInt (show f 0 48 = 11 from hf_0_48)).trans (by decide)
  have hF : sgK WkX12_begins_11_f11 f f := sgK.rf
  have blk_19 : ∀ (fp_19 : sg_F) (H : Heap) (locs : List Loc) (ls : Array Slot), sp = sX12_begins_11_f11_b19 fp_19 L → 11 ≤ (fp_19 0 48).toInt ∧ (fp_19 0 48).toInt ≤ 11 → sgI loM hiM fp_19 → sgK WkX12_begins_11_f11 f fp_19 → va_P D vwCl (sgw 26 h (eM ca h) fp_19 L Q) H → va_S (sgA 26 h s.heap.size) s.heap H locs → lv_has ls 2 [(0, .ref (h 0))] → W p l e ({ frames := 0, cells := 0, slots := 0, locals := 0 }) s m ([.ref (h 0), .int 11] : List Value).toArray below meth cd H locs 0 0 Qz (F0 m 19 ls []) := by
    intro fp_19 H locs ls hs hy0_19 hI hF hP hS hl
    obtain ⟨v_2, ev_2⟩ : ∃ z : Int32, z = fp_19 0 48 := ⟨_, rfl⟩
    have q_3 : 0 ≤ v_2.toInt ∧ v_2.toInt ≤ 19 := by rw [ev_2]; exact hI 0 48
    have q_4 : (fp_19 0 48).toInt = v_2.toInt := by rw [ev_2]
    refine lv_aload_n hx hb dX12_begins_19 rfl (lv_at hl 0 rfl) ?_
    refine lv_dup hx hb dX12_begins_20 rfl ?_
    refine sl_gM_0_48_12 (v := v_2) hx hb hts hown hK hP (show fp_19 0 48 = v_2 from ev_2.symm) dX12_begins_21 ?_
    refine lv_iconst (v := 1) hx hb dX12_begins_24 ic_1 ?_
    refine lv_iadd hx hb dX12_begins_25 ?_
    refine lv_topi (fun v_5 ev_5 => ?_)
    have q_6 : v_5.toInt = v_2.toInt + 1 := by rw [ev_5]; first | exact cm_add ti_1 (by omega) (by omega) | (have k1 : (1 : Int32).toInt = 1 := ti_1; exact (bn_addI (by omega) (by omega)).trans (by omega))
    refine sl_pM_0_48_12 (x := v_5) hx hb hts hown hh hA hK hP hS dX12_begins_26 (fun f_7 H locs ef_7 hP hS => ?_)
    have hI : sgI loM hiM f_7 := by rw [ef_7]; exact sgI.put hI 0 48 (show 0 ≤ (v_5 : Int32).toInt ∧ (v_5 : Int32).toInt ≤ 19 from ⟨by omega, by omega⟩)
    have hF : sgK WkX12_begins_11_f11 f f_7 := sgK.put hF ef_7 (by rfl)
    have q_8 : (f_7 0 48).toInt = v_5.toInt := (congrArg Int32.toInt (show f_7 0 48 = v_5 from (by rw [ef_7, sg_up_s, sgu_s])))
    exact hret _ _ _ _ f_7 L Q dX12_begins_29 hP hS ⟨⟨hI, hF, rfl, rfl⟩, ⟨by omega, by omega⟩, (Eq.trans (Eq.symm (hs.trans ((spl_e ev_2 (spl_e ev_5 (spl_e ef_7 rfl)))))) hsp)⟩
  refine lv_aload_n hx hb dX12_begins_0 rfl (lv_at hl 0 rfl) ?_
  refine sl_gM_0_48_12 (v := 11) hx hb hts hown hK hP (show f 0 48 = 11 from hf_0_48) dX12_begins_1 ?_
  refine lv_bipush (v := 24) hx hb dX12_begins_4 bp_24 ?_
  refine lv_icmp_ge (tgt := 19) hx hb dX12_begins_6 (by decide) (fun c => absurd c (by decide)) (fun c => ?_)
  refine lv_aload_n hx hb dX12_begins_9 rfl (lv_at hl 0 rfl) ?_
  refine sl_gM_0_47_12 hx hb hts hown hK hP dX12_begins_10 ?_
  refine lv_aload_n hx hb dX12_begins_13 rfl (lv_at hl 0 rfl) ?_
  refine sl_gM_0_48_12 (v := 11) hx hb hts hown hK hP (show f 0 48 = 11 from hf_0_48) dX12_begins_14 ?_
  refine lv_iload_n hx hb dX12_begins_17 rfl (lv_at hl 1 rfl) ?_
  refine sg_iast hx hb hh hA hK hP hS 21 (by decide) 0 (fun _ => rfl) rfl (i := 11) (x := 11) (vp_in_iff.mpr (by decide)) dX12_begins_18 (fun f_10 H locs ef_10 hP hS => ?_)
  have ef_10 : f_10 = sg_up f 21 (sgu (f 21) 11 11) := ef_10
  have hI : sgI loM hiM f_10 := by rw [ef_10]; exact sgI.put hI 21 11 (show 0 ≤ (11 : Int32).toInt ∧ (11 : Int32).toInt ≤ 81 from by decide)
  have hF : sgK WkX12_begins_11_f11 f f_10 := sgK.put hF ef_10 (by rfl)
  exact blk_19 f_10 _ _ _ (hs.trans ((spl_e ef_10 rfl))) (by have zz0_48 : (f_10 0 48).toInt = 11 := (congrArg Int32.toInt (show f_10 0 48 = 11 from (by rw [ef_10, sg_up_n (by decide)]; exact hf_0_48))).trans (by decide); exact ⟨by omega, by omega⟩) hI hF hP hS (lv_sub hl [0] rfl)

abbrev WkX12_slipsAs_1_f11_f7 : List (Nat × Nat × Option Nat) := [(0, 0, some 48), (21, 21, some 11)]
set_option maxHeartbeats 4000000 in
set_option maxRecDepth 100000 in
theorem kX12_slipsAs_1_f11_f7 (l : Launch) (D : va_G) (ca : Nat → ClassId) (za h : Nat → Nat) (hh : sgH 26 h) (f : sg_F) (L : sg_L) (Q : sg_Q) (hI : sgI loM hiM f) (x1 : Int32) (hf_0_48 : f 0 48 = 11) (hf_0_49 : f 0 49 = 7) (b1 : 1 ≤ x1.toInt ∧ x1.toInt ≤ 1) (p0 : 11 ≤ (f 0 48).toInt ∧ (f 0 48).toInt ≤ 11) (sz : Nat) : Met l yX12_slipsAs gwX12_slipsAs { frames := 1, cells := 0, slots := 0, locals := 21 } (sgP D vwCl (tyX ca) 26 h (eM ca h) zcM za f L Q sz [.ref (h 0), .int 1, .int x1]) (sgQi D vwCl 26 h (eM ca h) sz (fun r f1 L1 Q1 => ((sgI loM hiM f1 ∧ sgK WkX12_slipsAs_1_f11_f7 f f1 ∧ L1 = L ∧ Q1 = Q) ∧ True ∧ (12 ≤ (f1 0 48).toInt ∧ (f1 0 48).toInt ≤ 12) ∧ (r, f1) = sX12_slipsAs_1_f11_f7 x1 f L))) 0 0 (sgA 26 h sz) := by
  refine sg_ofWi (cc := cX12_slipsAs) (maxL := 4) RX12 (by decide) rfl rfl (Nat.le_of_ble_eq_true rfl) ?_
  intro p e s m below meth cd Qz ls hx hb hml hown hts hK hZ hP hS hl hret
  have hA := sgY.self (n := 26) (h := h) (sz := s.heap.size)
  have hl : lv_has ls 4 [(0, .ref (h 0)), (1, .int 1), (2, .int x1)] := hl
  obtain ⟨H, hH⟩ : ∃ z : Heap, z = s.heap := ⟨_, rfl⟩
  obtain ⟨locs, hlo⟩ : ∃ z : List Loc, z = [] := ⟨_, rfl⟩
  have hP : va_P D vwCl (sgw 26 h (eM ca h) f L Q) H := by rw [hH]; exact hP
  have hS : va_S (sgA 26 h s.heap.size) s.heap H locs := by rw [hH, hlo]; exact hS
  suffices hgo : W p l e ({ frames := 1, cells := 0, slots := 0, locals := 21 }) s m ([.ref (h 0), .int 1, .int x1] : List Value).toArray below meth cd H locs 0 0 Qz (F0 m 0 ls []) by rw [hH, hlo] at hgo; exact hgo
  clear hH hlo
  obtain ⟨sp, hsp⟩ : ∃ z : Int32 × sg_F, z = sX12_slipsAs_1_f11_f7 x1 f L := ⟨_, rfl⟩
  have hs : sp = sX12_slipsAs_1_f11_f7 x1 f L := hsp
  have o_1 : (f 0 48).toInt = 11 := (congrArg Int32.toInt (show f 0 48 = 11 from hf_0_48)).trans (by decide)
  have hF : sgK WkX12_slipsAs_1_f11_f7 f f := sgK.rf
  refine lv_iload_n hx hb dX12_slipsAs_0 rfl (lv_at hl 1 rfl) ?_
  refine lv_iconst (v := 3) hx hb dX12_slipsAs_1 ic_3 ?_
  refine lv_icmp_eq (tgt := 10) hx hb dX12_slipsAs_2 (by decide) (fun c => absurd c (by decide)) (fun c => ?_)
  refine lv_iload_n hx hb dX12_slipsAs_5 rfl (lv_at hl 1 rfl) ?_
  refine lv_iconst (v := 5) hx hb dX12_slipsAs_6 ic_5 ?_
  refine lv_icmp_ne (tgt := 25) hx hb dX12_slipsAs_7 (by decide) (fun c => ?_) (fun c => absurd c (by decide))
  refine lv_iload_n hx hb dX12_slipsAs_25 rfl (lv_at hl 1 rfl) ?_
  refine lv_iconst (v := 4) hx hb dX12_slipsAs_26 ic_4 ?_
  refine lv_icmp_eq (tgt := 36) hx hb dX12_slipsAs_27 (by decide) (fun c => absurd c (by decide)) (fun c => ?_)
  refine lv_iload_n hx hb dX12_slipsAs_30 rfl (lv_at hl 1 rfl) ?_
  refine lv_bipush (v := 7) hx hb dX12_slipsAs_31 bp_7 ?_
  refine lv_icmp_ne (tgt := 61) hx hb dX12_slipsAs_33 (by decide) (fun c => ?_) (fun c => absurd c (by decide))
  refine lv_aload_n hx hb dX12_slipsAs_61 rfl (lv_at hl 0 rfl) ?_
  refine lv_bipush (v := 11) hx hb dX12_slipsAs_62 bp_11 ?_
  have q_2 : (f 0 48).toInt = 11 := (congrArg Int32.toInt (show f 0 48 = 11 from hf_0_48)).trans (by decide)
  refine sg_callv (va_runV (As := [.int 11]) (rest := []) ⟨hx, hb, hml, hown, hts⟩ (kX12_begins_11_f11 l D ca za h hh f L Q hI hf_0_48 (by have k0 : (11 : Int32).toInt = 11 := ti_11; omega) H.size) (sl_c12_begins_0_0_0_0_12 hts ⟨Nat.le_of_ble_eq_true rfl, Nat.le_of_ble_eq_true rfl⟩) (sl_vM_0 hA hK hP hS hZ) rfl rfl hl.1 rfl (lv_room (Nat.le_of_ble_eq_true rfl)) dX12_slipsAs_64 ⟨Nat.le_refl _, Nat.le_refl _⟩) hA hS (fun f_4 L_5 Q_6 H locs hq hP hS => ?_)
  obtain ⟨⟨hI, hk_f_4, eL9, eQ9⟩, p_7, u_8⟩ := hq
  rw [eL9, eQ9] at hP; clear eL9 eQ9
  have hF : sgK WkX12_slipsAs_1_f11_f7 f f_4 := sgK.tr hF hk_f_4 (by decide +kernel)
  obtain ⟨v_9, ev_9⟩ : ∃ z : Int32, z = f_4 0 48 := ⟨_, rfl⟩
  have q_10 : 0 ≤ v_9.toInt ∧ v_9.toInt ≤ 19 := by rw [ev_9]; exact hI 0 48
  have q_11 : (f_4 0 48).toInt = v_9.toInt := (congrArg Int32.toInt (show f_4 0 48 = v_9 from ev_9.symm))
  refine lv_iload_n hx hb dX12_slipsAs_67 rfl (lv_at hl 2 rfl) ?_
  refine lv_aload_n hx hb dX12_slipsAs_68 rfl (lv_at hl 0 rfl) ?_
  refine sl_gM_0_50_12 (v := (f_4 0 50)) hx hb hts hown hK hP rfl dX12_slipsAs_69 ?_
  refine lv_topi (fun v_13 ev_13 => ?_)
  have q_14 : 0 ≤ v_13.toInt ∧ v_13.toInt ≤ 49 := by rw [ev_13]; exact hI 0 50
  refine lv_ixor hx hb dX12_slipsAs_72 ?_
  refine lv_topi (fun v_15 ev_15 => ?_)
  exact hret _ _ _ _ (v_15) f_4 L Q dX12_slipsAs_73 hP hS ⟨⟨hI, hF, rfl, rfl⟩, trivial, ⟨by omega, by omega⟩, (Eq.trans (Eq.symm (hs.trans ((spl_e u_8 (spl_e ev_9 (spl_e ev_13 (spl_e ev_15 rfl))))))) hsp)⟩

abbrev WkX12_begins_20_f12 : List (Nat × Nat × Option Nat) := [(0, 0, some 48), (21, 21, some 12)]
set_option maxHeartbeats 4000000 in
set_option maxRecDepth 100000 in
theorem kX12_begins_20_f12 (l : Launch) (D : va_G) (ca : Nat → ClassId) (za h : Nat → Nat) (hh : sgH 26 h) (f : sg_F) (L : sg_L) (Q : sg_Q) (hI : sgI loM hiM f) (hf_0_48 : f 0 48 = 12) (p0 : 12 ≤ (f 0 48).toInt ∧ (f 0 48).toInt ≤ 12) (sz : Nat) : Met l yX12_begins gwX12_begins { frames := 0, cells := 0, slots := 0, locals := 0 } (sgP D vwCl (tyX ca) 26 h (eM ca h) zcM za f L Q sz [.ref (h 0), .int 20]) (sgQv D vwCl 26 h (eM ca h) sz (fun f1 L1 Q1 => ((sgI loM hiM f1 ∧ sgK WkX12_begins_20_f12 f f1 ∧ L1 = L ∧ Q1 = Q) ∧ (13 ≤ (f1 0 48).toInt ∧ (f1 0 48).toInt ≤ 13) ∧ (f1) = sX12_begins_20_f12 f L))) 0 0 (sgA 26 h sz) := by
  refine sg_ofWv (cc := cX12_begins) (maxL := 2) RX12 (by decide) rfl rfl (Nat.le_of_ble_eq_true rfl) ?_
  intro p e s m below meth cd Qz ls hx hb hml hown hts hK hZ hP hS hl hret
  have hA := sgY.self (n := 26) (h := h) (sz := s.heap.size)
  have hl : lv_has ls 2 [(0, .ref (h 0)), (1, .int 20)] := hl
  obtain ⟨H, hH⟩ : ∃ z : Heap, z = s.heap := ⟨_, rfl⟩
  obtain ⟨locs, hlo⟩ : ∃ z : List Loc, z = [] := ⟨_, rfl⟩
  have hP : va_P D vwCl (sgw 26 h (eM ca h) f L Q) H := by rw [hH]; exact hP
  have hS : va_S (sgA 26 h s.heap.size) s.heap H locs := by rw [hH, hlo]; exact hS
  suffices hgo : W p l e ({ frames := 0, cells := 0, slots := 0, locals := 0 }) s m ([.ref (h 0), .int 20] : List Value).toArray below meth cd H locs 0 0 Qz (F0 m 0 ls []) by rw [hH, hlo] at hgo; exact hgo
  clear hH hlo
  obtain ⟨sp, hsp⟩ : ∃ z : sg_F, z = sX12_begins_20_f12 f L := ⟨_, rfl⟩
  have hs : sp = sX12_begins_20_f12 f L := hsp
  have o_1 : (f 0 48).toInt = 12 := (congrArg Int32.toInt (show f 0 48 = 12 from hf_0_48)).trans (by decide)
  have hF : sgK WkX12_begins_20_f12 f f := sgK.rf
  have blk_19 : ∀ (fp_19 : sg_F) (H : Heap) (locs : List Loc) (ls : Array Slot), sp = sX12_begins_20_f12_b19 fp_19 L → 12 ≤ (fp_19 0 48).toInt ∧ (fp_19 0 48).toInt ≤ 12 → sgI loM hiM fp_19 → sgK WkX12_begins_20_f12 f fp_19 → va_P D vwCl (sgw 26 h (eM ca h) fp_19 L Q) H → va_S (sgA 26 h s.heap.size) s.heap H locs → lv_has ls 2 [(0, .ref (h 0))] → W p l e ({ frames := 0, cells := 0, slots := 0, locals := 0 }) s m ([.ref (h 0), .int 20] : List Value).toArray below meth cd H locs 0 0 Qz (F0 m 19 ls []) := by
    intro fp_19 H locs ls hs hy0_19 hI hF hP hS hl
    obtain ⟨v_2, ev_2⟩ : ∃ z : Int32, z = fp_19 0 48 := ⟨_, rfl⟩
    have q_3 : 0 ≤ v_2.toInt ∧ v_2.toInt ≤ 19 := by rw [ev_2]; exact hI 0 48
    have q_4 : (fp_19 0 48).toInt = v_2.toInt := by rw [ev_2]
    refine lv_aload_n hx hb dX12_begins_19 rfl (lv_at hl 0 rfl) ?_
    refine lv_dup hx hb dX12_begins_20 rfl ?_
    refine sl_gM_0_48_12 (v := v_2) hx hb hts hown hK hP (show fp_19 0 48 = v_2 from ev_2.symm) dX12_begins_21 ?_
    refine lv_iconst (v := 1) hx hb dX12_begins_24 ic_1 ?_
    refine lv_iadd hx hb dX12_begins_25 ?_
    refine lv_topi (fun v_5 ev_5 => ?_)
    have q_6 : v_5.toInt = v_2.toInt + 1 := by rw [ev_5]; first | exact cm_add ti_1 (by omega) (by omega) | (have k1 : (1 : Int32).toInt = 1 := ti_1; exact (bn_addI (by omega) (by omega)).trans (by omega))
    refine sl_pM_0_48_12 (x := v_5) hx hb hts hown hh hA hK hP hS dX12_begins_26 (fun f_7 H locs ef_7 hP hS => ?_)
    have hI : sgI loM hiM f_7 := by rw [ef_7]; exact sgI.put hI 0 48 (show 0 ≤ (v_5 : Int32).toInt ∧ (v_5 : Int32).toInt ≤ 19 from ⟨by omega, by omega⟩)
    have hF : sgK WkX12_begins_20_f12 f f_7 := sgK.put hF ef_7 (by rfl)
    have q_8 : (f_7 0 48).toInt = v_5.toInt := (congrArg Int32.toInt (show f_7 0 48 = v_5 from (by rw [ef_7, sg_up_s, sgu_s])))
    exact hret _ _ _ _ f_7 L Q dX12_begins_29 hP hS ⟨⟨hI, hF, rfl, rfl⟩, ⟨by omega, by omega⟩, (Eq.trans (Eq.symm (hs.trans ((spl_e ev_2 (spl_e ev_5 (spl_e ef_7 rfl)))))) hsp)⟩
  refine lv_aload_n hx hb dX12_begins_0 rfl (lv_at hl 0 rfl) ?_
  refine sl_gM_0_48_12 (v := 12) hx hb hts hown hK hP (show f 0 48 = 12 from hf_0_48) dX12_begins_1 ?_
  refine lv_bipush (v := 24) hx hb dX12_begins_4 bp_24 ?_
  refine lv_icmp_ge (tgt := 19) hx hb dX12_begins_6 (by decide) (fun c => absurd c (by decide)) (fun c => ?_)
  refine lv_aload_n hx hb dX12_begins_9 rfl (lv_at hl 0 rfl) ?_
  refine sl_gM_0_47_12 hx hb hts hown hK hP dX12_begins_10 ?_
  refine lv_aload_n hx hb dX12_begins_13 rfl (lv_at hl 0 rfl) ?_
  refine sl_gM_0_48_12 (v := 12) hx hb hts hown hK hP (show f 0 48 = 12 from hf_0_48) dX12_begins_14 ?_
  refine lv_iload_n hx hb dX12_begins_17 rfl (lv_at hl 1 rfl) ?_
  refine sg_iast hx hb hh hA hK hP hS 21 (by decide) 0 (fun _ => rfl) rfl (i := 12) (x := 20) (vp_in_iff.mpr (by decide)) dX12_begins_18 (fun f_10 H locs ef_10 hP hS => ?_)
  have ef_10 : f_10 = sg_up f 21 (sgu (f 21) 12 20) := ef_10
  have hI : sgI loM hiM f_10 := by rw [ef_10]; exact sgI.put hI 21 12 (show 0 ≤ (20 : Int32).toInt ∧ (20 : Int32).toInt ≤ 81 from by decide)
  have hF : sgK WkX12_begins_20_f12 f f_10 := sgK.put hF ef_10 (by rfl)
  exact blk_19 f_10 _ _ _ (hs.trans ((spl_e ef_10 rfl))) (by have zz0_48 : (f_10 0 48).toInt = 12 := (congrArg Int32.toInt (show f_10 0 48 = 12 from (by rw [ef_10, sg_up_n (by decide)]; exact hf_0_48))).trans (by decide); exact ⟨by omega, by omega⟩) hI hF hP hS (lv_sub hl [0] rfl)

abbrev WkX12_begins_1_f13 : List (Nat × Nat × Option Nat) := [(0, 0, some 48), (21, 21, some 13)]
set_option maxHeartbeats 4000000 in
set_option maxRecDepth 100000 in
theorem kX12_begins_1_f13 (l : Launch) (D : va_G) (ca : Nat → ClassId) (za h : Nat → Nat) (hh : sgH 26 h) (f : sg_F) (L : sg_L) (Q : sg_Q) (hI : sgI loM hiM f) (hf_0_48 : f 0 48 = 13) (p0 : 13 ≤ (f 0 48).toInt ∧ (f 0 48).toInt ≤ 13) (sz : Nat) : Met l yX12_begins gwX12_begins { frames := 0, cells := 0, slots := 0, locals := 0 } (sgP D vwCl (tyX ca) 26 h (eM ca h) zcM za f L Q sz [.ref (h 0), .int 1]) (sgQv D vwCl 26 h (eM ca h) sz (fun f1 L1 Q1 => ((sgI loM hiM f1 ∧ sgK WkX12_begins_1_f13 f f1 ∧ L1 = L ∧ Q1 = Q) ∧ (14 ≤ (f1 0 48).toInt ∧ (f1 0 48).toInt ≤ 14) ∧ (f1) = sX12_begins_1_f13 f L))) 0 0 (sgA 26 h sz) := by
  refine sg_ofWv (cc := cX12_begins) (maxL := 2) RX12 (by decide) rfl rfl (Nat.le_of_ble_eq_true rfl) ?_
  intro p e s m below meth cd Qz ls hx hb hml hown hts hK hZ hP hS hl hret
  have hA := sgY.self (n := 26) (h := h) (sz := s.heap.size)
  have hl : lv_has ls 2 [(0, .ref (h 0)), (1, .int 1)] := hl
  obtain ⟨H, hH⟩ : ∃ z : Heap, z = s.heap := ⟨_, rfl⟩
  obtain ⟨locs, hlo⟩ : ∃ z : List Loc, z = [] := ⟨_, rfl⟩
  have hP : va_P D vwCl (sgw 26 h (eM ca h) f L Q) H := by rw [hH]; exact hP
  have hS : va_S (sgA 26 h s.heap.size) s.heap H locs := by rw [hH, hlo]; exact hS
  suffices hgo : W p l e ({ frames := 0, cells := 0, slots := 0, locals := 0 }) s m ([.ref (h 0), .int 1] : List Value).toArray below meth cd H locs 0 0 Qz (F0 m 0 ls []) by rw [hH, hlo] at hgo; exact hgo
  clear hH hlo
  obtain ⟨sp, hsp⟩ : ∃ z : sg_F, z = sX12_begins_1_f13 f L := ⟨_, rfl⟩
  have hs : sp = sX12_begins_1_f13 f L := hsp
  have o_1 : (f 0 48).toInt = 13 := (congrArg Int32.toInt (show f 0 48 = 13 from hf_0_48)).trans (by decide)
  have hF : sgK WkX12_begins_1_f13 f f := sgK.rf
  have blk_19 : ∀ (fp_19 : sg_F) (H : Heap) (locs : List Loc) (ls : Array Slot), sp = sX12_begins_1_f13_b19 fp_19 L → 13 ≤ (fp_19 0 48).toInt ∧ (fp_19 0 48).toInt ≤ 13 → sgI loM hiM fp_19 → sgK WkX12_begins_1_f13 f fp_19 → va_P D vwCl (sgw 26 h (eM ca h) fp_19 L Q) H → va_S (sgA 26 h s.heap.size) s.heap H locs → lv_has ls 2 [(0, .ref (h 0))] → W p l e ({ frames := 0, cells := 0, slots := 0, locals := 0 }) s m ([.ref (h 0), .int 1] : List Value).toArray below meth cd H locs 0 0 Qz (F0 m 19 ls []) := by
    intro fp_19 H locs ls hs hy0_19 hI hF hP hS hl
    obtain ⟨v_2, ev_2⟩ : ∃ z : Int32, z = fp_19 0 48 := ⟨_, rfl⟩
    have q_3 : 0 ≤ v_2.toInt ∧ v_2.toInt ≤ 19 := by rw [ev_2]; exact hI 0 48
    have q_4 : (fp_19 0 48).toInt = v_2.toInt := by rw [ev_2]
    refine lv_aload_n hx hb dX12_begins_19 rfl (lv_at hl 0 rfl) ?_
    refine lv_dup hx hb dX12_begins_20 rfl ?_
    refine sl_gM_0_48_12 (v := v_2) hx hb hts hown hK hP (show fp_19 0 48 = v_2 from ev_2.symm) dX12_begins_21 ?_
    refine lv_iconst (v := 1) hx hb dX12_begins_24 ic_1 ?_
    refine lv_iadd hx hb dX12_begins_25 ?_
    refine lv_topi (fun v_5 ev_5 => ?_)
    have q_6 : v_5.toInt = v_2.toInt + 1 := by rw [ev_5]; first | exact cm_add ti_1 (by omega) (by omega) | (have k1 : (1 : Int32).toInt = 1 := ti_1; exact (bn_addI (by omega) (by omega)).trans (by omega))
    refine sl_pM_0_48_12 (x := v_5) hx hb hts hown hh hA hK hP hS dX12_begins_26 (fun f_7 H locs ef_7 hP hS => ?_)
    have hI : sgI loM hiM f_7 := by rw [ef_7]; exact sgI.put hI 0 48 (show 0 ≤ (v_5 : Int32).toInt ∧ (v_5 : Int32).toInt ≤ 19 from ⟨by omega, by omega⟩)
    have hF : sgK WkX12_begins_1_f13 f f_7 := sgK.put hF ef_7 (by rfl)
    have q_8 : (f_7 0 48).toInt = v_5.toInt := (congrArg Int32.toInt (show f_7 0 48 = v_5 from (by rw [ef_7, sg_up_s, sgu_s])))
    exact hret _ _ _ _ f_7 L Q dX12_begins_29 hP hS ⟨⟨hI, hF, rfl, rfl⟩, ⟨by omega, by omega⟩, (Eq.trans (Eq.symm (hs.trans ((spl_e ev_2 (spl_e ev_5 (spl_e ef_7 rfl)))))) hsp)⟩
  refine lv_aload_n hx hb dX12_begins_0 rfl (lv_at hl 0 rfl) ?_
  refine sl_gM_0_48_12 (v := 13) hx hb hts hown hK hP (show f 0 48 = 13 from hf_0_48) dX12_begins_1 ?_
  refine lv_bipush (v := 24) hx hb dX12_begins_4 bp_24 ?_
  refine lv_icmp_ge (tgt := 19) hx hb dX12_begins_6 (by decide) (fun c => absurd c (by decide)) (fun c => ?_)
  refine lv_aload_n hx hb dX12_begins_9 rfl (lv_at hl 0 rfl) ?_
  refine sl_gM_0_47_12 hx hb hts hown hK hP dX12_begins_10 ?_
  refine lv_aload_n hx hb dX12_begins_13 rfl (lv_at hl 0 rfl) ?_
  refine sl_gM_0_48_12 (v := 13) hx hb hts hown hK hP (show f 0 48 = 13 from hf_0_48) dX12_begins_14 ?_
  refine lv_iload_n hx hb dX12_begins_17 rfl (lv_at hl 1 rfl) ?_
  refine sg_iast hx hb hh hA hK hP hS 21 (by decide) 0 (fun _ => rfl) rfl (i := 13) (x := 1) (vp_in_iff.mpr (by decide)) dX12_begins_18 (fun f_10 H locs ef_10 hP hS => ?_)
  have ef_10 : f_10 = sg_up f 21 (sgu (f 21) 13 1) := ef_10
  have hI : sgI loM hiM f_10 := by rw [ef_10]; exact sgI.put hI 21 13 (show 0 ≤ (1 : Int32).toInt ∧ (1 : Int32).toInt ≤ 81 from by decide)
  have hF : sgK WkX12_begins_1_f13 f f_10 := sgK.put hF ef_10 (by rfl)
  exact blk_19 f_10 _ _ _ (hs.trans ((spl_e ef_10 rfl))) (by have zz0_48 : (f_10 0 48).toInt = 13 := (congrArg Int32.toInt (show f_10 0 48 = 13 from (by rw [ef_10, sg_up_n (by decide)]; exact hf_0_48))).trans (by decide); exact ⟨by omega, by omega⟩) hI hF hP hS (lv_sub hl [0] rfl)

abbrev WkX12_setsAs_0_f13_f7 : List (Nat × Nat × Option Nat) := [(0, 0, some 48), (21, 21, some 13)]
set_option maxHeartbeats 4000000 in
set_option maxRecDepth 100000 in
theorem kX12_setsAs_0_f13_f7 (l : Launch) (D : va_G) (ca : Nat → ClassId) (za h : Nat → Nat) (hh : sgH 26 h) (f : sg_F) (L : sg_L) (Q : sg_Q) (hI : sgI loM hiM f) (x1 : Int32) (hf_0_48 : f 0 48 = 13) (hf_0_49 : f 0 49 = 7) (b1 : 2 ≤ x1.toInt ∧ x1.toInt ≤ 2) (p0 : 13 ≤ (f 0 48).toInt ∧ (f 0 48).toInt ≤ 13) (sz : Nat) : Met l yX12_setsAs gwX12_setsAs { frames := 1, cells := 0, slots := 0, locals := 21 } (sgP D vwCl (tyX ca) 26 h (eM ca h) zcM za f L Q sz [.ref (h 0), .int 0, .int x1]) (sgQi D vwCl 26 h (eM ca h) sz (fun r f1 L1 Q1 => ((sgI loM hiM f1 ∧ sgK WkX12_setsAs_0_f13_f7 f f1 ∧ L1 = L ∧ Q1 = Q) ∧ (2 ≤ r.toInt ∧ r.toInt ≤ 51) ∧ (14 ≤ (f1 0 48).toInt ∧ (f1 0 48).toInt ≤ 14) ∧ (r, f1) = sX12_setsAs_0_f13_f7 x1 f L))) 0 0 (sgA 26 h sz) := by
  refine sg_ofWi (cc := cX12_setsAs) (maxL := 3) RX12 (by decide) rfl rfl (Nat.le_of_ble_eq_true rfl) ?_
  intro p e s m below meth cd Qz ls hx hb hml hown hts hK hZ hP hS hl hret
  have hA := sgY.self (n := 26) (h := h) (sz := s.heap.size)
  have hl : lv_has ls 3 [(0, .ref (h 0)), (1, .int 0), (2, .int x1)] := hl
  obtain ⟨H, hH⟩ : ∃ z : Heap, z = s.heap := ⟨_, rfl⟩
  obtain ⟨locs, hlo⟩ : ∃ z : List Loc, z = [] := ⟨_, rfl⟩
  have hP : va_P D vwCl (sgw 26 h (eM ca h) f L Q) H := by rw [hH]; exact hP
  have hS : va_S (sgA 26 h s.heap.size) s.heap H locs := by rw [hH, hlo]; exact hS
  suffices hgo : W p l e ({ frames := 1, cells := 0, slots := 0, locals := 21 }) s m ([.ref (h 0), .int 0, .int x1] : List Value).toArray below meth cd H locs 0 0 Qz (F0 m 0 ls []) by rw [hH, hlo] at hgo; exact hgo
  clear hH hlo
  obtain ⟨sp, hsp⟩ : ∃ z : Int32 × sg_F, z = sX12_setsAs_0_f13_f7 x1 f L := ⟨_, rfl⟩
  have hs : sp = sX12_setsAs_0_f13_f7 x1 f L := hsp
  have o_1 : (f 0 48).toInt = 13 := (congrArg Int32.toInt (show f 0 48 = 13 from hf_0_48)).trans (by decide)
  have hF : sgK WkX12_setsAs_0_f13_f7 f f := sgK.rf
  refine lv_iload_n hx hb dX12_setsAs_0 rfl (lv_at hl 1 rfl) ?_
  refine lv_iconst (v := 1) hx hb dX12_setsAs_1 ic_1 ?_
  refine lv_icmp_eq (tgt := 16) hx hb dX12_setsAs_2 (by decide) (fun c => absurd c (by decide)) (fun c => ?_)
  refine lv_iload_n hx hb dX12_setsAs_5 rfl (lv_at hl 1 rfl) ?_
  refine lv_iconst (v := 4) hx hb dX12_setsAs_6 ic_4 ?_
  refine lv_icmp_eq (tgt := 16) hx hb dX12_setsAs_7 (by decide) (fun c => absurd c (by decide)) (fun c => ?_)
  refine lv_iload_n hx hb dX12_setsAs_10 rfl (lv_at hl 1 rfl) ?_
  refine lv_bipush (v := 7) hx hb dX12_setsAs_11 bp_7 ?_
  refine lv_icmp_ne (tgt := 31) hx hb dX12_setsAs_13 (by decide) (fun c => ?_) (fun c => absurd c (by decide))
  refine lv_iload_n hx hb dX12_setsAs_31 rfl (lv_at hl 1 rfl) ?_
  refine lv_bipush (v := 6) hx hb dX12_setsAs_32 bp_6 ?_
  refine lv_icmp_ne (tgt := 52) hx hb dX12_setsAs_34 (by decide) (fun c => ?_) (fun c => absurd c (by decide))
  refine lv_aload_n hx hb dX12_setsAs_52 rfl (lv_at hl 0 rfl) ?_
  refine lv_iconst (v := 1) hx hb dX12_setsAs_53 ic_1 ?_
  have q_2 : (f 0 48).toInt = 13 := (congrArg Int32.toInt (show f 0 48 = 13 from hf_0_48)).trans (by decide)
  refine sg_callv (va_runV (As := [.int 1]) (rest := []) ⟨hx, hb, hml, hown, hts⟩ (kX12_begins_1_f13 l D ca za h hh f L Q hI hf_0_48 (by have k0 : (1 : Int32).toInt = 1 := ti_1; omega) H.size) (sl_c12_begins_0_0_0_0_12 hts ⟨Nat.le_of_ble_eq_true rfl, Nat.le_of_ble_eq_true rfl⟩) (sl_vM_0 hA hK hP hS hZ) rfl rfl hl.1 rfl (lv_room (Nat.le_of_ble_eq_true rfl)) dX12_setsAs_54 ⟨Nat.le_refl _, Nat.le_refl _⟩) hA hS (fun f_4 L_5 Q_6 H locs hq hP hS => ?_)
  obtain ⟨⟨hI, hk_f_4, eL9, eQ9⟩, p_7, u_8⟩ := hq
  rw [eL9, eQ9] at hP; clear eL9 eQ9
  have hF : sgK WkX12_setsAs_0_f13_f7 f f_4 := sgK.tr hF hk_f_4 (by decide +kernel)
  obtain ⟨v_9, ev_9⟩ : ∃ z : Int32, z = f_4 0 48 := ⟨_, rfl⟩
  have q_10 : 0 ≤ v_9.toInt ∧ v_9.toInt ≤ 19 := by rw [ev_9]; exact hI 0 48
  have q_11 : (f_4 0 48).toInt = v_9.toInt := (congrArg Int32.toInt (show f_4 0 48 = v_9 from ev_9.symm))
  refine lv_iload_n hx hb dX12_setsAs_57 rfl (lv_at hl 2 rfl) ?_
  refine lv_aload_n hx hb dX12_setsAs_58 rfl (lv_at hl 0 rfl) ?_
  refine sl_gM_0_50_12 (v := (f_4 0 50)) hx hb hts hown hK hP rfl dX12_setsAs_59 ?_
  refine lv_topi (fun v_13 ev_13 => ?_)
  have q_14 : 0 ≤ v_13.toInt ∧ v_13.toInt ≤ 49 := by rw [ev_13]; exact hI 0 50
  refine lv_iadd hx hb dX12_setsAs_62 ?_
  refine lv_topi (fun v_15 ev_15 => ?_)
  have q_16 : v_15.toInt = x1.toInt + v_13.toInt := by rw [ev_15]; first | exact bn_addI (by omega) (by omega) | exact (bn_addI (by omega) (by omega)).trans (by omega)
  exact hret _ _ _ _ (v_15) f_4 L Q dX12_setsAs_63 hP hS ⟨⟨hI, hF, rfl, rfl⟩, ⟨by omega, by omega⟩, ⟨by omega, by omega⟩, (Eq.trans (Eq.symm (hs.trans ((spl_e u_8 (spl_e ev_9 (spl_e ev_13 (spl_e ev_15 rfl))))))) hsp)⟩

abbrev WkX12_setsAs_7_f12_f7 : List (Nat × Nat × Option Nat) := [(0, 0, some 48), (21, 21, some 12), (21, 21, some 13)]
set_option maxHeartbeats 4000000 in
set_option maxRecDepth 100000 in
theorem kX12_setsAs_7_f12_f7 (l : Launch) (D : va_G) (ca : Nat → ClassId) (za h : Nat → Nat) (hh : sgH 26 h) (f : sg_F) (L : sg_L) (Q : sg_Q) (hI : sgI loM hiM f) (x1 : Int32) (hf_0_48 : f 0 48 = 12) (hf_0_49 : f 0 49 = 7) (b1 : 2 ≤ x1.toInt ∧ x1.toInt ≤ 2) (p0 : 12 ≤ (f 0 48).toInt ∧ (f 0 48).toInt ≤ 12) (sz : Nat) : Met l yX12_setsAs gwX12_setsAs { frames := 2, cells := 0, slots := 0, locals := 43 } (sgP D vwCl (tyX ca) 26 h (eM ca h) zcM za f L Q sz [.ref (h 0), .int 7, .int x1]) (sgQi D vwCl 26 h (eM ca h) sz (fun r f1 L1 Q1 => ((sgI loM hiM f1 ∧ sgK WkX12_setsAs_7_f12_f7 f f1 ∧ L1 = L ∧ Q1 = Q) ∧ (5 ≤ r.toInt ∧ r.toInt ≤ 54) ∧ (14 ≤ (f1 0 48).toInt ∧ (f1 0 48).toInt ≤ 14) ∧ (r, f1) = sX12_setsAs_7_f12_f7 x1 f L))) 0 0 (sgA 26 h sz) := by
  refine sg_ofWi (cc := cX12_setsAs) (maxL := 3) RX12 (by decide) rfl rfl (Nat.le_of_ble_eq_true rfl) ?_
  intro p e s m below meth cd Qz ls hx hb hml hown hts hK hZ hP hS hl hret
  have hA := sgY.self (n := 26) (h := h) (sz := s.heap.size)
  have hl : lv_has ls 3 [(0, .ref (h 0)), (1, .int 7), (2, .int x1)] := hl
  obtain ⟨H, hH⟩ : ∃ z : Heap, z = s.heap := ⟨_, rfl⟩
  obtain ⟨locs, hlo⟩ : ∃ z : List Loc, z = [] := ⟨_, rfl⟩
  have hP : va_P D vwCl (sgw 26 h (eM ca h) f L Q) H := by rw [hH]; exact hP
  have hS : va_S (sgA 26 h s.heap.size) s.heap H locs := by rw [hH, hlo]; exact hS
  suffices hgo : W p l e ({ frames := 2, cells := 0, slots := 0, locals := 43 }) s m ([.ref (h 0), .int 7, .int x1] : List Value).toArray below meth cd H locs 0 0 Qz (F0 m 0 ls []) by rw [hH, hlo] at hgo; exact hgo
  clear hH hlo
  obtain ⟨sp, hsp⟩ : ∃ z : Int32 × sg_F, z = sX12_setsAs_7_f12_f7 x1 f L := ⟨_, rfl⟩
  have hs : sp = sX12_setsAs_7_f12_f7 x1 f L := hsp
  have o_1 : (f 0 48).toInt = 12 := (congrArg Int32.toInt (show f 0 48 = 12 from hf_0_48)).trans (by decide)
  have hF : sgK WkX12_setsAs_7_f12_f7 f f := sgK.rf
  have blk_16 : ∀ (fp_16 : sg_F) (H : Heap) (locs : List Loc) (ls : Array Slot), sp = sX12_setsAs_7_f12_f7_b16 x1 fp_16 L → 12 ≤ (fp_16 0 48).toInt ∧ (fp_16 0 48).toInt ≤ 12 → 7 ≤ (fp_16 0 49).toInt ∧ (fp_16 0 49).toInt ≤ 7 → sgI loM hiM fp_16 → sgK WkX12_setsAs_7_f12_f7 f fp_16 → va_P D vwCl (sgw 26 h (eM ca h) fp_16 L Q) H → va_S (sgA 26 h s.heap.size) s.heap H locs → lv_has ls 3 [(0, .ref (h 0)), (2, .int x1)] → W p l e ({ frames := 2, cells := 0, slots := 0, locals := 43 }) s m ([.ref (h 0), .int 7, .int x1] : List Value).toArray below meth cd H locs 0 0 Qz (F0 m 16 ls []) := by
    intro fp_16 H locs ls hs hy0_16 hy1_16 hI hF hP hS hl
    obtain ⟨v_2, ev_2⟩ : ∃ z : Int32, z = fp_16 0 48 := ⟨_, rfl⟩
    have q_3 : 0 ≤ v_2.toInt ∧ v_2.toInt ≤ 19 := by rw [ev_2]; exact hI 0 48
    have q_4 : (fp_16 0 48).toInt = v_2.toInt := by rw [ev_2]
    obtain ⟨v_5, ev_5⟩ : ∃ z : Int32, z = fp_16 0 49 := ⟨_, rfl⟩
    have q_6 : 0 ≤ v_5.toInt ∧ v_5.toInt ≤ 7 := by rw [ev_5]; exact hI 0 49
    have q_7 : (fp_16 0 49).toInt = v_5.toInt := by rw [ev_5]
    have m_8 : fp_16 0 49 = 7 := (hF 0 49 (by decide)).trans hf_0_49
    refine lv_aload_n hx hb dX12_setsAs_16 rfl (lv_at hl 0 rfl) ?_
    refine lv_bipush (v := 20) hx hb dX12_setsAs_17 bp_20 ?_
    have c_9 : v_2 = 12 := Int32.toInt_inj.mp (by have k9 : (12 : Int32).toInt = 12 := ti_12; omega)
    have q_10 : (fp_16 0 48).toInt = 12 := (congrArg Int32.toInt (show fp_16 0 48 = 12 from (Eq.trans ev_2.symm c_9))).trans (by decide)
    refine sg_callv (va_runV (As := [.int 20]) (rest := []) ⟨hx, hb, hml, hown, hts⟩ (kX12_begins_20_f12 l D ca za h hh fp_16 L Q hI (Eq.trans ev_2.symm c_9) (by have k0 : (20 : Int32).toInt = 20 := ti_20; omega) H.size) (sl_c12_begins_0_0_0_0_12 hts ⟨Nat.le_of_ble_eq_true rfl, Nat.le_of_ble_eq_true rfl⟩) (sl_vM_0 hA hK hP hS hZ) rfl rfl hl.1 rfl (lv_room (Nat.le_of_ble_eq_true rfl)) dX12_setsAs_19 ⟨Nat.le_refl _, Nat.le_refl _⟩) hA hS (fun f_12 L_13 Q_14 H locs hq hP hS => ?_)
    obtain ⟨⟨hI, hk_f_12, eL9, eQ9⟩, p_15, u_16⟩ := hq
    rw [eL9, eQ9] at hP; clear eL9 eQ9
    have hF : sgK WkX12_setsAs_7_f12_f7 f f_12 := sgK.tr hF hk_f_12 (by decide +kernel)
    obtain ⟨v_17, ev_17⟩ : ∃ z : Int32, z = f_12 0 48 := ⟨_, rfl⟩
    have q_18 : 0 ≤ v_17.toInt ∧ v_17.toInt ≤ 19 := by rw [ev_17]; exact hI 0 48
    have q_19 : (f_12 0 48).toInt = v_17.toInt := (congrArg Int32.toInt (show f_12 0 48 = v_17 from ev_17.symm))
    refine lv_aload_n hx hb dX12_setsAs_22 rfl (lv_at hl 0 rfl) ?_
    refine lv_iconst (v := 0) hx hb dX12_setsAs_23 ic_0 ?_
    refine lv_iload_n hx hb dX12_setsAs_24 rfl (lv_at hl 1 rfl) ?_
    have c_21 : v_17 = 13 := Int32.toInt_inj.mp (by have k9 : (13 : Int32).toInt = 13 := ti_13; omega)
    have q_22 : (f_12 0 48).toInt = 13 := (congrArg Int32.toInt (show f_12 0 48 = 13 from (Eq.trans ev_17.symm c_21))).trans (by decide)
    refine sg_calli (va_runV (As := [.int 0, .int x1]) (rest := []) ⟨hx, hb, hml, hown, hts⟩ (kX12_setsAs_0_f13_f7 l D ca za h hh f_12 L Q hI x1 (Eq.trans ev_17.symm c_21) ((hk_f_12 0 49 (by decide)).trans m_8) b1 (by have k0 : (0 : Int32).toInt = 0 := ti_0; omega) H.size) (sl_c12_setsAs_1_0_0_21_12 hts ⟨Nat.le_of_ble_eq_true rfl, Nat.le_of_ble_eq_true rfl⟩) (sl_vM_0 hA hK hP hS hZ) rfl rfl hl.1 rfl (lv_room (Nat.le_of_ble_eq_true rfl)) dX12_setsAs_25 ⟨Nat.le_refl _, Nat.le_refl _⟩) hA hS (fun r_27 f_24 L_25 Q_26 H locs hq hP hS => ?_)
    obtain ⟨⟨hI, hk_f_24, eL9, eQ9⟩, hq, p_28, u_29⟩ := hq
    rw [eL9, eQ9] at hP; clear eL9 eQ9
    have hF : sgK WkX12_setsAs_7_f12_f7 f f_24 := sgK.tr hF hk_f_24 (by decide +kernel)
    obtain ⟨v_30, ev_30⟩ : ∃ z : Int32, z = f_24 0 48 := ⟨_, rfl⟩
    have q_31 : 0 ≤ v_30.toInt ∧ v_30.toInt ≤ 19 := by rw [ev_30]; exact hI 0 48
    have q_32 : (f_24 0 48).toInt = v_30.toInt := (congrArg Int32.toInt (show f_24 0 48 = v_30 from ev_30.symm))
    have k_34 : (0 : Int32).toInt = 0 := by decide
    refine lv_iconst (v := 3) hx hb dX12_setsAs_28 ic_3 ?_
    refine lv_iadd hx hb dX12_setsAs_29 ?_
    refine lv_topi (fun v_35 ev_35 => ?_)
    have q_36 : v_35.toInt = r_27.toInt + 3 := by rw [ev_35]; first | exact cm_add ti_3 (by omega) (by omega) | (have k1 : (3 : Int32).toInt = 3 := ti_3; exact (bn_addI (by omega) (by omega)).trans (by omega))
    exact hret _ _ _ _ (v_35) f_24 L Q dX12_setsAs_30 hP hS ⟨⟨hI, hF, rfl, rfl⟩, ⟨by omega, by omega⟩, ⟨by omega, by omega⟩, (Eq.trans (Eq.symm (hs.trans ((spl_e ev_2 (spl_e ev_5 (spl_e u_16 (spl_e ev_17 (spl2_e u_29 (spl_e ev_30 (spl_e ev_35 rfl)))))))))) hsp)⟩
  refine lv_iload_n hx hb dX12_setsAs_0 rfl (lv_at hl 1 rfl) ?_
  refine lv_iconst (v := 1) hx hb dX12_setsAs_1 ic_1 ?_
  refine lv_icmp_eq (tgt := 16) hx hb dX12_setsAs_2 (by decide) (fun c => absurd c (by decide)) (fun c => ?_)
  refine lv_iload_n hx hb dX12_setsAs_5 rfl (lv_at hl 1 rfl) ?_
  refine lv_iconst (v := 4) hx hb dX12_setsAs_6 ic_4 ?_
  refine lv_icmp_eq (tgt := 16) hx hb dX12_setsAs_7 (by decide) (fun c => absurd c (by decide)) (fun c => ?_)
  refine lv_iload_n hx hb dX12_setsAs_10 rfl (lv_at hl 1 rfl) ?_
  refine lv_bipush (v := 7) hx hb dX12_setsAs_11 bp_7 ?_
  refine lv_icmp_ne (tgt := 31) hx hb dX12_setsAs_13 (by decide) (fun c => absurd c (by decide)) (fun c => ?_)
  exact blk_16 f _ _ _ hs (by have zz0_48 : (f 0 48).toInt = 12 := (congrArg Int32.toInt (show f 0 48 = 12 from hf_0_48)).trans (by decide); exact ⟨by omega, by omega⟩) (by have zz0_49 : (f 0 49).toInt = 7 := (congrArg Int32.toInt (show f 0 49 = 7 from hf_0_49)).trans (by decide); exact ⟨by omega, by omega⟩) hI hF hP hS (lv_sub hl [0, 2] rfl)

abbrev WkX12_slipsAs_7_f10_f7 : List (Nat × Nat × Option Nat) := [(0, 0, some 48), (21, 21, some 10), (21, 21, some 11), (21, 21, some 12), (21, 21, some 13)]
set_option maxHeartbeats 4000000 in
set_option maxRecDepth 100000 in
theorem kX12_slipsAs_7_f10_f7 (l : Launch) (D : va_G) (ca : Nat → ClassId) (za h : Nat → Nat) (hh : sgH 26 h) (f : sg_F) (L : sg_L) (Q : sg_Q) (hI : sgI loM hiM f) (x1 : Int32) (hf_0_48 : f 0 48 = 10) (hf_0_49 : f 0 49 = 7) (b1 : 1 ≤ x1.toInt ∧ x1.toInt ≤ 1) (p0 : 10 ≤ (f 0 48).toInt ∧ (f 0 48).toInt ≤ 10) (sz : Nat) : Met l yX12_slipsAs gwX12_slipsAs { frames := 3, cells := 0, slots := 0, locals := 65 } (sgP D vwCl (tyX ca) 26 h (eM ca h) zcM za f L Q sz [.ref (h 0), .int 7, .int x1]) (sgQi D vwCl 26 h (eM ca h) sz (fun r f1 L1 Q1 => ((sgI loM hiM f1 ∧ sgK WkX12_slipsAs_7_f10_f7 f f1 ∧ L1 = L ∧ Q1 = Q) ∧ True ∧ (14 ≤ (f1 0 48).toInt ∧ (f1 0 48).toInt ≤ 14) ∧ (r, f1) = sX12_slipsAs_7_f10_f7 x1 f L))) 0 0 (sgA 26 h sz) := by
  refine sg_ofWi (cc := cX12_slipsAs) (maxL := 4) RX12 (by decide) rfl rfl (Nat.le_of_ble_eq_true rfl) ?_
  intro p e s m below meth cd Qz ls hx hb hml hown hts hK hZ hP hS hl hret
  have hA := sgY.self (n := 26) (h := h) (sz := s.heap.size)
  have hl : lv_has ls 4 [(0, .ref (h 0)), (1, .int 7), (2, .int x1)] := hl
  obtain ⟨H, hH⟩ : ∃ z : Heap, z = s.heap := ⟨_, rfl⟩
  obtain ⟨locs, hlo⟩ : ∃ z : List Loc, z = [] := ⟨_, rfl⟩
  have hP : va_P D vwCl (sgw 26 h (eM ca h) f L Q) H := by rw [hH]; exact hP
  have hS : va_S (sgA 26 h s.heap.size) s.heap H locs := by rw [hH, hlo]; exact hS
  suffices hgo : W p l e ({ frames := 3, cells := 0, slots := 0, locals := 65 }) s m ([.ref (h 0), .int 7, .int x1] : List Value).toArray below meth cd H locs 0 0 Qz (F0 m 0 ls []) by rw [hH, hlo] at hgo; exact hgo
  clear hH hlo
  obtain ⟨sp, hsp⟩ : ∃ z : Int32 × sg_F, z = sX12_slipsAs_7_f10_f7 x1 f L := ⟨_, rfl⟩
  have hs : sp = sX12_slipsAs_7_f10_f7 x1 f L := hsp
  have o_1 : (f 0 48).toInt = 10 := (congrArg Int32.toInt (show f 0 48 = 10 from hf_0_48)).trans (by decide)
  have hF : sgK WkX12_slipsAs_7_f10_f7 f f := sgK.rf
  have blk_36 : ∀ (fp_36 : sg_F) (H : Heap) (locs : List Loc) (ls : Array Slot), sp = sX12_slipsAs_7_f10_f7_b36 x1 fp_36 L → 10 ≤ (fp_36 0 48).toInt ∧ (fp_36 0 48).toInt ≤ 10 → 7 ≤ (fp_36 0 49).toInt ∧ (fp_36 0 49).toInt ≤ 7 → sgI loM hiM fp_36 → sgK WkX12_slipsAs_7_f10_f7 f fp_36 → va_P D vwCl (sgw 26 h (eM ca h) fp_36 L Q) H → va_S (sgA 26 h s.heap.size) s.heap H locs → lv_has ls 4 [(0, .ref (h 0)), (2, .int x1)] → W p l e ({ frames := 3, cells := 0, slots := 0, locals := 65 }) s m ([.ref (h 0), .int 7, .int x1] : List Value).toArray below meth cd H locs 0 0 Qz (F0 m 36 ls []) := by
    intro fp_36 H locs ls hs hy0_36 hy1_36 hI hF hP hS hl
    obtain ⟨v_2, ev_2⟩ : ∃ z : Int32, z = fp_36 0 48 := ⟨_, rfl⟩
    have q_3 : 0 ≤ v_2.toInt ∧ v_2.toInt ≤ 19 := by rw [ev_2]; exact hI 0 48
    have q_4 : (fp_36 0 48).toInt = v_2.toInt := by rw [ev_2]
    obtain ⟨v_5, ev_5⟩ : ∃ z : Int32, z = fp_36 0 49 := ⟨_, rfl⟩
    have q_6 : 0 ≤ v_5.toInt ∧ v_5.toInt ≤ 7 := by rw [ev_5]; exact hI 0 49
    have q_7 : (fp_36 0 49).toInt = v_5.toInt := by rw [ev_5]
    have m_8 : fp_36 0 49 = 7 := (hF 0 49 (by decide)).trans hf_0_49
    refine lv_aload_n hx hb dX12_slipsAs_36 rfl (lv_at hl 0 rfl) ?_
    refine lv_bipush (v := 50) hx hb dX12_slipsAs_37 bp_50 ?_
    have c_9 : v_2 = 10 := Int32.toInt_inj.mp (by have k9 : (10 : Int32).toInt = 10 := ti_10; omega)
    have q_10 : (fp_36 0 48).toInt = 10 := (congrArg Int32.toInt (show fp_36 0 48 = 10 from (Eq.trans ev_2.symm c_9))).trans (by decide)
    refine sg_callv (va_runV (As := [.int 50]) (rest := []) ⟨hx, hb, hml, hown, hts⟩ (kX12_begins_50_f10 l D ca za h hh fp_36 L Q hI (Eq.trans ev_2.symm c_9) (by have k0 : (50 : Int32).toInt = 50 := ti_50; omega) H.size) (sl_c12_begins_0_0_0_0_12 hts ⟨Nat.le_of_ble_eq_true rfl, Nat.le_of_ble_eq_true rfl⟩) (sl_vM_0 hA hK hP hS hZ) rfl rfl hl.1 rfl (lv_room (Nat.le_of_ble_eq_true rfl)) dX12_slipsAs_39 ⟨Nat.le_refl _, Nat.le_refl _⟩) hA hS (fun f_12 L_13 Q_14 H locs hq hP hS => ?_)
    obtain ⟨⟨hI, hk_f_12, eL9, eQ9⟩, p_15, u_16⟩ := hq
    rw [eL9, eQ9] at hP; clear eL9 eQ9
    have hF : sgK WkX12_slipsAs_7_f10_f7 f f_12 := sgK.tr hF hk_f_12 (by decide +kernel)
    obtain ⟨v_17, ev_17⟩ : ∃ z : Int32, z = f_12 0 48 := ⟨_, rfl⟩
    have q_18 : 0 ≤ v_17.toInt ∧ v_17.toInt ≤ 19 := by rw [ev_17]; exact hI 0 48
    have q_19 : (f_12 0 48).toInt = v_17.toInt := (congrArg Int32.toInt (show f_12 0 48 = v_17 from ev_17.symm))
    refine lv_aload_n hx hb dX12_slipsAs_42 rfl (lv_at hl 0 rfl) ?_
    refine lv_iconst (v := 1) hx hb dX12_slipsAs_43 ic_1 ?_
    refine lv_iload_n hx hb dX12_slipsAs_44 rfl (lv_at hl 1 rfl) ?_
    have c_21 : v_17 = 11 := Int32.toInt_inj.mp (by have k9 : (11 : Int32).toInt = 11 := ti_11; omega)
    have q_22 : (f_12 0 48).toInt = 11 := (congrArg Int32.toInt (show f_12 0 48 = 11 from (Eq.trans ev_17.symm c_21))).trans (by decide)
    refine sg_calli (va_runV (As := [.int 1, .int x1]) (rest := []) ⟨hx, hb, hml, hown, hts⟩ (kX12_slipsAs_1_f11_f7 l D ca za h hh f_12 L Q hI x1 (Eq.trans ev_17.symm c_21) ((hk_f_12 0 49 (by decide)).trans m_8) b1 (by have k0 : (1 : Int32).toInt = 1 := ti_1; omega) H.size) (sl_c12_slipsAs_1_0_0_21_12 hts ⟨Nat.le_of_ble_eq_true rfl, Nat.le_of_ble_eq_true rfl⟩) (sl_vM_0 hA hK hP hS hZ) rfl rfl hl.1 rfl (lv_room (Nat.le_of_ble_eq_true rfl)) dX12_slipsAs_45 ⟨Nat.le_refl _, Nat.le_refl _⟩) hA hS (fun r_27 f_24 L_25 Q_26 H locs hq hP hS => ?_)
    obtain ⟨⟨hI, hk_f_24, eL9, eQ9⟩, hq, p_28, u_29⟩ := hq
    rw [eL9, eQ9] at hP; clear eL9 eQ9
    have hF : sgK WkX12_slipsAs_7_f10_f7 f f_24 := sgK.tr hF hk_f_24 (by decide +kernel)
    obtain ⟨v_30, ev_30⟩ : ∃ z : Int32, z = f_24 0 48 := ⟨_, rfl⟩
    have q_31 : 0 ≤ v_30.toInt ∧ v_30.toInt ≤ 19 := by rw [ev_30]; exact hI 0 48
    have q_32 : (f_24 0 48).toInt = v_30.toInt := (congrArg Int32.toInt (show f_24 0 48 = v_30 from ev_30.symm))
    have k_34 : (1 : Int32).toInt = 1 := by decide
    refine lv_istore_n (lv' := [(3, .int r_27), (0, .ref (h 0)), (2, .int x1)]) hx hb dX12_slipsAs_48 rfl hl (by decide) rfl (fun ls hl => ?_)
    refine lv_iload_n hx hb dX12_slipsAs_49 rfl (lv_at hl 0 rfl) ?_
    refine lv_aload_n hx hb dX12_slipsAs_50 rfl (lv_at hl 1 rfl) ?_
    refine lv_aload_n hx hb dX12_slipsAs_51 rfl (lv_at hl 1 rfl) ?_
    refine sl_gM_0_49_12 (v := 7) hx hb hts hown hK hP (show f_24 0 49 = 7 from ((hk_f_24 0 49 (by decide)).trans ((hk_f_12 0 49 (by decide)).trans m_8))) dX12_slipsAs_52 ?_
    refine lv_iconst (v := 2) hx hb dX12_slipsAs_55 ic_2 ?_
    have c_35 : v_30 = 12 := Int32.toInt_inj.mp (by have k9 : (12 : Int32).toInt = 12 := ti_12; omega)
    have q_36 : (f_24 0 48).toInt = 12 := (congrArg Int32.toInt (show f_24 0 48 = 12 from (Eq.trans ev_30.symm c_35))).trans (by decide)
    refine sg_calli (va_runV (As := [.int 7, .int 2]) (rest := [.int r_27]) ⟨hx, hb, hml, hown, hts⟩ (kX12_setsAs_7_f12_f7 l D ca za h hh f_24 L Q hI 2 (Eq.trans ev_30.symm c_35) ((hk_f_24 0 49 (by decide)).trans ((hk_f_12 0 49 (by decide)).trans m_8)) (by decide) (by have k0 : (7 : Int32).toInt = 7 := ti_7; have k1 : (2 : Int32).toInt = 2 := ti_2; omega) H.size) (sl_c12_setsAs_2_0_0_43_12 hts ⟨Nat.le_of_ble_eq_true rfl, Nat.le_of_ble_eq_true rfl⟩) (sl_vM_0 hA hK hP hS hZ) rfl rfl hl.1 rfl (lv_room (Nat.le_of_ble_eq_true rfl)) dX12_slipsAs_56 ⟨Nat.le_refl _, Nat.le_refl _⟩) hA hS (fun r_41 f_38 L_39 Q_40 H locs hq hP hS => ?_)
    obtain ⟨⟨hI, hk_f_38, eL9, eQ9⟩, hq, p_42, u_43⟩ := hq
    rw [eL9, eQ9] at hP; clear eL9 eQ9
    have hF : sgK WkX12_slipsAs_7_f10_f7 f f_38 := sgK.tr hF hk_f_38 (by decide +kernel)
    obtain ⟨v_44, ev_44⟩ : ∃ z : Int32, z = f_38 0 48 := ⟨_, rfl⟩
    have q_45 : 0 ≤ v_44.toInt ∧ v_44.toInt ≤ 19 := by rw [ev_44]; exact hI 0 48
    have q_46 : (f_38 0 48).toInt = v_44.toInt := (congrArg Int32.toInt (show f_38 0 48 = v_44 from ev_44.symm))
    have k_48 : (7 : Int32).toInt = 7 := by decide
    have k_49 : (2 : Int32).toInt = 2 := by decide
    refine lv_isub hx hb dX12_slipsAs_59 ?_
    refine lv_topi (fun v_50 ev_50 => ?_)
    exact hret _ _ _ _ (v_50) f_38 L Q dX12_slipsAs_60 hP hS ⟨⟨hI, hF, rfl, rfl⟩, trivial, ⟨by omega, by omega⟩, (Eq.trans (Eq.symm (hs.trans ((spl_e ev_2 (spl_e ev_5 (spl_e u_16 (spl_e ev_17 (spl2_e u_29 (spl_e ev_30 (spl2_e u_43 (spl_e ev_44 (spl_e ev_50 rfl)))))))))))) hsp)⟩
  refine lv_iload_n hx hb dX12_slipsAs_0 rfl (lv_at hl 1 rfl) ?_
  refine lv_iconst (v := 3) hx hb dX12_slipsAs_1 ic_3 ?_
  refine lv_icmp_eq (tgt := 10) hx hb dX12_slipsAs_2 (by decide) (fun c => absurd c (by decide)) (fun c => ?_)
  refine lv_iload_n hx hb dX12_slipsAs_5 rfl (lv_at hl 1 rfl) ?_
  refine lv_iconst (v := 5) hx hb dX12_slipsAs_6 ic_5 ?_
  refine lv_icmp_ne (tgt := 25) hx hb dX12_slipsAs_7 (by decide) (fun c => ?_) (fun c => absurd c (by decide))
  refine lv_iload_n hx hb dX12_slipsAs_25 rfl (lv_at hl 1 rfl) ?_
  refine lv_iconst (v := 4) hx hb dX12_slipsAs_26 ic_4 ?_
  refine lv_icmp_eq (tgt := 36) hx hb dX12_slipsAs_27 (by decide) (fun c => absurd c (by decide)) (fun c => ?_)
  refine lv_iload_n hx hb dX12_slipsAs_30 rfl (lv_at hl 1 rfl) ?_
  refine lv_bipush (v := 7) hx hb dX12_slipsAs_31 bp_7 ?_
  refine lv_icmp_ne (tgt := 61) hx hb dX12_slipsAs_33 (by decide) (fun c => absurd c (by decide)) (fun c => ?_)
  exact blk_36 f _ _ _ hs (by have zz0_48 : (f 0 48).toInt = 10 := (congrArg Int32.toInt (show f 0 48 = 10 from hf_0_48)).trans (by decide); exact ⟨by omega, by omega⟩) (by have zz0_49 : (f 0 49).toInt = 7 := (congrArg Int32.toInt (show f 0 49 = 7 from hf_0_49)).trans (by decide); exact ⟨by omega, by omega⟩) hI hF hP hS (lv_sub hl [0, 2] rfl)

abbrev WkX12_tellsAs_4_f1_f7 : List (Nat × Nat × Option Nat) := [(0, 0, some 48), (21, 21, some 1), (21, 21, some 2), (21, 21, some 3), (21, 21, some 4), (21, 21, some 5), (21, 21, some 6), (21, 21, some 7), (21, 21, some 8), (21, 21, some 9), (21, 21, some 10), (21, 21, some 11), (21, 21, some 12), (21, 21, some 13)]
set_option maxHeartbeats 4000000 in
set_option maxRecDepth 100000 in
theorem kX12_tellsAs_4_f1_f7 (l : Launch) (D : va_G) (ca : Nat → ClassId) (za h : Nat → Nat) (hh : sgH 26 h) (f : sg_F) (L : sg_L) (Q : sg_Q) (hI : sgI loM hiM f) (x1 : Int32) (hf_0_48 : f 0 48 = 1) (hf_0_49 : f 0 49 = 7) (p0 : 1 ≤ (f 0 48).toInt ∧ (f 0 48).toInt ≤ 1) (sz : Nat) : Met l yX12_tellsAs gwX12_tellsAs { frames := 5, cells := 0, slots := 0, locals := 111 } (sgP D vwCl (tyX ca) 26 h (eM ca h) zcM za f L Q sz [.ref (h 0), .int 4, .int x1]) (sgQi D vwCl 26 h (eM ca h) sz (fun r f1 L1 Q1 => ((sgI loM hiM f1 ∧ sgK WkX12_tellsAs_4_f1_f7 f f1 ∧ L1 = L ∧ Q1 = Q) ∧ True ∧ (14 ≤ (f1 0 48).toInt ∧ (f1 0 48).toInt ≤ 14) ∧ (r, f1) = sX12_tellsAs_4_f1_f7 x1 f L))) 0 0 (sgA 26 h sz) := by
  refine sg_ofWi (cc := cX12_tellsAs) (maxL := 4) RX12 (by decide) rfl rfl (Nat.le_of_ble_eq_true rfl) ?_
  intro p e s m below meth cd Qz ls hx hb hml hown hts hK hZ hP hS hl hret
  have hA := sgY.self (n := 26) (h := h) (sz := s.heap.size)
  have hl : lv_has ls 4 [(0, .ref (h 0)), (1, .int 4), (2, .int x1)] := hl
  obtain ⟨H, hH⟩ : ∃ z : Heap, z = s.heap := ⟨_, rfl⟩
  obtain ⟨locs, hlo⟩ : ∃ z : List Loc, z = [] := ⟨_, rfl⟩
  have hP : va_P D vwCl (sgw 26 h (eM ca h) f L Q) H := by rw [hH]; exact hP
  have hS : va_S (sgA 26 h s.heap.size) s.heap H locs := by rw [hH, hlo]; exact hS
  suffices hgo : W p l e ({ frames := 5, cells := 0, slots := 0, locals := 111 }) s m ([.ref (h 0), .int 4, .int x1] : List Value).toArray below meth cd H locs 0 0 Qz (F0 m 0 ls []) by rw [hH, hlo] at hgo; exact hgo
  clear hH hlo
  obtain ⟨sp, hsp⟩ : ∃ z : Int32 × sg_F, z = sX12_tellsAs_4_f1_f7 x1 f L := ⟨_, rfl⟩
  have hs : sp = sX12_tellsAs_4_f1_f7 x1 f L := hsp
  have o_1 : (f 0 48).toInt = 1 := (congrArg Int32.toInt (show f 0 48 = 1 from hf_0_48)).trans (by decide)
  have hF : sgK WkX12_tellsAs_4_f1_f7 f f := sgK.rf
  refine lv_iload_n hx hb dX12_tellsAs_0 rfl (lv_at hl 1 rfl) ?_
  refine lv_iconst (v := 5) hx hb dX12_tellsAs_1 ic_5 ?_
  refine lv_icmp_ne (tgt := 20) hx hb dX12_tellsAs_2 (by decide) (fun c => ?_) (fun c => absurd c (by decide))
  refine lv_iload_n hx hb dX12_tellsAs_20 rfl (lv_at hl 1 rfl) ?_
  refine lv_bipush (v := 7) hx hb dX12_tellsAs_21 bp_7 ?_
  refine lv_icmp_ne (tgt := 41) hx hb dX12_tellsAs_23 (by decide) (fun c => ?_) (fun c => absurd c (by decide))
  refine lv_aload_n hx hb dX12_tellsAs_41 rfl (lv_at hl 0 rfl) ?_
  refine lv_iconst (v := 2) hx hb dX12_tellsAs_42 ic_2 ?_
  have q_2 : (f 0 48).toInt = 1 := (congrArg Int32.toInt (show f 0 48 = 1 from hf_0_48)).trans (by decide)
  refine sg_callv (va_runV (As := [.int 2]) (rest := []) ⟨hx, hb, hml, hown, hts⟩ (kX12_begins_2_f1 l D ca za h hh f L Q hI hf_0_48 (by have k0 : (2 : Int32).toInt = 2 := ti_2; omega) H.size) (sl_c12_begins_0_0_0_0_12 hts ⟨Nat.le_of_ble_eq_true rfl, Nat.le_of_ble_eq_true rfl⟩) (sl_vM_0 hA hK hP hS hZ) rfl rfl hl.1 rfl (lv_room (Nat.le_of_ble_eq_true rfl)) dX12_tellsAs_43 ⟨Nat.le_refl _, Nat.le_refl _⟩) hA hS (fun f_4 L_5 Q_6 H locs hq hP hS => ?_)
  obtain ⟨⟨hI, hk_f_4, eL9, eQ9⟩, p_7, u_8⟩ := hq
  rw [eL9, eQ9] at hP; clear eL9 eQ9
  have hF : sgK WkX12_tellsAs_4_f1_f7 f f_4 := sgK.tr hF hk_f_4 (by decide +kernel)
  obtain ⟨v_9, ev_9⟩ : ∃ z : Int32, z = f_4 0 48 := ⟨_, rfl⟩
  have q_10 : 0 ≤ v_9.toInt ∧ v_9.toInt ≤ 19 := by rw [ev_9]; exact hI 0 48
  have q_11 : (f_4 0 48).toInt = v_9.toInt := (congrArg Int32.toInt (show f_4 0 48 = v_9 from ev_9.symm))
  refine lv_aload_n hx hb dX12_tellsAs_46 rfl (lv_at hl 0 rfl) ?_
  refine lv_aload_n hx hb dX12_tellsAs_47 rfl (lv_at hl 0 rfl) ?_
  refine sl_gM_0_49_12 (v := 7) hx hb hts hown hK hP (show f_4 0 49 = 7 from ((hk_f_4 0 49 (by decide)).trans hf_0_49)) dX12_tellsAs_48 ?_
  refine lv_iload_n hx hb dX12_tellsAs_51 rfl (lv_at hl 2 rfl) ?_
  have c_13 : v_9 = 2 := Int32.toInt_inj.mp (by have k9 : (2 : Int32).toInt = 2 := ti_2; omega)
  have q_14 : (f_4 0 48).toInt = 2 := (congrArg Int32.toInt (show f_4 0 48 = 2 from (Eq.trans ev_9.symm c_13))).trans (by decide)
  refine sg_calli (va_runV (As := [.int 7, .int x1]) (rest := []) ⟨hx, hb, hml, hown, hts⟩ (kX12_sitsAs_7_f2_f7 l D ca za h hh f_4 L Q hI x1 (Eq.trans ev_9.symm c_13) ((hk_f_4 0 49 (by decide)).trans hf_0_49) (by have k0 : (7 : Int32).toInt = 7 := ti_7; omega) H.size) (sl_c12_sitsAs_4_0_0_88_12 hts ⟨Nat.le_of_ble_eq_true rfl, Nat.le_of_ble_eq_true rfl⟩) (sl_vM_0 hA hK hP hS hZ) rfl rfl hl.1 rfl (lv_room (Nat.le_of_ble_eq_true rfl)) dX12_tellsAs_52 ⟨Nat.le_refl _, Nat.le_refl _⟩) hA hS (fun r_19 f_16 L_17 Q_18 H locs hq hP hS => ?_)
  obtain ⟨⟨hI, hk_f_16, eL9, eQ9⟩, hq, p_20, u_21⟩ := hq
  rw [eL9, eQ9] at hP; clear eL9 eQ9
  have hF : sgK WkX12_tellsAs_4_f1_f7 f f_16 := sgK.tr hF hk_f_16 (by decide +kernel)
  obtain ⟨v_22, ev_22⟩ : ∃ z : Int32, z = f_16 0 48 := ⟨_, rfl⟩
  have q_23 : 0 ≤ v_22.toInt ∧ v_22.toInt ≤ 19 := by rw [ev_22]; exact hI 0 48
  have q_24 : (f_16 0 48).toInt = v_22.toInt := (congrArg Int32.toInt (show f_16 0 48 = v_22 from ev_22.symm))
  have k_26 : (7 : Int32).toInt = 7 := by decide
  refine lv_istore_n (lv' := [(3, .int r_19), (0, .ref (h 0)), (1, .int 4), (2, .int x1)]) hx hb dX12_tellsAs_55 rfl hl (by decide) rfl (fun ls hl => ?_)
  refine lv_iload_n hx hb dX12_tellsAs_56 rfl (lv_at hl 0 rfl) ?_
  refine lv_aload_n hx hb dX12_tellsAs_57 rfl (lv_at hl 1 rfl) ?_
  refine lv_aload_n hx hb dX12_tellsAs_58 rfl (lv_at hl 1 rfl) ?_
  refine sl_gM_0_49_12 (v := 7) hx hb hts hown hK hP (show f_16 0 49 = 7 from ((hk_f_16 0 49 (by decide)).trans ((hk_f_4 0 49 (by decide)).trans hf_0_49))) dX12_tellsAs_59 ?_
  refine lv_iconst (v := 1) hx hb dX12_tellsAs_62 ic_1 ?_
  have c_27 : v_22 = 10 := Int32.toInt_inj.mp (by have k9 : (10 : Int32).toInt = 10 := ti_10; omega)
  have q_28 : (f_16 0 48).toInt = 10 := (congrArg Int32.toInt (show f_16 0 48 = 10 from (Eq.trans ev_22.symm c_27))).trans (by decide)
  refine sg_calli (va_runV (As := [.int 7, .int 1]) (rest := [.int r_19]) ⟨hx, hb, hml, hown, hts⟩ (kX12_slipsAs_7_f10_f7 l D ca za h hh f_16 L Q hI 1 (Eq.trans ev_22.symm c_27) ((hk_f_16 0 49 (by decide)).trans ((hk_f_4 0 49 (by decide)).trans hf_0_49)) (by decide) (by have k0 : (7 : Int32).toInt = 7 := ti_7; have k1 : (1 : Int32).toInt = 1 := ti_1; omega) H.size) (sl_c12_slipsAs_3_0_0_65_12 hts ⟨Nat.le_of_ble_eq_true rfl, Nat.le_of_ble_eq_true rfl⟩) (sl_vM_0 hA hK hP hS hZ) rfl rfl hl.1 rfl (lv_room (Nat.le_of_ble_eq_true rfl)) dX12_tellsAs_63 ⟨Nat.le_refl _, Nat.le_refl _⟩) hA hS (fun r_33 f_30 L_31 Q_32 H locs hq hP hS => ?_)
  obtain ⟨⟨hI, hk_f_30, eL9, eQ9⟩, hq, p_34, u_35⟩ := hq
  rw [eL9, eQ9] at hP; clear eL9 eQ9
  have hF : sgK WkX12_tellsAs_4_f1_f7 f f_30 := sgK.tr hF hk_f_30 (by decide +kernel)
  obtain ⟨v_36, ev_36⟩ : ∃ z : Int32, z = f_30 0 48 := ⟨_, rfl⟩
  have q_37 : 0 ≤ v_36.toInt ∧ v_36.toInt ≤ 19 := by rw [ev_36]; exact hI 0 48
  have q_38 : (f_30 0 48).toInt = v_36.toInt := (congrArg Int32.toInt (show f_30 0 48 = v_36 from ev_36.symm))
  have k_40 : (7 : Int32).toInt = 7 := by decide
  have k_41 : (1 : Int32).toInt = 1 := by decide
  refine lv_isub hx hb dX12_tellsAs_66 ?_
  refine lv_topi (fun v_42 ev_42 => ?_)
  exact hret _ _ _ _ (v_42) f_30 L Q dX12_tellsAs_67 hP hS ⟨⟨hI, hF, rfl, rfl⟩, trivial, ⟨by omega, by omega⟩, (Eq.trans (Eq.symm (hs.trans ((spl_e u_8 (spl_e ev_9 (spl2_e u_21 (spl_e ev_22 (spl2_e u_35 (spl_e ev_36 (spl_e ev_42 rfl)))))))))) hsp)⟩

abbrev WkX12_tellsAs_7_f0_f7 : List (Nat × Nat × Option Nat) := [(0, 0, some 48), (21, 21, some 0), (21, 21, some 1), (21, 21, some 2), (21, 21, some 3), (21, 21, some 4), (21, 21, some 5), (21, 21, some 6), (21, 21, some 7), (21, 21, some 8), (21, 21, some 9), (21, 21, some 10), (21, 21, some 11), (21, 21, some 12), (21, 21, some 13)]
set_option maxHeartbeats 4000000 in
set_option maxRecDepth 100000 in
theorem kX12_tellsAs_7_f0_f7 (l : Launch) (D : va_G) (ca : Nat → ClassId) (za h : Nat → Nat) (hh : sgH 26 h) (f : sg_F) (L : sg_L) (Q : sg_Q) (hI : sgI loM hiM f) (x1 : Int32) (hf_0_48 : f 0 48 = 0) (hf_0_49 : f 0 49 = 7) (p0 : 0 ≤ (f 0 48).toInt ∧ (f 0 48).toInt ≤ 0) (sz : Nat) : Met l yX12_tellsAs gwX12_tellsAs { frames := 6, cells := 0, slots := 0, locals := 134 } (sgP D vwCl (tyX ca) 26 h (eM ca h) zcM za f L Q sz [.ref (h 0), .int 7, .int x1]) (sgQi D vwCl 26 h (eM ca h) sz (fun r f1 L1 Q1 => ((sgI loM hiM f1 ∧ sgK WkX12_tellsAs_7_f0_f7 f f1 ∧ L1 = L ∧ Q1 = Q) ∧ True ∧ (14 ≤ (f1 0 48).toInt ∧ (f1 0 48).toInt ≤ 14) ∧ (r, f1) = sX12_tellsAs_7_f0_f7 x1 f L))) 0 0 (sgA 26 h sz) := by
  refine sg_ofWi (cc := cX12_tellsAs) (maxL := 4) RX12 (by decide) rfl rfl (Nat.le_of_ble_eq_true rfl) ?_
  intro p e s m below meth cd Qz ls hx hb hml hown hts hK hZ hP hS hl hret
  have hA := sgY.self (n := 26) (h := h) (sz := s.heap.size)
  have hl : lv_has ls 4 [(0, .ref (h 0)), (1, .int 7), (2, .int x1)] := hl
  obtain ⟨H, hH⟩ : ∃ z : Heap, z = s.heap := ⟨_, rfl⟩
  obtain ⟨locs, hlo⟩ : ∃ z : List Loc, z = [] := ⟨_, rfl⟩
  have hP : va_P D vwCl (sgw 26 h (eM ca h) f L Q) H := by rw [hH]; exact hP
  have hS : va_S (sgA 26 h s.heap.size) s.heap H locs := by rw [hH, hlo]; exact hS
  suffices hgo : W p l e ({ frames := 6, cells := 0, slots := 0, locals := 134 }) s m ([.ref (h 0), .int 7, .int x1] : List Value).toArray below meth cd H locs 0 0 Qz (F0 m 0 ls []) by rw [hH, hlo] at hgo; exact hgo
  clear hH hlo
  obtain ⟨sp, hsp⟩ : ∃ z : Int32 × sg_F, z = sX12_tellsAs_7_f0_f7 x1 f L := ⟨_, rfl⟩
  have hs : sp = sX12_tellsAs_7_f0_f7 x1 f L := hsp
  have o_1 : (f 0 48).toInt = 0 := (congrArg Int32.toInt (show f 0 48 = 0 from hf_0_48)).trans (by decide)
  have hF : sgK WkX12_tellsAs_7_f0_f7 f f := sgK.rf
  refine lv_iload_n hx hb dX12_tellsAs_0 rfl (lv_at hl 1 rfl) ?_
  refine lv_iconst (v := 5) hx hb dX12_tellsAs_1 ic_5 ?_
  refine lv_icmp_ne (tgt := 20) hx hb dX12_tellsAs_2 (by decide) (fun c => ?_) (fun c => absurd c (by decide))
  refine lv_iload_n hx hb dX12_tellsAs_20 rfl (lv_at hl 1 rfl) ?_
  refine lv_bipush (v := 7) hx hb dX12_tellsAs_21 bp_7 ?_
  refine lv_icmp_ne (tgt := 41) hx hb dX12_tellsAs_23 (by decide) (fun c => absurd c (by decide)) (fun c => ?_)
  refine lv_aload_n hx hb dX12_tellsAs_26 rfl (lv_at hl 0 rfl) ?_
  refine lv_bipush (v := 81) hx hb dX12_tellsAs_27 bp_81 ?_
  have q_2 : (f 0 48).toInt = 0 := (congrArg Int32.toInt (show f 0 48 = 0 from hf_0_48)).trans (by decide)
  refine sg_callv (va_runV (As := [.int 81]) (rest := []) ⟨hx, hb, hml, hown, hts⟩ (kX12_begins_81_f0 l D ca za h hh f L Q hI hf_0_48 (by have k0 : (81 : Int32).toInt = 81 := ti_81; omega) H.size) (sl_c12_begins_0_0_0_0_12 hts ⟨Nat.le_of_ble_eq_true rfl, Nat.le_of_ble_eq_true rfl⟩) (sl_vM_0 hA hK hP hS hZ) rfl rfl hl.1 rfl (lv_room (Nat.le_of_ble_eq_true rfl)) dX12_tellsAs_29 ⟨Nat.le_refl _, Nat.le_refl _⟩) hA hS (fun f_4 L_5 Q_6 H locs hq hP hS => ?_)
  obtain ⟨⟨hI, hk_f_4, eL9, eQ9⟩, p_7, u_8⟩ := hq
  rw [eL9, eQ9] at hP; clear eL9 eQ9
  have hF : sgK WkX12_tellsAs_7_f0_f7 f f_4 := sgK.tr hF hk_f_4 (by decide +kernel)
  obtain ⟨v_9, ev_9⟩ : ∃ z : Int32, z = f_4 0 48 := ⟨_, rfl⟩
  have q_10 : 0 ≤ v_9.toInt ∧ v_9.toInt ≤ 19 := by rw [ev_9]; exact hI 0 48
  have q_11 : (f_4 0 48).toInt = v_9.toInt := (congrArg Int32.toInt (show f_4 0 48 = v_9 from ev_9.symm))
  refine lv_aload_n hx hb dX12_tellsAs_32 rfl (lv_at hl 0 rfl) ?_
  refine lv_iconst (v := 4) hx hb dX12_tellsAs_33 ic_4 ?_
  refine lv_iload_n hx hb dX12_tellsAs_34 rfl (lv_at hl 2 rfl) ?_
  have c_13 : v_9 = 1 := Int32.toInt_inj.mp (by have k9 : (1 : Int32).toInt = 1 := ti_1; omega)
  have q_14 : (f_4 0 48).toInt = 1 := (congrArg Int32.toInt (show f_4 0 48 = 1 from (Eq.trans ev_9.symm c_13))).trans (by decide)
  refine sg_calli (va_runV (As := [.int 4, .int x1]) (rest := []) ⟨hx, hb, hml, hown, hts⟩ (kX12_tellsAs_4_f1_f7 l D ca za h hh f_4 L Q hI x1 (Eq.trans ev_9.symm c_13) ((hk_f_4 0 49 (by decide)).trans hf_0_49) (by have k0 : (4 : Int32).toInt = 4 := ti_4; omega) H.size) (sl_c12_tellsAs_5_0_0_111_12 hts ⟨Nat.le_of_ble_eq_true rfl, Nat.le_of_ble_eq_true rfl⟩) (sl_vM_0 hA hK hP hS hZ) rfl rfl hl.1 rfl (lv_room (Nat.le_of_ble_eq_true rfl)) dX12_tellsAs_35 ⟨Nat.le_refl _, Nat.le_refl _⟩) hA hS (fun r_19 f_16 L_17 Q_18 H locs hq hP hS => ?_)
  obtain ⟨⟨hI, hk_f_16, eL9, eQ9⟩, hq, p_20, u_21⟩ := hq
  rw [eL9, eQ9] at hP; clear eL9 eQ9
  have hF : sgK WkX12_tellsAs_7_f0_f7 f f_16 := sgK.tr hF hk_f_16 (by decide +kernel)
  obtain ⟨v_22, ev_22⟩ : ∃ z : Int32, z = f_16 0 48 := ⟨_, rfl⟩
  have q_23 : 0 ≤ v_22.toInt ∧ v_22.toInt ≤ 19 := by rw [ev_22]; exact hI 0 48
  have q_24 : (f_16 0 48).toInt = v_22.toInt := (congrArg Int32.toInt (show f_16 0 48 = v_22 from ev_22.symm))
  have k_26 : (4 : Int32).toInt = 4 := by decide
  refine lv_iconst (v := 1) hx hb dX12_tellsAs_38 ic_1 ?_
  refine lv_isub hx hb dX12_tellsAs_39 ?_
  refine lv_topi (fun v_27 ev_27 => ?_)
  exact hret _ _ _ _ (v_27) f_16 L Q dX12_tellsAs_40 hP hS ⟨⟨hI, hF, rfl, rfl⟩, trivial, ⟨by omega, by omega⟩, (Eq.trans (Eq.symm (hs.trans ((spl_e u_8 (spl_e ev_9 (spl2_e u_21 (spl_e ev_22 (spl_e ev_27 rfl)))))))) hsp)⟩

abbrev WkX12_act : List (Nat × Nat × Option Nat) := [(0, 0, some 48), (0, 0, some 49), (0, 0, some 50), (21, 21, some 0), (21, 21, some 1), (21, 21, some 2), (21, 21, some 3), (21, 21, some 4), (21, 21, some 5), (21, 21, some 6), (21, 21, some 7), (21, 21, some 8), (21, 21, some 9), (21, 21, some 10), (21, 21, some 11), (21, 21, some 12), (21, 21, some 13)]
set_option maxHeartbeats 4000000 in
set_option maxRecDepth 100000 in
theorem kX12_act (l : Launch) (D : va_G) (ca : Nat → ClassId) (za h : Nat → Nat) (hh : sgH 26 h) (f : sg_F) (L : sg_L) (Q : sg_Q) (hI : sgI loM hiM f) (x0 : Int32) (x1 : Int32) (x2 : Int32) (sz : Nat) : Met l yX12_act gwX12_act { frames := 7, cells := 0, slots := 0, locals := 158 } (sgP D vwCl (tyX ca) 26 h (eM ca h) zcM za f L Q sz [.ref (h 0), .int x0, .int x1, .int x2]) (sgQi D vwCl 26 h (eM ca h) sz (fun r f1 L1 Q1 => ((sgI loM hiM f1 ∧ sgK WkX12_act f f1 ∧ L1 = L ∧ Q1 = Q) ∧ True ∧ (r, f1) = sX12_act x0 x1 x2 f L))) 0 0 (sgA 26 h sz) := by
  refine sg_ofWi (cc := cX12_act) (maxL := 4) RX12 (by decide) rfl rfl (Nat.le_of_ble_eq_true rfl) ?_
  intro p e s m below meth cd Qz ls hx hb hml hown hts hK hZ hP hS hl hret
  have hA := sgY.self (n := 26) (h := h) (sz := s.heap.size)
  have hl : lv_has ls 4 [(0, .ref (h 0)), (1, .int x0), (2, .int x1), (3, .int x2)] := hl
  obtain ⟨H, hH⟩ : ∃ z : Heap, z = s.heap := ⟨_, rfl⟩
  obtain ⟨locs, hlo⟩ : ∃ z : List Loc, z = [] := ⟨_, rfl⟩
  have hP : va_P D vwCl (sgw 26 h (eM ca h) f L Q) H := by rw [hH]; exact hP
  have hS : va_S (sgA 26 h s.heap.size) s.heap H locs := by rw [hH, hlo]; exact hS
  suffices hgo : W p l e ({ frames := 7, cells := 0, slots := 0, locals := 158 }) s m ([.ref (h 0), .int x0, .int x1, .int x2] : List Value).toArray below meth cd H locs 0 0 Qz (F0 m 0 ls []) by rw [hH, hlo] at hgo; exact hgo
  clear hH hlo
  obtain ⟨sp, hsp⟩ : ∃ z : Int32 × sg_F, z = sX12_act x0 x1 x2 f L := ⟨_, rfl⟩
  have hs : sp = sX12_act x0 x1 x2 f L := hsp
  have hF : sgK WkX12_act f f := sgK.rf
  refine lv_aload_n hx hb dX12_act_0 rfl (lv_at hl 0 rfl) ?_
  refine lv_iconst (v := 0) hx hb dX12_act_1 ic_0 ?_
  refine sl_pM_0_48_12 (x := 0) hx hb hts hown hh hA hK hP hS dX12_act_2 (fun f_1 H locs ef_1 hP hS => ?_)
  have hI : sgI loM hiM f_1 := by rw [ef_1]; exact sgI.put hI 0 48 (show 0 ≤ (0 : Int32).toInt ∧ (0 : Int32).toInt ≤ 19 from by decide)
  have hF : sgK WkX12_act f f_1 := sgK.put hF ef_1 (by rfl)
  refine lv_aload_n hx hb dX12_act_5 rfl (lv_at hl 0 rfl) ?_
  refine lv_iload_n hx hb dX12_act_6 rfl (lv_at hl 1 rfl) ?_
  obtain ⟨v_2, ev_2⟩ : ∃ z : Int32, z = f_1 0 45 := ⟨_, rfl⟩
  have q_3 : 0 ≤ v_2.toInt ∧ v_2.toInt ≤ 50 := by rw [ev_2]; exact hI 0 45
  have q_4 : (f_1 0 45).toInt = v_2.toInt := (congrArg Int32.toInt (show f_1 0 45 = v_2 from ev_2.symm))
  refine sg_calli (va_runV (As := [.int x0]) (rest := []) ⟨hx, hb, hml, hown, hts⟩ (kX12_isBody l D ca za h hh f_1 L Q hI x0 H.size) (sl_c12_isBody_1_0_0_25_12 hts ⟨Nat.le_of_ble_eq_true rfl, Nat.le_of_ble_eq_true rfl⟩) (sl_vM_0 hA hK hP hS hZ) rfl rfl hl.1 rfl (lv_room (Nat.le_of_ble_eq_true rfl)) dX12_act_7 ⟨Nat.le_refl _, Nat.le_refl _⟩) hA hS (fun r_9 f_6 L_7 Q_8 H locs hq hP hS => ?_)
  obtain ⟨⟨ef9, eL9, eQ9⟩, hq, u_10⟩ := hq
  replace hs := hs.trans (spl_e ef_1 (spl_e ev_2 (spl_e u_10 rfl)))
  rw [ef9, eL9, eQ9] at hP; clear ef9 eL9 eQ9
  rcases hq with ⟨rfl, hq⟩ | ⟨rfl, hq⟩
  · skip
    have hc_11 := hq
    refine lv_if_ne (tgt := 15) hx hb dX12_act_10 (by decide) (fun c => ?_) (fun c => absurd c (by decide))
    refine lv_aload_n hx hb dX12_act_15 rfl (lv_at hl 0 rfl) ?_
    refine lv_aload_n hx hb dX12_act_16 rfl (lv_at hl 0 rfl) ?_
    refine sl_gM_0_46_12 hx hb hts hown hK hP dX12_act_17 ?_
    refine lv_iload_n hx hb dX12_act_20 rfl (lv_at hl 1 rfl) ?_
    refine sg_iald hx hb hK hP 20 (by decide) 0 rfl rfl (i := x0) (vp_in_iff.mpr ⟨by omega, by omega⟩) dX12_act_21 ?_
    refine lv_topi (fun v_12 ev_12 => ?_)
    have q_13 : 0 ≤ v_12.toInt ∧ v_12.toInt ≤ 7 := by rw [ev_12]; exact hI 20 _
    refine sl_pM_0_49_12 (x := v_12) hx hb hts hown hh hA hK hP hS dX12_act_22 (fun f_14 H locs ef_14 hP hS => ?_)
    have hI : sgI loM hiM f_14 := by rw [ef_14]; exact sgI.put hI 0 49 (show 0 ≤ (v_12 : Int32).toInt ∧ (v_12 : Int32).toInt ≤ 7 from q_13)
    have hF : sgK WkX12_act f f_14 := sgK.put hF ef_14 (by rfl)
    refine lv_aload_n hx hb dX12_act_25 rfl (lv_at hl 0 rfl) ?_
    refine lv_iload_n hx hb dX12_act_26 rfl (lv_at hl 1 rfl) ?_
    refine sl_pM_0_50_12 (x := x0) hx hb hts hown hh hA hK hP hS dX12_act_27 (fun f_15 H locs ef_15 hP hS => ?_)
    replace hs := hs.trans ((if_pos rfl).trans (spl_e ev_12 (spl_e ef_14 (spl_e ef_15 rfl))))
    have hI : sgI loM hiM f_15 := by rw [ef_15]; exact sgI.put hI 0 50 (show 0 ≤ (x0 : Int32).toInt ∧ (x0 : Int32).toInt ≤ 49 from ⟨by omega, by omega⟩)
    have hF : sgK WkX12_act f f_15 := sgK.put hF ef_15 (by rfl)
    refine lv_iload_n hx hb dX12_act_30 rfl (lv_at hl 2 rfl) ?_
    rcases (show (x1.toInt ≠ 0 ∧ x1.toInt ≠ 1 ∧ x1.toInt ≠ 2 ∧ x1.toInt ≠ 3) ∨ x1.toInt = 0 ∨ x1.toInt = 1 ∨ x1.toInt = 2 ∨ x1.toInt = 3 from by omega) with c | c | c | c | c
    · skip
      have cs_16 := c
      refine lv_tableOut (x := x1) (tgt := 100) hx hb dX12_act_31 (by omega) (by decide) ?_
      refine lv_iconst (v := 0) hx hb dX12_act_100 ic_0 ?_
      have k99 : (0 : Int32).toInt = 0 := ti_0
      exact hret _ _ _ _ (0) f_15 L Q dX12_act_101 hP hS ⟨⟨hI, hF, rfl, rfl⟩, trivial, (Eq.trans (Eq.symm (hs.trans ((if_neg cs_16.1).trans ((if_neg cs_16.2.1).trans ((if_neg cs_16.2.2.1).trans ((if_neg cs_16.2.2.2).trans rfl)))))) hsp)⟩
    · skip
      have cs_16 := c
      have c_17 := c
      refine lv_tableIn (x := x1) (tgt := 60) hx hb dX12_act_31 (by omega) (by omega) (by rw [c]; rfl) (by decide) ?_
      refine lv_aload_n hx hb dX12_act_60 rfl (lv_at hl 0 rfl) ?_
      refine lv_aload_n hx hb dX12_act_61 rfl (lv_at hl 0 rfl) ?_
      refine sl_gM_0_49_12 (v := v_12) hx hb hts hown hK hP (show f_15 0 49 = v_12 from (by rw [ef_15, sg_up_s, sgu_n (by decide)]; exact (by rw [ef_14, sg_up_s, sgu_s]))) dX12_act_62 ?_
      refine lv_iload_n hx hb dX12_act_65 rfl (lv_at hl 3 rfl) ?_
      rcases (show v_12.toInt = 0 ∨ v_12.toInt = 1 ∨ v_12.toInt = 2 ∨ v_12.toInt = 3 ∨ v_12.toInt = 4 ∨ v_12.toInt = 5 ∨ v_12.toInt = 6 ∨ v_12.toInt = 7 from by omega) with c | c | c | c | c | c | c | c
      · skip
        have cs_18 := c
        have c_19 : v_12 = 0 := Int32.toInt_inj.mp (by have k9 : (0 : Int32).toInt = 0 := ti_0; omega)
        refine W.eq (g2 := F0 m 66 ls [.int x2, .int 0, .ref (h 0)]) (by rw [c_19]) ?_
        have q_20 : (f_15 0 48).toInt = 0 := (congrArg Int32.toInt (show f_15 0 48 = 0 from (by rw [ef_15, sg_up_s, sgu_n (by decide)]; exact (by rw [ef_14, sg_up_s, sgu_n (by decide)]; exact (by rw [ef_1, sg_up_s, sgu_s]))))).trans (by decide)
        refine sg_calli (va_runV (As := [.int 0, .int x2]) (rest := []) ⟨hx, hb, hml, hown, hts⟩ (kX12_setsAs_0_f0_f0 l D ca za h hh f_15 L Q hI x2 (by rw [ef_15, sg_up_s, sgu_n (by decide)]; exact (by rw [ef_14, sg_up_s, sgu_n (by decide)]; exact (by rw [ef_1, sg_up_s, sgu_s]))) (Eq.trans (by rw [ef_15, sg_up_s, sgu_n (by decide)]; exact (by rw [ef_14, sg_up_s, sgu_s])) c_19) (by have k0 : (0 : Int32).toInt = 0 := ti_0; omega) H.size) (sl_c12_setsAs_1_0_0_21_12 hts ⟨Nat.le_of_ble_eq_true rfl, Nat.le_of_ble_eq_true rfl⟩) (sl_vM_0 hA hK hP hS hZ) rfl rfl hl.1 rfl (lv_room (Nat.le_of_ble_eq_true rfl)) dX12_act_66 ⟨Nat.le_refl _, Nat.le_refl _⟩) hA hS (fun r_25 f_22 L_23 Q_24 H locs hq hP hS => ?_)
        obtain ⟨⟨hI, hk_f_22, eL9, eQ9⟩, hq, p_26, u_27⟩ := hq
        rw [eL9, eQ9] at hP; clear eL9 eQ9
        have hF : sgK WkX12_act f f_22 := sgK.tr hF hk_f_22 (by decide +kernel)
        obtain ⟨v_28, ev_28⟩ : ∃ z : Int32, z = f_22 0 48 := ⟨_, rfl⟩
        have q_29 : 0 ≤ v_28.toInt ∧ v_28.toInt ≤ 19 := by rw [ev_28]; exact hI 0 48
        have q_30 : (f_22 0 48).toInt = v_28.toInt := (congrArg Int32.toInt (show f_22 0 48 = v_28 from ev_28.symm))
        have k_32 : (0 : Int32).toInt = 0 := by decide
        exact hret _ _ _ _ (r_25) f_22 L Q dX12_act_69 hP hS ⟨⟨hI, hF, rfl, rfl⟩, trivial, (Eq.trans (Eq.symm (hs.trans ((if_pos cs_16).trans ((if_pos cs_18).trans (spl2_e u_27 (spl_e ev_28 rfl)))))) hsp)⟩
      · skip
        have cs_18 := c
        have c_33 : v_12 = 1 := Int32.toInt_inj.mp (by have k9 : (1 : Int32).toInt = 1 := ti_1; omega)
        refine W.eq (g2 := F0 m 66 ls [.int x2, .int 1, .ref (h 0)]) (by rw [c_33]) ?_
        have q_34 : (f_15 0 48).toInt = 0 := (congrArg Int32.toInt (show f_15 0 48 = 0 from (by rw [ef_15, sg_up_s, sgu_n (by decide)]; exact (by rw [ef_14, sg_up_s, sgu_n (by decide)]; exact (by rw [ef_1, sg_up_s, sgu_s]))))).trans (by decide)
        refine sg_calli (va_runV (As := [.int 1, .int x2]) (rest := []) ⟨hx, hb, hml, hown, hts⟩ (kX12_setsAs_1_f0_f1 l D ca za h hh f_15 L Q hI x2 (by rw [ef_15, sg_up_s, sgu_n (by decide)]; exact (by rw [ef_14, sg_up_s, sgu_n (by decide)]; exact (by rw [ef_1, sg_up_s, sgu_s]))) (Eq.trans (by rw [ef_15, sg_up_s, sgu_n (by decide)]; exact (by rw [ef_14, sg_up_s, sgu_s])) c_33) (by have k0 : (1 : Int32).toInt = 1 := ti_1; omega) H.size) (sl_c12_setsAs_2_0_0_43_12 hts ⟨Nat.le_of_ble_eq_true rfl, Nat.le_of_ble_eq_true rfl⟩) (sl_vM_0 hA hK hP hS hZ) rfl rfl hl.1 rfl (lv_room (Nat.le_of_ble_eq_true rfl)) dX12_act_66 ⟨Nat.le_refl _, Nat.le_refl _⟩) hA hS (fun r_39 f_36 L_37 Q_38 H locs hq hP hS => ?_)
        obtain ⟨⟨hI, hk_f_36, eL9, eQ9⟩, hq, p_40, u_41⟩ := hq
        rw [eL9, eQ9] at hP; clear eL9 eQ9
        have hF : sgK WkX12_act f f_36 := sgK.tr hF hk_f_36 (by decide +kernel)
        obtain ⟨v_42, ev_42⟩ : ∃ z : Int32, z = f_36 0 48 := ⟨_, rfl⟩
        have q_43 : 0 ≤ v_42.toInt ∧ v_42.toInt ≤ 19 := by rw [ev_42]; exact hI 0 48
        have q_44 : (f_36 0 48).toInt = v_42.toInt := (congrArg Int32.toInt (show f_36 0 48 = v_42 from ev_42.symm))
        have k_46 : (1 : Int32).toInt = 1 := by decide
        exact hret _ _ _ _ (r_39) f_36 L Q dX12_act_69 hP hS ⟨⟨hI, hF, rfl, rfl⟩, trivial, (Eq.trans (Eq.symm (hs.trans ((if_pos cs_16).trans ((if_neg (fun z => absurd (z.symm.trans cs_18) (by decide))).trans ((if_pos cs_18).trans (spl2_e u_41 (spl_e ev_42 rfl))))))) hsp)⟩
      · skip
        have cs_18 := c
        have c_47 : v_12 = 2 := Int32.toInt_inj.mp (by have k9 : (2 : Int32).toInt = 2 := ti_2; omega)
        refine W.eq (g2 := F0 m 66 ls [.int x2, .int 2, .ref (h 0)]) (by rw [c_47]) ?_
        have q_48 : (f_15 0 48).toInt = 0 := (congrArg Int32.toInt (show f_15 0 48 = 0 from (by rw [ef_15, sg_up_s, sgu_n (by decide)]; exact (by rw [ef_14, sg_up_s, sgu_n (by decide)]; exact (by rw [ef_1, sg_up_s, sgu_s]))))).trans (by decide)
        refine sg_calli (va_runV (As := [.int 2, .int x2]) (rest := []) ⟨hx, hb, hml, hown, hts⟩ (kX12_setsAs_2_f0_f2 l D ca za h hh f_15 L Q hI x2 (by rw [ef_15, sg_up_s, sgu_n (by decide)]; exact (by rw [ef_14, sg_up_s, sgu_n (by decide)]; exact (by rw [ef_1, sg_up_s, sgu_s]))) (Eq.trans (by rw [ef_15, sg_up_s, sgu_n (by decide)]; exact (by rw [ef_14, sg_up_s, sgu_s])) c_47) (by have k0 : (2 : Int32).toInt = 2 := ti_2; omega) H.size) (sl_c12_setsAs_1_0_0_21_12 hts ⟨Nat.le_of_ble_eq_true rfl, Nat.le_of_ble_eq_true rfl⟩) (sl_vM_0 hA hK hP hS hZ) rfl rfl hl.1 rfl (lv_room (Nat.le_of_ble_eq_true rfl)) dX12_act_66 ⟨Nat.le_refl _, Nat.le_refl _⟩) hA hS (fun r_53 f_50 L_51 Q_52 H locs hq hP hS => ?_)
        obtain ⟨⟨hI, hk_f_50, eL9, eQ9⟩, hq, p_54, u_55⟩ := hq
        rw [eL9, eQ9] at hP; clear eL9 eQ9
        have hF : sgK WkX12_act f f_50 := sgK.tr hF hk_f_50 (by decide +kernel)
        obtain ⟨v_56, ev_56⟩ : ∃ z : Int32, z = f_50 0 48 := ⟨_, rfl⟩
        have q_57 : 0 ≤ v_56.toInt ∧ v_56.toInt ≤ 19 := by rw [ev_56]; exact hI 0 48
        have q_58 : (f_50 0 48).toInt = v_56.toInt := (congrArg Int32.toInt (show f_50 0 48 = v_56 from ev_56.symm))
        have k_60 : (2 : Int32).toInt = 2 := by decide
        exact hret _ _ _ _ (r_53) f_50 L Q dX12_act_69 hP hS ⟨⟨hI, hF, rfl, rfl⟩, trivial, (Eq.trans (Eq.symm (hs.trans ((if_pos cs_16).trans ((if_neg (fun z => absurd (z.symm.trans cs_18) (by decide))).trans ((if_neg (fun z => absurd (z.symm.trans cs_18) (by decide))).trans ((if_pos cs_18).trans (spl2_e u_55 (spl_e ev_56 rfl)))))))) hsp)⟩
      · skip
        have cs_18 := c
        have c_61 : v_12 = 3 := Int32.toInt_inj.mp (by have k9 : (3 : Int32).toInt = 3 := ti_3; omega)
        refine W.eq (g2 := F0 m 66 ls [.int x2, .int 3, .ref (h 0)]) (by rw [c_61]) ?_
        have q_62 : (f_15 0 48).toInt = 0 := (congrArg Int32.toInt (show f_15 0 48 = 0 from (by rw [ef_15, sg_up_s, sgu_n (by decide)]; exact (by rw [ef_14, sg_up_s, sgu_n (by decide)]; exact (by rw [ef_1, sg_up_s, sgu_s]))))).trans (by decide)
        refine sg_calli (va_runV (As := [.int 3, .int x2]) (rest := []) ⟨hx, hb, hml, hown, hts⟩ (kX12_setsAs_3_f0_f3 l D ca za h hh f_15 L Q hI x2 (by rw [ef_15, sg_up_s, sgu_n (by decide)]; exact (by rw [ef_14, sg_up_s, sgu_n (by decide)]; exact (by rw [ef_1, sg_up_s, sgu_s]))) (Eq.trans (by rw [ef_15, sg_up_s, sgu_n (by decide)]; exact (by rw [ef_14, sg_up_s, sgu_s])) c_61) (by have k0 : (3 : Int32).toInt = 3 := ti_3; omega) H.size) (sl_c12_setsAs_1_0_0_21_12 hts ⟨Nat.le_of_ble_eq_true rfl, Nat.le_of_ble_eq_true rfl⟩) (sl_vM_0 hA hK hP hS hZ) rfl rfl hl.1 rfl (lv_room (Nat.le_of_ble_eq_true rfl)) dX12_act_66 ⟨Nat.le_refl _, Nat.le_refl _⟩) hA hS (fun r_67 f_64 L_65 Q_66 H locs hq hP hS => ?_)
        obtain ⟨⟨hI, hk_f_64, eL9, eQ9⟩, hq, p_68, u_69⟩ := hq
        rw [eL9, eQ9] at hP; clear eL9 eQ9
        have hF : sgK WkX12_act f f_64 := sgK.tr hF hk_f_64 (by decide +kernel)
        obtain ⟨v_70, ev_70⟩ : ∃ z : Int32, z = f_64 0 48 := ⟨_, rfl⟩
        have q_71 : 0 ≤ v_70.toInt ∧ v_70.toInt ≤ 19 := by rw [ev_70]; exact hI 0 48
        have q_72 : (f_64 0 48).toInt = v_70.toInt := (congrArg Int32.toInt (show f_64 0 48 = v_70 from ev_70.symm))
        have k_74 : (3 : Int32).toInt = 3 := by decide
        exact hret _ _ _ _ (r_67) f_64 L Q dX12_act_69 hP hS ⟨⟨hI, hF, rfl, rfl⟩, trivial, (Eq.trans (Eq.symm (hs.trans ((if_pos cs_16).trans ((if_neg (fun z => absurd (z.symm.trans cs_18) (by decide))).trans ((if_neg (fun z => absurd (z.symm.trans cs_18) (by decide))).trans ((if_neg (fun z => absurd (z.symm.trans cs_18) (by decide))).trans ((if_pos cs_18).trans (spl2_e u_69 (spl_e ev_70 rfl))))))))) hsp)⟩
      · skip
        have cs_18 := c
        have c_75 : v_12 = 4 := Int32.toInt_inj.mp (by have k9 : (4 : Int32).toInt = 4 := ti_4; omega)
        refine W.eq (g2 := F0 m 66 ls [.int x2, .int 4, .ref (h 0)]) (by rw [c_75]) ?_
        have q_76 : (f_15 0 48).toInt = 0 := (congrArg Int32.toInt (show f_15 0 48 = 0 from (by rw [ef_15, sg_up_s, sgu_n (by decide)]; exact (by rw [ef_14, sg_up_s, sgu_n (by decide)]; exact (by rw [ef_1, sg_up_s, sgu_s]))))).trans (by decide)
        refine sg_calli (va_runV (As := [.int 4, .int x2]) (rest := []) ⟨hx, hb, hml, hown, hts⟩ (kX12_setsAs_4_f0_f4 l D ca za h hh f_15 L Q hI x2 (by rw [ef_15, sg_up_s, sgu_n (by decide)]; exact (by rw [ef_14, sg_up_s, sgu_n (by decide)]; exact (by rw [ef_1, sg_up_s, sgu_s]))) (Eq.trans (by rw [ef_15, sg_up_s, sgu_n (by decide)]; exact (by rw [ef_14, sg_up_s, sgu_s])) c_75) (by have k0 : (4 : Int32).toInt = 4 := ti_4; omega) H.size) (sl_c12_setsAs_2_0_0_43_12 hts ⟨Nat.le_of_ble_eq_true rfl, Nat.le_of_ble_eq_true rfl⟩) (sl_vM_0 hA hK hP hS hZ) rfl rfl hl.1 rfl (lv_room (Nat.le_of_ble_eq_true rfl)) dX12_act_66 ⟨Nat.le_refl _, Nat.le_refl _⟩) hA hS (fun r_81 f_78 L_79 Q_80 H locs hq hP hS => ?_)
        obtain ⟨⟨hI, hk_f_78, eL9, eQ9⟩, hq, p_82, u_83⟩ := hq
        rw [eL9, eQ9] at hP; clear eL9 eQ9
        have hF : sgK WkX12_act f f_78 := sgK.tr hF hk_f_78 (by decide +kernel)
        obtain ⟨v_84, ev_84⟩ : ∃ z : Int32, z = f_78 0 48 := ⟨_, rfl⟩
        have q_85 : 0 ≤ v_84.toInt ∧ v_84.toInt ≤ 19 := by rw [ev_84]; exact hI 0 48
        have q_86 : (f_78 0 48).toInt = v_84.toInt := (congrArg Int32.toInt (show f_78 0 48 = v_84 from ev_84.symm))
        have k_88 : (4 : Int32).toInt = 4 := by decide
        exact hret _ _ _ _ (r_81) f_78 L Q dX12_act_69 hP hS ⟨⟨hI, hF, rfl, rfl⟩, trivial, (Eq.trans (Eq.symm (hs.trans ((if_pos cs_16).trans ((if_neg (fun z => absurd (z.symm.trans cs_18) (by decide))).trans ((if_neg (fun z => absurd (z.symm.trans cs_18) (by decide))).trans ((if_neg (fun z => absurd (z.symm.trans cs_18) (by decide))).trans ((if_neg (fun z => absurd (z.symm.trans cs_18) (by decide))).trans ((if_pos cs_18).trans (spl2_e u_83 (spl_e ev_84 rfl)))))))))) hsp)⟩
      · skip
        have cs_18 := c
        have c_89 : v_12 = 5 := Int32.toInt_inj.mp (by have k9 : (5 : Int32).toInt = 5 := ti_5; omega)
        refine W.eq (g2 := F0 m 66 ls [.int x2, .int 5, .ref (h 0)]) (by rw [c_89]) ?_
        have q_90 : (f_15 0 48).toInt = 0 := (congrArg Int32.toInt (show f_15 0 48 = 0 from (by rw [ef_15, sg_up_s, sgu_n (by decide)]; exact (by rw [ef_14, sg_up_s, sgu_n (by decide)]; exact (by rw [ef_1, sg_up_s, sgu_s]))))).trans (by decide)
        refine sg_calli (va_runV (As := [.int 5, .int x2]) (rest := []) ⟨hx, hb, hml, hown, hts⟩ (kX12_setsAs_5_f0_f5 l D ca za h hh f_15 L Q hI x2 (by rw [ef_15, sg_up_s, sgu_n (by decide)]; exact (by rw [ef_14, sg_up_s, sgu_n (by decide)]; exact (by rw [ef_1, sg_up_s, sgu_s]))) (Eq.trans (by rw [ef_15, sg_up_s, sgu_n (by decide)]; exact (by rw [ef_14, sg_up_s, sgu_s])) c_89) (by have k0 : (5 : Int32).toInt = 5 := ti_5; omega) H.size) (sl_c12_setsAs_1_0_0_21_12 hts ⟨Nat.le_of_ble_eq_true rfl, Nat.le_of_ble_eq_true rfl⟩) (sl_vM_0 hA hK hP hS hZ) rfl rfl hl.1 rfl (lv_room (Nat.le_of_ble_eq_true rfl)) dX12_act_66 ⟨Nat.le_refl _, Nat.le_refl _⟩) hA hS (fun r_95 f_92 L_93 Q_94 H locs hq hP hS => ?_)
        obtain ⟨⟨hI, hk_f_92, eL9, eQ9⟩, hq, p_96, u_97⟩ := hq
        rw [eL9, eQ9] at hP; clear eL9 eQ9
        have hF : sgK WkX12_act f f_92 := sgK.tr hF hk_f_92 (by decide +kernel)
        obtain ⟨v_98, ev_98⟩ : ∃ z : Int32, z = f_92 0 48 := ⟨_, rfl⟩
        have q_99 : 0 ≤ v_98.toInt ∧ v_98.toInt ≤ 19 := by rw [ev_98]; exact hI 0 48
        have q_100 : (f_92 0 48).toInt = v_98.toInt := (congrArg Int32.toInt (show f_92 0 48 = v_98 from ev_98.symm))
        have k_102 : (5 : Int32).toInt = 5 := by decide
        exact hret _ _ _ _ (r_95) f_92 L Q dX12_act_69 hP hS ⟨⟨hI, hF, rfl, rfl⟩, trivial, (Eq.trans (Eq.symm (hs.trans ((if_pos cs_16).trans ((if_neg (fun z => absurd (z.symm.trans cs_18) (by decide))).trans ((if_neg (fun z => absurd (z.symm.trans cs_18) (by decide))).trans ((if_neg (fun z => absurd (z.symm.trans cs_18) (by decide))).trans ((if_neg (fun z => absurd (z.symm.trans cs_18) (by decide))).trans ((if_neg (fun z => absurd (z.symm.trans cs_18) (by decide))).trans ((if_pos cs_18).trans (spl2_e u_97 (spl_e ev_98 rfl))))))))))) hsp)⟩
      · skip
        have cs_18 := c
        have c_103 : v_12 = 6 := Int32.toInt_inj.mp (by have k9 : (6 : Int32).toInt = 6 := ti_6; omega)
        refine W.eq (g2 := F0 m 66 ls [.int x2, .int 6, .ref (h 0)]) (by rw [c_103]) ?_
        have q_104 : (f_15 0 48).toInt = 0 := (congrArg Int32.toInt (show f_15 0 48 = 0 from (by rw [ef_15, sg_up_s, sgu_n (by decide)]; exact (by rw [ef_14, sg_up_s, sgu_n (by decide)]; exact (by rw [ef_1, sg_up_s, sgu_s]))))).trans (by decide)
        refine sg_calli (va_runV (As := [.int 6, .int x2]) (rest := []) ⟨hx, hb, hml, hown, hts⟩ (kX12_setsAs_6_f0_f6 l D ca za h hh f_15 L Q hI x2 (by rw [ef_15, sg_up_s, sgu_n (by decide)]; exact (by rw [ef_14, sg_up_s, sgu_n (by decide)]; exact (by rw [ef_1, sg_up_s, sgu_s]))) (Eq.trans (by rw [ef_15, sg_up_s, sgu_n (by decide)]; exact (by rw [ef_14, sg_up_s, sgu_s])) c_103) (by have k0 : (6 : Int32).toInt = 6 := ti_6; omega) H.size) (sl_c12_setsAs_2_0_0_43_12 hts ⟨Nat.le_of_ble_eq_true rfl, Nat.le_of_ble_eq_true rfl⟩) (sl_vM_0 hA hK hP hS hZ) rfl rfl hl.1 rfl (lv_room (Nat.le_of_ble_eq_true rfl)) dX12_act_66 ⟨Nat.le_refl _, Nat.le_refl _⟩) hA hS (fun r_109 f_106 L_107 Q_108 H locs hq hP hS => ?_)
        obtain ⟨⟨hI, hk_f_106, eL9, eQ9⟩, hq, p_110, u_111⟩ := hq
        rw [eL9, eQ9] at hP; clear eL9 eQ9
        have hF : sgK WkX12_act f f_106 := sgK.tr hF hk_f_106 (by decide +kernel)
        obtain ⟨v_112, ev_112⟩ : ∃ z : Int32, z = f_106 0 48 := ⟨_, rfl⟩
        have q_113 : 0 ≤ v_112.toInt ∧ v_112.toInt ≤ 19 := by rw [ev_112]; exact hI 0 48
        have q_114 : (f_106 0 48).toInt = v_112.toInt := (congrArg Int32.toInt (show f_106 0 48 = v_112 from ev_112.symm))
        have k_116 : (6 : Int32).toInt = 6 := by decide
        exact hret _ _ _ _ (r_109) f_106 L Q dX12_act_69 hP hS ⟨⟨hI, hF, rfl, rfl⟩, trivial, (Eq.trans (Eq.symm (hs.trans ((if_pos cs_16).trans ((if_neg (fun z => absurd (z.symm.trans cs_18) (by decide))).trans ((if_neg (fun z => absurd (z.symm.trans cs_18) (by decide))).trans ((if_neg (fun z => absurd (z.symm.trans cs_18) (by decide))).trans ((if_neg (fun z => absurd (z.symm.trans cs_18) (by decide))).trans ((if_neg (fun z => absurd (z.symm.trans cs_18) (by decide))).trans ((if_neg (fun z => absurd (z.symm.trans cs_18) (by decide))).trans ((if_pos cs_18).trans (spl2_e u_111 (spl_e ev_112 rfl)))))))))))) hsp)⟩
      · skip
        have cs_18 := c
        have c_117 : v_12 = 7 := Int32.toInt_inj.mp (by have k9 : (7 : Int32).toInt = 7 := ti_7; omega)
        refine W.eq (g2 := F0 m 66 ls [.int x2, .int 7, .ref (h 0)]) (by rw [c_117]) ?_
        have q_118 : (f_15 0 48).toInt = 0 := (congrArg Int32.toInt (show f_15 0 48 = 0 from (by rw [ef_15, sg_up_s, sgu_n (by decide)]; exact (by rw [ef_14, sg_up_s, sgu_n (by decide)]; exact (by rw [ef_1, sg_up_s, sgu_s]))))).trans (by decide)
        refine sg_calli (va_runV (As := [.int 7, .int x2]) (rest := []) ⟨hx, hb, hml, hown, hts⟩ (kX12_setsAs_7_f0_f7 l D ca za h hh f_15 L Q hI x2 (by rw [ef_15, sg_up_s, sgu_n (by decide)]; exact (by rw [ef_14, sg_up_s, sgu_n (by decide)]; exact (by rw [ef_1, sg_up_s, sgu_s]))) (Eq.trans (by rw [ef_15, sg_up_s, sgu_n (by decide)]; exact (by rw [ef_14, sg_up_s, sgu_s])) c_117) (by have k0 : (7 : Int32).toInt = 7 := ti_7; omega) H.size) (sl_c12_setsAs_2_0_0_43_12 hts ⟨Nat.le_of_ble_eq_true rfl, Nat.le_of_ble_eq_true rfl⟩) (sl_vM_0 hA hK hP hS hZ) rfl rfl hl.1 rfl (lv_room (Nat.le_of_ble_eq_true rfl)) dX12_act_66 ⟨Nat.le_refl _, Nat.le_refl _⟩) hA hS (fun r_123 f_120 L_121 Q_122 H locs hq hP hS => ?_)
        obtain ⟨⟨hI, hk_f_120, eL9, eQ9⟩, hq, p_124, u_125⟩ := hq
        rw [eL9, eQ9] at hP; clear eL9 eQ9
        have hF : sgK WkX12_act f f_120 := sgK.tr hF hk_f_120 (by decide +kernel)
        obtain ⟨v_126, ev_126⟩ : ∃ z : Int32, z = f_120 0 48 := ⟨_, rfl⟩
        have q_127 : 0 ≤ v_126.toInt ∧ v_126.toInt ≤ 19 := by rw [ev_126]; exact hI 0 48
        have q_128 : (f_120 0 48).toInt = v_126.toInt := (congrArg Int32.toInt (show f_120 0 48 = v_126 from ev_126.symm))
        have k_130 : (7 : Int32).toInt = 7 := by decide
        exact hret _ _ _ _ (r_123) f_120 L Q dX12_act_69 hP hS ⟨⟨hI, hF, rfl, rfl⟩, trivial, (Eq.trans (Eq.symm (hs.trans ((if_pos cs_16).trans ((if_neg (fun z => absurd (z.symm.trans cs_18) (by decide))).trans ((if_neg (fun z => absurd (z.symm.trans cs_18) (by decide))).trans ((if_neg (fun z => absurd (z.symm.trans cs_18) (by decide))).trans ((if_neg (fun z => absurd (z.symm.trans cs_18) (by decide))).trans ((if_neg (fun z => absurd (z.symm.trans cs_18) (by decide))).trans ((if_neg (fun z => absurd (z.symm.trans cs_18) (by decide))).trans ((if_neg (fun z => absurd (z.symm.trans cs_18) (by decide))).trans (spl2_e u_125 (spl_e ev_126 rfl)))))))))))) hsp)⟩
    · skip
      have cs_16 := c
      have c_131 := c
      refine lv_tableIn (x := x1) (tgt := 70) hx hb dX12_act_31 (by omega) (by omega) (by rw [c]; rfl) (by decide) ?_
      refine lv_aload_n hx hb dX12_act_70 rfl (lv_at hl 0 rfl) ?_
      refine lv_aload_n hx hb dX12_act_71 rfl (lv_at hl 0 rfl) ?_
      refine sl_gM_0_49_12 (v := v_12) hx hb hts hown hK hP (show f_15 0 49 = v_12 from (by rw [ef_15, sg_up_s, sgu_n (by decide)]; exact (by rw [ef_14, sg_up_s, sgu_s]))) dX12_act_72 ?_
      refine lv_iload_n hx hb dX12_act_75 rfl (lv_at hl 3 rfl) ?_
      rcases (show v_12.toInt = 0 ∨ v_12.toInt = 1 ∨ v_12.toInt = 2 ∨ v_12.toInt = 3 ∨ v_12.toInt = 4 ∨ v_12.toInt = 5 ∨ v_12.toInt = 6 ∨ v_12.toInt = 7 from by omega) with c | c | c | c | c | c | c | c
      · skip
        have cs_132 := c
        have c_133 : v_12 = 0 := Int32.toInt_inj.mp (by have k9 : (0 : Int32).toInt = 0 := ti_0; omega)
        refine W.eq (g2 := F0 m 76 ls [.int x2, .int 0, .ref (h 0)]) (by rw [c_133]) ?_
        have q_134 : (f_15 0 48).toInt = 0 := (congrArg Int32.toInt (show f_15 0 48 = 0 from (by rw [ef_15, sg_up_s, sgu_n (by decide)]; exact (by rw [ef_14, sg_up_s, sgu_n (by decide)]; exact (by rw [ef_1, sg_up_s, sgu_s]))))).trans (by decide)
        refine sg_calli (va_runV (As := [.int 0, .int x2]) (rest := []) ⟨hx, hb, hml, hown, hts⟩ (kX12_sitsAs_0_f0_f0 l D ca za h hh f_15 L Q hI x2 (by rw [ef_15, sg_up_s, sgu_n (by decide)]; exact (by rw [ef_14, sg_up_s, sgu_n (by decide)]; exact (by rw [ef_1, sg_up_s, sgu_s]))) (Eq.trans (by rw [ef_15, sg_up_s, sgu_n (by decide)]; exact (by rw [ef_14, sg_up_s, sgu_s])) c_133) (by have k0 : (0 : Int32).toInt = 0 := ti_0; omega) H.size) (sl_c12_sitsAs_2_0_0_43_12 hts ⟨Nat.le_of_ble_eq_true rfl, Nat.le_of_ble_eq_true rfl⟩) (sl_vM_0 hA hK hP hS hZ) rfl rfl hl.1 rfl (lv_room (Nat.le_of_ble_eq_true rfl)) dX12_act_76 ⟨Nat.le_refl _, Nat.le_refl _⟩) hA hS (fun r_139 f_136 L_137 Q_138 H locs hq hP hS => ?_)
        obtain ⟨⟨hI, hk_f_136, eL9, eQ9⟩, hq, p_140, u_141⟩ := hq
        rw [eL9, eQ9] at hP; clear eL9 eQ9
        have hF : sgK WkX12_act f f_136 := sgK.tr hF hk_f_136 (by decide +kernel)
        obtain ⟨v_142, ev_142⟩ : ∃ z : Int32, z = f_136 0 48 := ⟨_, rfl⟩
        have q_143 : 0 ≤ v_142.toInt ∧ v_142.toInt ≤ 19 := by rw [ev_142]; exact hI 0 48
        have q_144 : (f_136 0 48).toInt = v_142.toInt := (congrArg Int32.toInt (show f_136 0 48 = v_142 from ev_142.symm))
        have k_146 : (0 : Int32).toInt = 0 := by decide
        exact hret _ _ _ _ (r_139) f_136 L Q dX12_act_79 hP hS ⟨⟨hI, hF, rfl, rfl⟩, trivial, (Eq.trans (Eq.symm (hs.trans ((if_neg (fun z => absurd (z.symm.trans cs_16) (by decide))).trans ((if_pos cs_16).trans ((if_pos cs_132).trans (spl2_e u_141 (spl_e ev_142 rfl))))))) hsp)⟩
      · skip
        have cs_132 := c
        have c_147 : v_12 = 1 := Int32.toInt_inj.mp (by have k9 : (1 : Int32).toInt = 1 := ti_1; omega)
        refine W.eq (g2 := F0 m 76 ls [.int x2, .int 1, .ref (h 0)]) (by rw [c_147]) ?_
        have q_148 : (f_15 0 48).toInt = 0 := (congrArg Int32.toInt (show f_15 0 48 = 0 from (by rw [ef_15, sg_up_s, sgu_n (by decide)]; exact (by rw [ef_14, sg_up_s, sgu_n (by decide)]; exact (by rw [ef_1, sg_up_s, sgu_s]))))).trans (by decide)
        refine sg_calli (va_runV (As := [.int 1, .int x2]) (rest := []) ⟨hx, hb, hml, hown, hts⟩ (kX12_sitsAs_1_f0_f1 l D ca za h hh f_15 L Q hI x2 (by rw [ef_15, sg_up_s, sgu_n (by decide)]; exact (by rw [ef_14, sg_up_s, sgu_n (by decide)]; exact (by rw [ef_1, sg_up_s, sgu_s]))) (Eq.trans (by rw [ef_15, sg_up_s, sgu_n (by decide)]; exact (by rw [ef_14, sg_up_s, sgu_s])) c_147) (by have k0 : (1 : Int32).toInt = 1 := ti_1; omega) H.size) (sl_c12_sitsAs_3_0_0_65_12 hts ⟨Nat.le_of_ble_eq_true rfl, Nat.le_of_ble_eq_true rfl⟩) (sl_vM_0 hA hK hP hS hZ) rfl rfl hl.1 rfl (lv_room (Nat.le_of_ble_eq_true rfl)) dX12_act_76 ⟨Nat.le_refl _, Nat.le_refl _⟩) hA hS (fun r_153 f_150 L_151 Q_152 H locs hq hP hS => ?_)
        obtain ⟨⟨hI, hk_f_150, eL9, eQ9⟩, hq, p_154, u_155⟩ := hq
        rw [eL9, eQ9] at hP; clear eL9 eQ9
        have hF : sgK WkX12_act f f_150 := sgK.tr hF hk_f_150 (by decide +kernel)
        obtain ⟨v_156, ev_156⟩ : ∃ z : Int32, z = f_150 0 48 := ⟨_, rfl⟩
        have q_157 : 0 ≤ v_156.toInt ∧ v_156.toInt ≤ 19 := by rw [ev_156]; exact hI 0 48
        have q_158 : (f_150 0 48).toInt = v_156.toInt := (congrArg Int32.toInt (show f_150 0 48 = v_156 from ev_156.symm))
        have k_160 : (1 : Int32).toInt = 1 := by decide
        exact hret _ _ _ _ (r_153) f_150 L Q dX12_act_79 hP hS ⟨⟨hI, hF, rfl, rfl⟩, trivial, (Eq.trans (Eq.symm (hs.trans ((if_neg (fun z => absurd (z.symm.trans cs_16) (by decide))).trans ((if_pos cs_16).trans ((if_neg (fun z => absurd (z.symm.trans cs_132) (by decide))).trans ((if_pos cs_132).trans (spl2_e u_155 (spl_e ev_156 rfl)))))))) hsp)⟩
      · skip
        have cs_132 := c
        have c_161 : v_12 = 2 := Int32.toInt_inj.mp (by have k9 : (2 : Int32).toInt = 2 := ti_2; omega)
        refine W.eq (g2 := F0 m 76 ls [.int x2, .int 2, .ref (h 0)]) (by rw [c_161]) ?_
        have q_162 : (f_15 0 48).toInt = 0 := (congrArg Int32.toInt (show f_15 0 48 = 0 from (by rw [ef_15, sg_up_s, sgu_n (by decide)]; exact (by rw [ef_14, sg_up_s, sgu_n (by decide)]; exact (by rw [ef_1, sg_up_s, sgu_s]))))).trans (by decide)
        refine sg_calli (va_runV (As := [.int 2, .int x2]) (rest := []) ⟨hx, hb, hml, hown, hts⟩ (kX12_sitsAs_2_f0_f2 l D ca za h hh f_15 L Q hI x2 (by rw [ef_15, sg_up_s, sgu_n (by decide)]; exact (by rw [ef_14, sg_up_s, sgu_n (by decide)]; exact (by rw [ef_1, sg_up_s, sgu_s]))) (Eq.trans (by rw [ef_15, sg_up_s, sgu_n (by decide)]; exact (by rw [ef_14, sg_up_s, sgu_s])) c_161) (by have k0 : (2 : Int32).toInt = 2 := ti_2; omega) H.size) (sl_c12_sitsAs_3_0_0_66_12 hts ⟨Nat.le_of_ble_eq_true rfl, Nat.le_of_ble_eq_true rfl⟩) (sl_vM_0 hA hK hP hS hZ) rfl rfl hl.1 rfl (lv_room (Nat.le_of_ble_eq_true rfl)) dX12_act_76 ⟨Nat.le_refl _, Nat.le_refl _⟩) hA hS (fun r_167 f_164 L_165 Q_166 H locs hq hP hS => ?_)
        obtain ⟨⟨hI, hk_f_164, eL9, eQ9⟩, hq, p_168, u_169⟩ := hq
        rw [eL9, eQ9] at hP; clear eL9 eQ9
        have hF : sgK WkX12_act f f_164 := sgK.tr hF hk_f_164 (by decide +kernel)
        obtain ⟨v_170, ev_170⟩ : ∃ z : Int32, z = f_164 0 48 := ⟨_, rfl⟩
        have q_171 : 0 ≤ v_170.toInt ∧ v_170.toInt ≤ 19 := by rw [ev_170]; exact hI 0 48
        have q_172 : (f_164 0 48).toInt = v_170.toInt := (congrArg Int32.toInt (show f_164 0 48 = v_170 from ev_170.symm))
        have k_174 : (2 : Int32).toInt = 2 := by decide
        exact hret _ _ _ _ (r_167) f_164 L Q dX12_act_79 hP hS ⟨⟨hI, hF, rfl, rfl⟩, trivial, (Eq.trans (Eq.symm (hs.trans ((if_neg (fun z => absurd (z.symm.trans cs_16) (by decide))).trans ((if_pos cs_16).trans ((if_neg (fun z => absurd (z.symm.trans cs_132) (by decide))).trans ((if_neg (fun z => absurd (z.symm.trans cs_132) (by decide))).trans ((if_pos cs_132).trans (spl2_e u_169 (spl_e ev_170 rfl))))))))) hsp)⟩
      · skip
        have cs_132 := c
        have c_175 : v_12 = 3 := Int32.toInt_inj.mp (by have k9 : (3 : Int32).toInt = 3 := ti_3; omega)
        refine W.eq (g2 := F0 m 76 ls [.int x2, .int 3, .ref (h 0)]) (by rw [c_175]) ?_
        have q_176 : (f_15 0 48).toInt = 0 := (congrArg Int32.toInt (show f_15 0 48 = 0 from (by rw [ef_15, sg_up_s, sgu_n (by decide)]; exact (by rw [ef_14, sg_up_s, sgu_n (by decide)]; exact (by rw [ef_1, sg_up_s, sgu_s]))))).trans (by decide)
        refine sg_calli (va_runV (As := [.int 3, .int x2]) (rest := []) ⟨hx, hb, hml, hown, hts⟩ (kX12_sitsAs_3_f0_f3 l D ca za h hh f_15 L Q hI x2 (by rw [ef_15, sg_up_s, sgu_n (by decide)]; exact (by rw [ef_14, sg_up_s, sgu_n (by decide)]; exact (by rw [ef_1, sg_up_s, sgu_s]))) (Eq.trans (by rw [ef_15, sg_up_s, sgu_n (by decide)]; exact (by rw [ef_14, sg_up_s, sgu_s])) c_175) (by have k0 : (3 : Int32).toInt = 3 := ti_3; omega) H.size) (sl_c12_sitsAs_4_0_0_89_12 hts ⟨Nat.le_of_ble_eq_true rfl, Nat.le_of_ble_eq_true rfl⟩) (sl_vM_0 hA hK hP hS hZ) rfl rfl hl.1 rfl (lv_room (Nat.le_of_ble_eq_true rfl)) dX12_act_76 ⟨Nat.le_refl _, Nat.le_refl _⟩) hA hS (fun r_181 f_178 L_179 Q_180 H locs hq hP hS => ?_)
        obtain ⟨⟨hI, hk_f_178, eL9, eQ9⟩, hq, p_182, u_183⟩ := hq
        rw [eL9, eQ9] at hP; clear eL9 eQ9
        have hF : sgK WkX12_act f f_178 := sgK.tr hF hk_f_178 (by decide +kernel)
        obtain ⟨v_184, ev_184⟩ : ∃ z : Int32, z = f_178 0 48 := ⟨_, rfl⟩
        have q_185 : 0 ≤ v_184.toInt ∧ v_184.toInt ≤ 19 := by rw [ev_184]; exact hI 0 48
        have q_186 : (f_178 0 48).toInt = v_184.toInt := (congrArg Int32.toInt (show f_178 0 48 = v_184 from ev_184.symm))
        have k_188 : (3 : Int32).toInt = 3 := by decide
        exact hret _ _ _ _ (r_181) f_178 L Q dX12_act_79 hP hS ⟨⟨hI, hF, rfl, rfl⟩, trivial, (Eq.trans (Eq.symm (hs.trans ((if_neg (fun z => absurd (z.symm.trans cs_16) (by decide))).trans ((if_pos cs_16).trans ((if_neg (fun z => absurd (z.symm.trans cs_132) (by decide))).trans ((if_neg (fun z => absurd (z.symm.trans cs_132) (by decide))).trans ((if_neg (fun z => absurd (z.symm.trans cs_132) (by decide))).trans ((if_pos cs_132).trans (spl2_e u_183 (spl_e ev_184 rfl)))))))))) hsp)⟩
      · skip
        have cs_132 := c
        have c_189 : v_12 = 4 := Int32.toInt_inj.mp (by have k9 : (4 : Int32).toInt = 4 := ti_4; omega)
        refine W.eq (g2 := F0 m 76 ls [.int x2, .int 4, .ref (h 0)]) (by rw [c_189]) ?_
        have q_190 : (f_15 0 48).toInt = 0 := (congrArg Int32.toInt (show f_15 0 48 = 0 from (by rw [ef_15, sg_up_s, sgu_n (by decide)]; exact (by rw [ef_14, sg_up_s, sgu_n (by decide)]; exact (by rw [ef_1, sg_up_s, sgu_s]))))).trans (by decide)
        refine sg_calli (va_runV (As := [.int 4, .int x2]) (rest := []) ⟨hx, hb, hml, hown, hts⟩ (kX12_sitsAs_4_f0_f4 l D ca za h hh f_15 L Q hI x2 (by rw [ef_15, sg_up_s, sgu_n (by decide)]; exact (by rw [ef_14, sg_up_s, sgu_n (by decide)]; exact (by rw [ef_1, sg_up_s, sgu_s]))) (Eq.trans (by rw [ef_15, sg_up_s, sgu_n (by decide)]; exact (by rw [ef_14, sg_up_s, sgu_s])) c_189) (by have k0 : (4 : Int32).toInt = 4 := ti_4; omega) H.size) (sl_c12_sitsAs_3_0_0_65_12 hts ⟨Nat.le_of_ble_eq_true rfl, Nat.le_of_ble_eq_true rfl⟩) (sl_vM_0 hA hK hP hS hZ) rfl rfl hl.1 rfl (lv_room (Nat.le_of_ble_eq_true rfl)) dX12_act_76 ⟨Nat.le_refl _, Nat.le_refl _⟩) hA hS (fun r_195 f_192 L_193 Q_194 H locs hq hP hS => ?_)
        obtain ⟨⟨hI, hk_f_192, eL9, eQ9⟩, hq, p_196, u_197⟩ := hq
        rw [eL9, eQ9] at hP; clear eL9 eQ9
        have hF : sgK WkX12_act f f_192 := sgK.tr hF hk_f_192 (by decide +kernel)
        obtain ⟨v_198, ev_198⟩ : ∃ z : Int32, z = f_192 0 48 := ⟨_, rfl⟩
        have q_199 : 0 ≤ v_198.toInt ∧ v_198.toInt ≤ 19 := by rw [ev_198]; exact hI 0 48
        have q_200 : (f_192 0 48).toInt = v_198.toInt := (congrArg Int32.toInt (show f_192 0 48 = v_198 from ev_198.symm))
        have k_202 : (4 : Int32).toInt = 4 := by decide
        exact hret _ _ _ _ (r_195) f_192 L Q dX12_act_79 hP hS ⟨⟨hI, hF, rfl, rfl⟩, trivial, (Eq.trans (Eq.symm (hs.trans ((if_neg (fun z => absurd (z.symm.trans cs_16) (by decide))).trans ((if_pos cs_16).trans ((if_neg (fun z => absurd (z.symm.trans cs_132) (by decide))).trans ((if_neg (fun z => absurd (z.symm.trans cs_132) (by decide))).trans ((if_neg (fun z => absurd (z.symm.trans cs_132) (by decide))).trans ((if_neg (fun z => absurd (z.symm.trans cs_132) (by decide))).trans ((if_pos cs_132).trans (spl2_e u_197 (spl_e ev_198 rfl))))))))))) hsp)⟩
      · skip
        have cs_132 := c
        have c_203 : v_12 = 5 := Int32.toInt_inj.mp (by have k9 : (5 : Int32).toInt = 5 := ti_5; omega)
        refine W.eq (g2 := F0 m 76 ls [.int x2, .int 5, .ref (h 0)]) (by rw [c_203]) ?_
        have q_204 : (f_15 0 48).toInt = 0 := (congrArg Int32.toInt (show f_15 0 48 = 0 from (by rw [ef_15, sg_up_s, sgu_n (by decide)]; exact (by rw [ef_14, sg_up_s, sgu_n (by decide)]; exact (by rw [ef_1, sg_up_s, sgu_s]))))).trans (by decide)
        refine sg_calli (va_runV (As := [.int 5, .int x2]) (rest := []) ⟨hx, hb, hml, hown, hts⟩ (kX12_sitsAs_5_f0_f5 l D ca za h hh f_15 L Q hI x2 (by rw [ef_15, sg_up_s, sgu_n (by decide)]; exact (by rw [ef_14, sg_up_s, sgu_n (by decide)]; exact (by rw [ef_1, sg_up_s, sgu_s]))) (Eq.trans (by rw [ef_15, sg_up_s, sgu_n (by decide)]; exact (by rw [ef_14, sg_up_s, sgu_s])) c_203) (by have k0 : (5 : Int32).toInt = 5 := ti_5; omega) H.size) (sl_c12_sitsAs_4_0_0_89_12 hts ⟨Nat.le_of_ble_eq_true rfl, Nat.le_of_ble_eq_true rfl⟩) (sl_vM_0 hA hK hP hS hZ) rfl rfl hl.1 rfl (lv_room (Nat.le_of_ble_eq_true rfl)) dX12_act_76 ⟨Nat.le_refl _, Nat.le_refl _⟩) hA hS (fun r_209 f_206 L_207 Q_208 H locs hq hP hS => ?_)
        obtain ⟨⟨hI, hk_f_206, eL9, eQ9⟩, hq, p_210, u_211⟩ := hq
        rw [eL9, eQ9] at hP; clear eL9 eQ9
        have hF : sgK WkX12_act f f_206 := sgK.tr hF hk_f_206 (by decide +kernel)
        obtain ⟨v_212, ev_212⟩ : ∃ z : Int32, z = f_206 0 48 := ⟨_, rfl⟩
        have q_213 : 0 ≤ v_212.toInt ∧ v_212.toInt ≤ 19 := by rw [ev_212]; exact hI 0 48
        have q_214 : (f_206 0 48).toInt = v_212.toInt := (congrArg Int32.toInt (show f_206 0 48 = v_212 from ev_212.symm))
        have k_216 : (5 : Int32).toInt = 5 := by decide
        exact hret _ _ _ _ (r_209) f_206 L Q dX12_act_79 hP hS ⟨⟨hI, hF, rfl, rfl⟩, trivial, (Eq.trans (Eq.symm (hs.trans ((if_neg (fun z => absurd (z.symm.trans cs_16) (by decide))).trans ((if_pos cs_16).trans ((if_neg (fun z => absurd (z.symm.trans cs_132) (by decide))).trans ((if_neg (fun z => absurd (z.symm.trans cs_132) (by decide))).trans ((if_neg (fun z => absurd (z.symm.trans cs_132) (by decide))).trans ((if_neg (fun z => absurd (z.symm.trans cs_132) (by decide))).trans ((if_neg (fun z => absurd (z.symm.trans cs_132) (by decide))).trans ((if_pos cs_132).trans (spl2_e u_211 (spl_e ev_212 rfl)))))))))))) hsp)⟩
      · skip
        have cs_132 := c
        have c_217 : v_12 = 6 := Int32.toInt_inj.mp (by have k9 : (6 : Int32).toInt = 6 := ti_6; omega)
        refine W.eq (g2 := F0 m 76 ls [.int x2, .int 6, .ref (h 0)]) (by rw [c_217]) ?_
        have q_218 : (f_15 0 48).toInt = 0 := (congrArg Int32.toInt (show f_15 0 48 = 0 from (by rw [ef_15, sg_up_s, sgu_n (by decide)]; exact (by rw [ef_14, sg_up_s, sgu_n (by decide)]; exact (by rw [ef_1, sg_up_s, sgu_s]))))).trans (by decide)
        refine sg_calli (va_runV (As := [.int 6, .int x2]) (rest := []) ⟨hx, hb, hml, hown, hts⟩ (kX12_sitsAs_6_f0_f6 l D ca za h hh f_15 L Q hI x2 (by rw [ef_15, sg_up_s, sgu_n (by decide)]; exact (by rw [ef_14, sg_up_s, sgu_n (by decide)]; exact (by rw [ef_1, sg_up_s, sgu_s]))) (Eq.trans (by rw [ef_15, sg_up_s, sgu_n (by decide)]; exact (by rw [ef_14, sg_up_s, sgu_s])) c_217) (by have k0 : (6 : Int32).toInt = 6 := ti_6; omega) H.size) (sl_c12_sitsAs_3_0_0_65_12 hts ⟨Nat.le_of_ble_eq_true rfl, Nat.le_of_ble_eq_true rfl⟩) (sl_vM_0 hA hK hP hS hZ) rfl rfl hl.1 rfl (lv_room (Nat.le_of_ble_eq_true rfl)) dX12_act_76 ⟨Nat.le_refl _, Nat.le_refl _⟩) hA hS (fun r_223 f_220 L_221 Q_222 H locs hq hP hS => ?_)
        obtain ⟨⟨hI, hk_f_220, eL9, eQ9⟩, hq, p_224, u_225⟩ := hq
        rw [eL9, eQ9] at hP; clear eL9 eQ9
        have hF : sgK WkX12_act f f_220 := sgK.tr hF hk_f_220 (by decide +kernel)
        obtain ⟨v_226, ev_226⟩ : ∃ z : Int32, z = f_220 0 48 := ⟨_, rfl⟩
        have q_227 : 0 ≤ v_226.toInt ∧ v_226.toInt ≤ 19 := by rw [ev_226]; exact hI 0 48
        have q_228 : (f_220 0 48).toInt = v_226.toInt := (congrArg Int32.toInt (show f_220 0 48 = v_226 from ev_226.symm))
        have k_230 : (6 : Int32).toInt = 6 := by decide
        exact hret _ _ _ _ (r_223) f_220 L Q dX12_act_79 hP hS ⟨⟨hI, hF, rfl, rfl⟩, trivial, (Eq.trans (Eq.symm (hs.trans ((if_neg (fun z => absurd (z.symm.trans cs_16) (by decide))).trans ((if_pos cs_16).trans ((if_neg (fun z => absurd (z.symm.trans cs_132) (by decide))).trans ((if_neg (fun z => absurd (z.symm.trans cs_132) (by decide))).trans ((if_neg (fun z => absurd (z.symm.trans cs_132) (by decide))).trans ((if_neg (fun z => absurd (z.symm.trans cs_132) (by decide))).trans ((if_neg (fun z => absurd (z.symm.trans cs_132) (by decide))).trans ((if_neg (fun z => absurd (z.symm.trans cs_132) (by decide))).trans ((if_pos cs_132).trans (spl2_e u_225 (spl_e ev_226 rfl))))))))))))) hsp)⟩
      · skip
        have cs_132 := c
        have c_231 : v_12 = 7 := Int32.toInt_inj.mp (by have k9 : (7 : Int32).toInt = 7 := ti_7; omega)
        refine W.eq (g2 := F0 m 76 ls [.int x2, .int 7, .ref (h 0)]) (by rw [c_231]) ?_
        have q_232 : (f_15 0 48).toInt = 0 := (congrArg Int32.toInt (show f_15 0 48 = 0 from (by rw [ef_15, sg_up_s, sgu_n (by decide)]; exact (by rw [ef_14, sg_up_s, sgu_n (by decide)]; exact (by rw [ef_1, sg_up_s, sgu_s]))))).trans (by decide)
        refine sg_calli (va_runV (As := [.int 7, .int x2]) (rest := []) ⟨hx, hb, hml, hown, hts⟩ (kX12_sitsAs_7_f0_f7 l D ca za h hh f_15 L Q hI x2 (by rw [ef_15, sg_up_s, sgu_n (by decide)]; exact (by rw [ef_14, sg_up_s, sgu_n (by decide)]; exact (by rw [ef_1, sg_up_s, sgu_s]))) (Eq.trans (by rw [ef_15, sg_up_s, sgu_n (by decide)]; exact (by rw [ef_14, sg_up_s, sgu_s])) c_231) (by have k0 : (7 : Int32).toInt = 7 := ti_7; omega) H.size) (sl_c12_sitsAs_4_0_0_88_12 hts ⟨Nat.le_of_ble_eq_true rfl, Nat.le_of_ble_eq_true rfl⟩) (sl_vM_0 hA hK hP hS hZ) rfl rfl hl.1 rfl (lv_room (Nat.le_of_ble_eq_true rfl)) dX12_act_76 ⟨Nat.le_refl _, Nat.le_refl _⟩) hA hS (fun r_237 f_234 L_235 Q_236 H locs hq hP hS => ?_)
        obtain ⟨⟨hI, hk_f_234, eL9, eQ9⟩, hq, p_238, u_239⟩ := hq
        rw [eL9, eQ9] at hP; clear eL9 eQ9
        have hF : sgK WkX12_act f f_234 := sgK.tr hF hk_f_234 (by decide +kernel)
        obtain ⟨v_240, ev_240⟩ : ∃ z : Int32, z = f_234 0 48 := ⟨_, rfl⟩
        have q_241 : 0 ≤ v_240.toInt ∧ v_240.toInt ≤ 19 := by rw [ev_240]; exact hI 0 48
        have q_242 : (f_234 0 48).toInt = v_240.toInt := (congrArg Int32.toInt (show f_234 0 48 = v_240 from ev_240.symm))
        have k_244 : (7 : Int32).toInt = 7 := by decide
        exact hret _ _ _ _ (r_237) f_234 L Q dX12_act_79 hP hS ⟨⟨hI, hF, rfl, rfl⟩, trivial, (Eq.trans (Eq.symm (hs.trans ((if_neg (fun z => absurd (z.symm.trans cs_16) (by decide))).trans ((if_pos cs_16).trans ((if_neg (fun z => absurd (z.symm.trans cs_132) (by decide))).trans ((if_neg (fun z => absurd (z.symm.trans cs_132) (by decide))).trans ((if_neg (fun z => absurd (z.symm.trans cs_132) (by decide))).trans ((if_neg (fun z => absurd (z.symm.trans cs_132) (by decide))).trans ((if_neg (fun z => absurd (z.symm.trans cs_132) (by decide))).trans ((if_neg (fun z => absurd (z.symm.trans cs_132) (by decide))).trans ((if_neg (fun z => absurd (z.symm.trans cs_132) (by decide))).trans (spl2_e u_239 (spl_e ev_240 rfl))))))))))))) hsp)⟩
    · skip
      have cs_16 := c
      have c_245 := c
      refine lv_tableIn (x := x1) (tgt := 80) hx hb dX12_act_31 (by omega) (by omega) (by rw [c]; rfl) (by decide) ?_
      refine lv_aload_n hx hb dX12_act_80 rfl (lv_at hl 0 rfl) ?_
      refine lv_aload_n hx hb dX12_act_81 rfl (lv_at hl 0 rfl) ?_
      refine sl_gM_0_49_12 (v := v_12) hx hb hts hown hK hP (show f_15 0 49 = v_12 from (by rw [ef_15, sg_up_s, sgu_n (by decide)]; exact (by rw [ef_14, sg_up_s, sgu_s]))) dX12_act_82 ?_
      refine lv_iload_n hx hb dX12_act_85 rfl (lv_at hl 3 rfl) ?_
      rcases (show v_12.toInt = 0 ∨ v_12.toInt = 1 ∨ v_12.toInt = 2 ∨ v_12.toInt = 3 ∨ v_12.toInt = 4 ∨ v_12.toInt = 5 ∨ v_12.toInt = 6 ∨ v_12.toInt = 7 from by omega) with c | c | c | c | c | c | c | c
      · skip
        have cs_246 := c
        have c_247 : v_12 = 0 := Int32.toInt_inj.mp (by have k9 : (0 : Int32).toInt = 0 := ti_0; omega)
        refine W.eq (g2 := F0 m 86 ls [.int x2, .int 0, .ref (h 0)]) (by rw [c_247]) ?_
        have q_248 : (f_15 0 48).toInt = 0 := (congrArg Int32.toInt (show f_15 0 48 = 0 from (by rw [ef_15, sg_up_s, sgu_n (by decide)]; exact (by rw [ef_14, sg_up_s, sgu_n (by decide)]; exact (by rw [ef_1, sg_up_s, sgu_s]))))).trans (by decide)
        refine sg_calli (va_runV (As := [.int 0, .int x2]) (rest := []) ⟨hx, hb, hml, hown, hts⟩ (kX12_slipsAs_0_f0_f0 l D ca za h hh f_15 L Q hI x2 (by rw [ef_15, sg_up_s, sgu_n (by decide)]; exact (by rw [ef_14, sg_up_s, sgu_n (by decide)]; exact (by rw [ef_1, sg_up_s, sgu_s]))) (Eq.trans (by rw [ef_15, sg_up_s, sgu_n (by decide)]; exact (by rw [ef_14, sg_up_s, sgu_s])) c_247) (by have k0 : (0 : Int32).toInt = 0 := ti_0; omega) H.size) (sl_c12_slipsAs_1_0_0_21_12 hts ⟨Nat.le_of_ble_eq_true rfl, Nat.le_of_ble_eq_true rfl⟩) (sl_vM_0 hA hK hP hS hZ) rfl rfl hl.1 rfl (lv_room (Nat.le_of_ble_eq_true rfl)) dX12_act_86 ⟨Nat.le_refl _, Nat.le_refl _⟩) hA hS (fun r_253 f_250 L_251 Q_252 H locs hq hP hS => ?_)
        obtain ⟨⟨hI, hk_f_250, eL9, eQ9⟩, hq, p_254, u_255⟩ := hq
        rw [eL9, eQ9] at hP; clear eL9 eQ9
        have hF : sgK WkX12_act f f_250 := sgK.tr hF hk_f_250 (by decide +kernel)
        obtain ⟨v_256, ev_256⟩ : ∃ z : Int32, z = f_250 0 48 := ⟨_, rfl⟩
        have q_257 : 0 ≤ v_256.toInt ∧ v_256.toInt ≤ 19 := by rw [ev_256]; exact hI 0 48
        have q_258 : (f_250 0 48).toInt = v_256.toInt := (congrArg Int32.toInt (show f_250 0 48 = v_256 from ev_256.symm))
        have k_260 : (0 : Int32).toInt = 0 := by decide
        exact hret _ _ _ _ (r_253) f_250 L Q dX12_act_89 hP hS ⟨⟨hI, hF, rfl, rfl⟩, trivial, (Eq.trans (Eq.symm (hs.trans ((if_neg (fun z => absurd (z.symm.trans cs_16) (by decide))).trans ((if_neg (fun z => absurd (z.symm.trans cs_16) (by decide))).trans ((if_pos cs_16).trans ((if_pos cs_246).trans (spl2_e u_255 (spl_e ev_256 rfl)))))))) hsp)⟩
      · skip
        have cs_246 := c
        have c_261 : v_12 = 1 := Int32.toInt_inj.mp (by have k9 : (1 : Int32).toInt = 1 := ti_1; omega)
        refine W.eq (g2 := F0 m 86 ls [.int x2, .int 1, .ref (h 0)]) (by rw [c_261]) ?_
        have q_262 : (f_15 0 48).toInt = 0 := (congrArg Int32.toInt (show f_15 0 48 = 0 from (by rw [ef_15, sg_up_s, sgu_n (by decide)]; exact (by rw [ef_14, sg_up_s, sgu_n (by decide)]; exact (by rw [ef_1, sg_up_s, sgu_s]))))).trans (by decide)
        refine sg_calli (va_runV (As := [.int 1, .int x2]) (rest := []) ⟨hx, hb, hml, hown, hts⟩ (kX12_slipsAs_1_f0_f1 l D ca za h hh f_15 L Q hI x2 (by rw [ef_15, sg_up_s, sgu_n (by decide)]; exact (by rw [ef_14, sg_up_s, sgu_n (by decide)]; exact (by rw [ef_1, sg_up_s, sgu_s]))) (Eq.trans (by rw [ef_15, sg_up_s, sgu_n (by decide)]; exact (by rw [ef_14, sg_up_s, sgu_s])) c_261) (by have k0 : (1 : Int32).toInt = 1 := ti_1; omega) H.size) (sl_c12_slipsAs_1_0_0_21_12 hts ⟨Nat.le_of_ble_eq_true rfl, Nat.le_of_ble_eq_true rfl⟩) (sl_vM_0 hA hK hP hS hZ) rfl rfl hl.1 rfl (lv_room (Nat.le_of_ble_eq_true rfl)) dX12_act_86 ⟨Nat.le_refl _, Nat.le_refl _⟩) hA hS (fun r_267 f_264 L_265 Q_266 H locs hq hP hS => ?_)
        obtain ⟨⟨hI, hk_f_264, eL9, eQ9⟩, hq, p_268, u_269⟩ := hq
        rw [eL9, eQ9] at hP; clear eL9 eQ9
        have hF : sgK WkX12_act f f_264 := sgK.tr hF hk_f_264 (by decide +kernel)
        obtain ⟨v_270, ev_270⟩ : ∃ z : Int32, z = f_264 0 48 := ⟨_, rfl⟩
        have q_271 : 0 ≤ v_270.toInt ∧ v_270.toInt ≤ 19 := by rw [ev_270]; exact hI 0 48
        have q_272 : (f_264 0 48).toInt = v_270.toInt := (congrArg Int32.toInt (show f_264 0 48 = v_270 from ev_270.symm))
        have k_274 : (1 : Int32).toInt = 1 := by decide
        exact hret _ _ _ _ (r_267) f_264 L Q dX12_act_89 hP hS ⟨⟨hI, hF, rfl, rfl⟩, trivial, (Eq.trans (Eq.symm (hs.trans ((if_neg (fun z => absurd (z.symm.trans cs_16) (by decide))).trans ((if_neg (fun z => absurd (z.symm.trans cs_16) (by decide))).trans ((if_pos cs_16).trans ((if_neg (fun z => absurd (z.symm.trans cs_246) (by decide))).trans ((if_pos cs_246).trans (spl2_e u_269 (spl_e ev_270 rfl))))))))) hsp)⟩
      · skip
        have cs_246 := c
        have c_275 : v_12 = 2 := Int32.toInt_inj.mp (by have k9 : (2 : Int32).toInt = 2 := ti_2; omega)
        refine W.eq (g2 := F0 m 86 ls [.int x2, .int 2, .ref (h 0)]) (by rw [c_275]) ?_
        have q_276 : (f_15 0 48).toInt = 0 := (congrArg Int32.toInt (show f_15 0 48 = 0 from (by rw [ef_15, sg_up_s, sgu_n (by decide)]; exact (by rw [ef_14, sg_up_s, sgu_n (by decide)]; exact (by rw [ef_1, sg_up_s, sgu_s]))))).trans (by decide)
        refine sg_calli (va_runV (As := [.int 2, .int x2]) (rest := []) ⟨hx, hb, hml, hown, hts⟩ (kX12_slipsAs_2_f0_f2 l D ca za h hh f_15 L Q hI x2 (by rw [ef_15, sg_up_s, sgu_n (by decide)]; exact (by rw [ef_14, sg_up_s, sgu_n (by decide)]; exact (by rw [ef_1, sg_up_s, sgu_s]))) (Eq.trans (by rw [ef_15, sg_up_s, sgu_n (by decide)]; exact (by rw [ef_14, sg_up_s, sgu_s])) c_275) (by have k0 : (2 : Int32).toInt = 2 := ti_2; omega) H.size) (sl_c12_slipsAs_1_0_0_21_12 hts ⟨Nat.le_of_ble_eq_true rfl, Nat.le_of_ble_eq_true rfl⟩) (sl_vM_0 hA hK hP hS hZ) rfl rfl hl.1 rfl (lv_room (Nat.le_of_ble_eq_true rfl)) dX12_act_86 ⟨Nat.le_refl _, Nat.le_refl _⟩) hA hS (fun r_281 f_278 L_279 Q_280 H locs hq hP hS => ?_)
        obtain ⟨⟨hI, hk_f_278, eL9, eQ9⟩, hq, p_282, u_283⟩ := hq
        rw [eL9, eQ9] at hP; clear eL9 eQ9
        have hF : sgK WkX12_act f f_278 := sgK.tr hF hk_f_278 (by decide +kernel)
        obtain ⟨v_284, ev_284⟩ : ∃ z : Int32, z = f_278 0 48 := ⟨_, rfl⟩
        have q_285 : 0 ≤ v_284.toInt ∧ v_284.toInt ≤ 19 := by rw [ev_284]; exact hI 0 48
        have q_286 : (f_278 0 48).toInt = v_284.toInt := (congrArg Int32.toInt (show f_278 0 48 = v_284 from ev_284.symm))
        have k_288 : (2 : Int32).toInt = 2 := by decide
        exact hret _ _ _ _ (r_281) f_278 L Q dX12_act_89 hP hS ⟨⟨hI, hF, rfl, rfl⟩, trivial, (Eq.trans (Eq.symm (hs.trans ((if_neg (fun z => absurd (z.symm.trans cs_16) (by decide))).trans ((if_neg (fun z => absurd (z.symm.trans cs_16) (by decide))).trans ((if_pos cs_16).trans ((if_neg (fun z => absurd (z.symm.trans cs_246) (by decide))).trans ((if_neg (fun z => absurd (z.symm.trans cs_246) (by decide))).trans ((if_pos cs_246).trans (spl2_e u_283 (spl_e ev_284 rfl)))))))))) hsp)⟩
      · skip
        have cs_246 := c
        have c_289 : v_12 = 3 := Int32.toInt_inj.mp (by have k9 : (3 : Int32).toInt = 3 := ti_3; omega)
        refine W.eq (g2 := F0 m 86 ls [.int x2, .int 3, .ref (h 0)]) (by rw [c_289]) ?_
        have q_290 : (f_15 0 48).toInt = 0 := (congrArg Int32.toInt (show f_15 0 48 = 0 from (by rw [ef_15, sg_up_s, sgu_n (by decide)]; exact (by rw [ef_14, sg_up_s, sgu_n (by decide)]; exact (by rw [ef_1, sg_up_s, sgu_s]))))).trans (by decide)
        refine sg_calli (va_runV (As := [.int 3, .int x2]) (rest := []) ⟨hx, hb, hml, hown, hts⟩ (kX12_slipsAs_3_f0_f3 l D ca za h hh f_15 L Q hI x2 (by rw [ef_15, sg_up_s, sgu_n (by decide)]; exact (by rw [ef_14, sg_up_s, sgu_n (by decide)]; exact (by rw [ef_1, sg_up_s, sgu_s]))) (Eq.trans (by rw [ef_15, sg_up_s, sgu_n (by decide)]; exact (by rw [ef_14, sg_up_s, sgu_s])) c_289) (by have k0 : (3 : Int32).toInt = 3 := ti_3; omega) H.size) (sl_c12_slipsAs_2_0_0_44_12 hts ⟨Nat.le_of_ble_eq_true rfl, Nat.le_of_ble_eq_true rfl⟩) (sl_vM_0 hA hK hP hS hZ) rfl rfl hl.1 rfl (lv_room (Nat.le_of_ble_eq_true rfl)) dX12_act_86 ⟨Nat.le_refl _, Nat.le_refl _⟩) hA hS (fun r_295 f_292 L_293 Q_294 H locs hq hP hS => ?_)
        obtain ⟨⟨hI, hk_f_292, eL9, eQ9⟩, hq, p_296, u_297⟩ := hq
        rw [eL9, eQ9] at hP; clear eL9 eQ9
        have hF : sgK WkX12_act f f_292 := sgK.tr hF hk_f_292 (by decide +kernel)
        obtain ⟨v_298, ev_298⟩ : ∃ z : Int32, z = f_292 0 48 := ⟨_, rfl⟩
        have q_299 : 0 ≤ v_298.toInt ∧ v_298.toInt ≤ 19 := by rw [ev_298]; exact hI 0 48
        have q_300 : (f_292 0 48).toInt = v_298.toInt := (congrArg Int32.toInt (show f_292 0 48 = v_298 from ev_298.symm))
        have k_302 : (3 : Int32).toInt = 3 := by decide
        exact hret _ _ _ _ (r_295) f_292 L Q dX12_act_89 hP hS ⟨⟨hI, hF, rfl, rfl⟩, trivial, (Eq.trans (Eq.symm (hs.trans ((if_neg (fun z => absurd (z.symm.trans cs_16) (by decide))).trans ((if_neg (fun z => absurd (z.symm.trans cs_16) (by decide))).trans ((if_pos cs_16).trans ((if_neg (fun z => absurd (z.symm.trans cs_246) (by decide))).trans ((if_neg (fun z => absurd (z.symm.trans cs_246) (by decide))).trans ((if_neg (fun z => absurd (z.symm.trans cs_246) (by decide))).trans ((if_pos cs_246).trans (spl2_e u_297 (spl_e ev_298 rfl))))))))))) hsp)⟩
      · skip
        have cs_246 := c
        have c_303 : v_12 = 4 := Int32.toInt_inj.mp (by have k9 : (4 : Int32).toInt = 4 := ti_4; omega)
        refine W.eq (g2 := F0 m 86 ls [.int x2, .int 4, .ref (h 0)]) (by rw [c_303]) ?_
        have q_304 : (f_15 0 48).toInt = 0 := (congrArg Int32.toInt (show f_15 0 48 = 0 from (by rw [ef_15, sg_up_s, sgu_n (by decide)]; exact (by rw [ef_14, sg_up_s, sgu_n (by decide)]; exact (by rw [ef_1, sg_up_s, sgu_s]))))).trans (by decide)
        refine sg_calli (va_runV (As := [.int 4, .int x2]) (rest := []) ⟨hx, hb, hml, hown, hts⟩ (kX12_slipsAs_4_f0_f4 l D ca za h hh f_15 L Q hI x2 (by rw [ef_15, sg_up_s, sgu_n (by decide)]; exact (by rw [ef_14, sg_up_s, sgu_n (by decide)]; exact (by rw [ef_1, sg_up_s, sgu_s]))) (Eq.trans (by rw [ef_15, sg_up_s, sgu_n (by decide)]; exact (by rw [ef_14, sg_up_s, sgu_s])) c_303) (by have k0 : (4 : Int32).toInt = 4 := ti_4; omega) H.size) (sl_c12_slipsAs_3_0_0_65_12 hts ⟨Nat.le_of_ble_eq_true rfl, Nat.le_of_ble_eq_true rfl⟩) (sl_vM_0 hA hK hP hS hZ) rfl rfl hl.1 rfl (lv_room (Nat.le_of_ble_eq_true rfl)) dX12_act_86 ⟨Nat.le_refl _, Nat.le_refl _⟩) hA hS (fun r_309 f_306 L_307 Q_308 H locs hq hP hS => ?_)
        obtain ⟨⟨hI, hk_f_306, eL9, eQ9⟩, hq, p_310, u_311⟩ := hq
        rw [eL9, eQ9] at hP; clear eL9 eQ9
        have hF : sgK WkX12_act f f_306 := sgK.tr hF hk_f_306 (by decide +kernel)
        obtain ⟨v_312, ev_312⟩ : ∃ z : Int32, z = f_306 0 48 := ⟨_, rfl⟩
        have q_313 : 0 ≤ v_312.toInt ∧ v_312.toInt ≤ 19 := by rw [ev_312]; exact hI 0 48
        have q_314 : (f_306 0 48).toInt = v_312.toInt := (congrArg Int32.toInt (show f_306 0 48 = v_312 from ev_312.symm))
        have k_316 : (4 : Int32).toInt = 4 := by decide
        exact hret _ _ _ _ (r_309) f_306 L Q dX12_act_89 hP hS ⟨⟨hI, hF, rfl, rfl⟩, trivial, (Eq.trans (Eq.symm (hs.trans ((if_neg (fun z => absurd (z.symm.trans cs_16) (by decide))).trans ((if_neg (fun z => absurd (z.symm.trans cs_16) (by decide))).trans ((if_pos cs_16).trans ((if_neg (fun z => absurd (z.symm.trans cs_246) (by decide))).trans ((if_neg (fun z => absurd (z.symm.trans cs_246) (by decide))).trans ((if_neg (fun z => absurd (z.symm.trans cs_246) (by decide))).trans ((if_neg (fun z => absurd (z.symm.trans cs_246) (by decide))).trans ((if_pos cs_246).trans (spl2_e u_311 (spl_e ev_312 rfl)))))))))))) hsp)⟩
      · skip
        have cs_246 := c
        have c_317 : v_12 = 5 := Int32.toInt_inj.mp (by have k9 : (5 : Int32).toInt = 5 := ti_5; omega)
        refine W.eq (g2 := F0 m 86 ls [.int x2, .int 5, .ref (h 0)]) (by rw [c_317]) ?_
        have q_318 : (f_15 0 48).toInt = 0 := (congrArg Int32.toInt (show f_15 0 48 = 0 from (by rw [ef_15, sg_up_s, sgu_n (by decide)]; exact (by rw [ef_14, sg_up_s, sgu_n (by decide)]; exact (by rw [ef_1, sg_up_s, sgu_s]))))).trans (by decide)
        refine sg_calli (va_runV (As := [.int 5, .int x2]) (rest := []) ⟨hx, hb, hml, hown, hts⟩ (kX12_slipsAs_5_f0_f5 l D ca za h hh f_15 L Q hI x2 (by rw [ef_15, sg_up_s, sgu_n (by decide)]; exact (by rw [ef_14, sg_up_s, sgu_n (by decide)]; exact (by rw [ef_1, sg_up_s, sgu_s]))) (Eq.trans (by rw [ef_15, sg_up_s, sgu_n (by decide)]; exact (by rw [ef_14, sg_up_s, sgu_s])) c_317) (by have k0 : (5 : Int32).toInt = 5 := ti_5; omega) H.size) (sl_c12_slipsAs_2_0_0_44_12 hts ⟨Nat.le_of_ble_eq_true rfl, Nat.le_of_ble_eq_true rfl⟩) (sl_vM_0 hA hK hP hS hZ) rfl rfl hl.1 rfl (lv_room (Nat.le_of_ble_eq_true rfl)) dX12_act_86 ⟨Nat.le_refl _, Nat.le_refl _⟩) hA hS (fun r_323 f_320 L_321 Q_322 H locs hq hP hS => ?_)
        obtain ⟨⟨hI, hk_f_320, eL9, eQ9⟩, hq, p_324, u_325⟩ := hq
        rw [eL9, eQ9] at hP; clear eL9 eQ9
        have hF : sgK WkX12_act f f_320 := sgK.tr hF hk_f_320 (by decide +kernel)
        obtain ⟨v_326, ev_326⟩ : ∃ z : Int32, z = f_320 0 48 := ⟨_, rfl⟩
        have q_327 : 0 ≤ v_326.toInt ∧ v_326.toInt ≤ 19 := by rw [ev_326]; exact hI 0 48
        have q_328 : (f_320 0 48).toInt = v_326.toInt := (congrArg Int32.toInt (show f_320 0 48 = v_326 from ev_326.symm))
        have k_330 : (5 : Int32).toInt = 5 := by decide
        exact hret _ _ _ _ (r_323) f_320 L Q dX12_act_89 hP hS ⟨⟨hI, hF, rfl, rfl⟩, trivial, (Eq.trans (Eq.symm (hs.trans ((if_neg (fun z => absurd (z.symm.trans cs_16) (by decide))).trans ((if_neg (fun z => absurd (z.symm.trans cs_16) (by decide))).trans ((if_pos cs_16).trans ((if_neg (fun z => absurd (z.symm.trans cs_246) (by decide))).trans ((if_neg (fun z => absurd (z.symm.trans cs_246) (by decide))).trans ((if_neg (fun z => absurd (z.symm.trans cs_246) (by decide))).trans ((if_neg (fun z => absurd (z.symm.trans cs_246) (by decide))).trans ((if_neg (fun z => absurd (z.symm.trans cs_246) (by decide))).trans ((if_pos cs_246).trans (spl2_e u_325 (spl_e ev_326 rfl))))))))))))) hsp)⟩
      · skip
        have cs_246 := c
        have c_331 : v_12 = 6 := Int32.toInt_inj.mp (by have k9 : (6 : Int32).toInt = 6 := ti_6; omega)
        refine W.eq (g2 := F0 m 86 ls [.int x2, .int 6, .ref (h 0)]) (by rw [c_331]) ?_
        have q_332 : (f_15 0 48).toInt = 0 := (congrArg Int32.toInt (show f_15 0 48 = 0 from (by rw [ef_15, sg_up_s, sgu_n (by decide)]; exact (by rw [ef_14, sg_up_s, sgu_n (by decide)]; exact (by rw [ef_1, sg_up_s, sgu_s]))))).trans (by decide)
        refine sg_calli (va_runV (As := [.int 6, .int x2]) (rest := []) ⟨hx, hb, hml, hown, hts⟩ (kX12_slipsAs_6_f0_f6 l D ca za h hh f_15 L Q hI x2 (by rw [ef_15, sg_up_s, sgu_n (by decide)]; exact (by rw [ef_14, sg_up_s, sgu_n (by decide)]; exact (by rw [ef_1, sg_up_s, sgu_s]))) (Eq.trans (by rw [ef_15, sg_up_s, sgu_n (by decide)]; exact (by rw [ef_14, sg_up_s, sgu_s])) c_331) (by have k0 : (6 : Int32).toInt = 6 := ti_6; omega) H.size) (sl_c12_slipsAs_1_0_0_21_12 hts ⟨Nat.le_of_ble_eq_true rfl, Nat.le_of_ble_eq_true rfl⟩) (sl_vM_0 hA hK hP hS hZ) rfl rfl hl.1 rfl (lv_room (Nat.le_of_ble_eq_true rfl)) dX12_act_86 ⟨Nat.le_refl _, Nat.le_refl _⟩) hA hS (fun r_337 f_334 L_335 Q_336 H locs hq hP hS => ?_)
        obtain ⟨⟨hI, hk_f_334, eL9, eQ9⟩, hq, p_338, u_339⟩ := hq
        rw [eL9, eQ9] at hP; clear eL9 eQ9
        have hF : sgK WkX12_act f f_334 := sgK.tr hF hk_f_334 (by decide +kernel)
        obtain ⟨v_340, ev_340⟩ : ∃ z : Int32, z = f_334 0 48 := ⟨_, rfl⟩
        have q_341 : 0 ≤ v_340.toInt ∧ v_340.toInt ≤ 19 := by rw [ev_340]; exact hI 0 48
        have q_342 : (f_334 0 48).toInt = v_340.toInt := (congrArg Int32.toInt (show f_334 0 48 = v_340 from ev_340.symm))
        have k_344 : (6 : Int32).toInt = 6 := by decide
        exact hret _ _ _ _ (r_337) f_334 L Q dX12_act_89 hP hS ⟨⟨hI, hF, rfl, rfl⟩, trivial, (Eq.trans (Eq.symm (hs.trans ((if_neg (fun z => absurd (z.symm.trans cs_16) (by decide))).trans ((if_neg (fun z => absurd (z.symm.trans cs_16) (by decide))).trans ((if_pos cs_16).trans ((if_neg (fun z => absurd (z.symm.trans cs_246) (by decide))).trans ((if_neg (fun z => absurd (z.symm.trans cs_246) (by decide))).trans ((if_neg (fun z => absurd (z.symm.trans cs_246) (by decide))).trans ((if_neg (fun z => absurd (z.symm.trans cs_246) (by decide))).trans ((if_neg (fun z => absurd (z.symm.trans cs_246) (by decide))).trans ((if_neg (fun z => absurd (z.symm.trans cs_246) (by decide))).trans ((if_pos cs_246).trans (spl2_e u_339 (spl_e ev_340 rfl)))))))))))))) hsp)⟩
      · skip
        have cs_246 := c
        have c_345 : v_12 = 7 := Int32.toInt_inj.mp (by have k9 : (7 : Int32).toInt = 7 := ti_7; omega)
        refine W.eq (g2 := F0 m 86 ls [.int x2, .int 7, .ref (h 0)]) (by rw [c_345]) ?_
        have q_346 : (f_15 0 48).toInt = 0 := (congrArg Int32.toInt (show f_15 0 48 = 0 from (by rw [ef_15, sg_up_s, sgu_n (by decide)]; exact (by rw [ef_14, sg_up_s, sgu_n (by decide)]; exact (by rw [ef_1, sg_up_s, sgu_s]))))).trans (by decide)
        refine sg_calli (va_runV (As := [.int 7, .int x2]) (rest := []) ⟨hx, hb, hml, hown, hts⟩ (kX12_slipsAs_7_f0_f7 l D ca za h hh f_15 L Q hI x2 (by rw [ef_15, sg_up_s, sgu_n (by decide)]; exact (by rw [ef_14, sg_up_s, sgu_n (by decide)]; exact (by rw [ef_1, sg_up_s, sgu_s]))) (Eq.trans (by rw [ef_15, sg_up_s, sgu_n (by decide)]; exact (by rw [ef_14, sg_up_s, sgu_s])) c_345) (by have k0 : (7 : Int32).toInt = 7 := ti_7; omega) H.size) (sl_c12_slipsAs_3_0_0_65_12 hts ⟨Nat.le_of_ble_eq_true rfl, Nat.le_of_ble_eq_true rfl⟩) (sl_vM_0 hA hK hP hS hZ) rfl rfl hl.1 rfl (lv_room (Nat.le_of_ble_eq_true rfl)) dX12_act_86 ⟨Nat.le_refl _, Nat.le_refl _⟩) hA hS (fun r_351 f_348 L_349 Q_350 H locs hq hP hS => ?_)
        obtain ⟨⟨hI, hk_f_348, eL9, eQ9⟩, hq, p_352, u_353⟩ := hq
        rw [eL9, eQ9] at hP; clear eL9 eQ9
        have hF : sgK WkX12_act f f_348 := sgK.tr hF hk_f_348 (by decide +kernel)
        obtain ⟨v_354, ev_354⟩ : ∃ z : Int32, z = f_348 0 48 := ⟨_, rfl⟩
        have q_355 : 0 ≤ v_354.toInt ∧ v_354.toInt ≤ 19 := by rw [ev_354]; exact hI 0 48
        have q_356 : (f_348 0 48).toInt = v_354.toInt := (congrArg Int32.toInt (show f_348 0 48 = v_354 from ev_354.symm))
        have k_358 : (7 : Int32).toInt = 7 := by decide
        exact hret _ _ _ _ (r_351) f_348 L Q dX12_act_89 hP hS ⟨⟨hI, hF, rfl, rfl⟩, trivial, (Eq.trans (Eq.symm (hs.trans ((if_neg (fun z => absurd (z.symm.trans cs_16) (by decide))).trans ((if_neg (fun z => absurd (z.symm.trans cs_16) (by decide))).trans ((if_pos cs_16).trans ((if_neg (fun z => absurd (z.symm.trans cs_246) (by decide))).trans ((if_neg (fun z => absurd (z.symm.trans cs_246) (by decide))).trans ((if_neg (fun z => absurd (z.symm.trans cs_246) (by decide))).trans ((if_neg (fun z => absurd (z.symm.trans cs_246) (by decide))).trans ((if_neg (fun z => absurd (z.symm.trans cs_246) (by decide))).trans ((if_neg (fun z => absurd (z.symm.trans cs_246) (by decide))).trans ((if_neg (fun z => absurd (z.symm.trans cs_246) (by decide))).trans (spl2_e u_353 (spl_e ev_354 rfl)))))))))))))) hsp)⟩
    · skip
      have cs_16 := c
      have c_359 := c
      refine lv_tableIn (x := x1) (tgt := 90) hx hb dX12_act_31 (by omega) (by omega) (by rw [c]; rfl) (by decide) ?_
      refine lv_aload_n hx hb dX12_act_90 rfl (lv_at hl 0 rfl) ?_
      refine lv_aload_n hx hb dX12_act_91 rfl (lv_at hl 0 rfl) ?_
      refine sl_gM_0_49_12 (v := v_12) hx hb hts hown hK hP (show f_15 0 49 = v_12 from (by rw [ef_15, sg_up_s, sgu_n (by decide)]; exact (by rw [ef_14, sg_up_s, sgu_s]))) dX12_act_92 ?_
      refine lv_iload_n hx hb dX12_act_95 rfl (lv_at hl 3 rfl) ?_
      rcases (show v_12.toInt = 0 ∨ v_12.toInt = 1 ∨ v_12.toInt = 2 ∨ v_12.toInt = 3 ∨ v_12.toInt = 4 ∨ v_12.toInt = 5 ∨ v_12.toInt = 6 ∨ v_12.toInt = 7 from by omega) with c | c | c | c | c | c | c | c
      · skip
        have cs_360 := c
        have c_361 : v_12 = 0 := Int32.toInt_inj.mp (by have k9 : (0 : Int32).toInt = 0 := ti_0; omega)
        refine W.eq (g2 := F0 m 96 ls [.int x2, .int 0, .ref (h 0)]) (by rw [c_361]) ?_
        have q_362 : (f_15 0 48).toInt = 0 := (congrArg Int32.toInt (show f_15 0 48 = 0 from (by rw [ef_15, sg_up_s, sgu_n (by decide)]; exact (by rw [ef_14, sg_up_s, sgu_n (by decide)]; exact (by rw [ef_1, sg_up_s, sgu_s]))))).trans (by decide)
        refine sg_calli (va_runV (As := [.int 0, .int x2]) (rest := []) ⟨hx, hb, hml, hown, hts⟩ (kX12_tellsAs_0_f0_f0 l D ca za h hh f_15 L Q hI x2 (by rw [ef_15, sg_up_s, sgu_n (by decide)]; exact (by rw [ef_14, sg_up_s, sgu_n (by decide)]; exact (by rw [ef_1, sg_up_s, sgu_s]))) (Eq.trans (by rw [ef_15, sg_up_s, sgu_n (by decide)]; exact (by rw [ef_14, sg_up_s, sgu_s])) c_361) (by have k0 : (0 : Int32).toInt = 0 := ti_0; omega) H.size) (sl_c12_tellsAs_3_0_0_66_12 hts ⟨Nat.le_of_ble_eq_true rfl, Nat.le_of_ble_eq_true rfl⟩) (sl_vM_0 hA hK hP hS hZ) rfl rfl hl.1 rfl (lv_room (Nat.le_of_ble_eq_true rfl)) dX12_act_96 ⟨Nat.le_refl _, Nat.le_refl _⟩) hA hS (fun r_367 f_364 L_365 Q_366 H locs hq hP hS => ?_)
        obtain ⟨⟨hI, hk_f_364, eL9, eQ9⟩, hq, p_368, u_369⟩ := hq
        rw [eL9, eQ9] at hP; clear eL9 eQ9
        have hF : sgK WkX12_act f f_364 := sgK.tr hF hk_f_364 (by decide +kernel)
        obtain ⟨v_370, ev_370⟩ : ∃ z : Int32, z = f_364 0 48 := ⟨_, rfl⟩
        have q_371 : 0 ≤ v_370.toInt ∧ v_370.toInt ≤ 19 := by rw [ev_370]; exact hI 0 48
        have q_372 : (f_364 0 48).toInt = v_370.toInt := (congrArg Int32.toInt (show f_364 0 48 = v_370 from ev_370.symm))
        have k_374 : (0 : Int32).toInt = 0 := by decide
        exact hret _ _ _ _ (r_367) f_364 L Q dX12_act_99 hP hS ⟨⟨hI, hF, rfl, rfl⟩, trivial, (Eq.trans (Eq.symm (hs.trans ((if_neg (fun z => absurd (z.symm.trans cs_16) (by decide))).trans ((if_neg (fun z => absurd (z.symm.trans cs_16) (by decide))).trans ((if_neg (fun z => absurd (z.symm.trans cs_16) (by decide))).trans ((if_pos cs_16).trans ((if_pos cs_360).trans (spl2_e u_369 (spl_e ev_370 rfl))))))))) hsp)⟩
      · skip
        have cs_360 := c
        have c_375 : v_12 = 1 := Int32.toInt_inj.mp (by have k9 : (1 : Int32).toInt = 1 := ti_1; omega)
        refine W.eq (g2 := F0 m 96 ls [.int x2, .int 1, .ref (h 0)]) (by rw [c_375]) ?_
        have q_376 : (f_15 0 48).toInt = 0 := (congrArg Int32.toInt (show f_15 0 48 = 0 from (by rw [ef_15, sg_up_s, sgu_n (by decide)]; exact (by rw [ef_14, sg_up_s, sgu_n (by decide)]; exact (by rw [ef_1, sg_up_s, sgu_s]))))).trans (by decide)
        refine sg_calli (va_runV (As := [.int 1, .int x2]) (rest := []) ⟨hx, hb, hml, hown, hts⟩ (kX12_tellsAs_1_f0_f1 l D ca za h hh f_15 L Q hI x2 (by rw [ef_15, sg_up_s, sgu_n (by decide)]; exact (by rw [ef_14, sg_up_s, sgu_n (by decide)]; exact (by rw [ef_1, sg_up_s, sgu_s]))) (Eq.trans (by rw [ef_15, sg_up_s, sgu_n (by decide)]; exact (by rw [ef_14, sg_up_s, sgu_s])) c_375) (by have k0 : (1 : Int32).toInt = 1 := ti_1; omega) H.size) (sl_c12_tellsAs_4_0_0_88_12 hts ⟨Nat.le_of_ble_eq_true rfl, Nat.le_of_ble_eq_true rfl⟩) (sl_vM_0 hA hK hP hS hZ) rfl rfl hl.1 rfl (lv_room (Nat.le_of_ble_eq_true rfl)) dX12_act_96 ⟨Nat.le_refl _, Nat.le_refl _⟩) hA hS (fun r_381 f_378 L_379 Q_380 H locs hq hP hS => ?_)
        obtain ⟨⟨hI, hk_f_378, eL9, eQ9⟩, hq, p_382, u_383⟩ := hq
        rw [eL9, eQ9] at hP; clear eL9 eQ9
        have hF : sgK WkX12_act f f_378 := sgK.tr hF hk_f_378 (by decide +kernel)
        obtain ⟨v_384, ev_384⟩ : ∃ z : Int32, z = f_378 0 48 := ⟨_, rfl⟩
        have q_385 : 0 ≤ v_384.toInt ∧ v_384.toInt ≤ 19 := by rw [ev_384]; exact hI 0 48
        have q_386 : (f_378 0 48).toInt = v_384.toInt := (congrArg Int32.toInt (show f_378 0 48 = v_384 from ev_384.symm))
        have k_388 : (1 : Int32).toInt = 1 := by decide
        exact hret _ _ _ _ (r_381) f_378 L Q dX12_act_99 hP hS ⟨⟨hI, hF, rfl, rfl⟩, trivial, (Eq.trans (Eq.symm (hs.trans ((if_neg (fun z => absurd (z.symm.trans cs_16) (by decide))).trans ((if_neg (fun z => absurd (z.symm.trans cs_16) (by decide))).trans ((if_neg (fun z => absurd (z.symm.trans cs_16) (by decide))).trans ((if_pos cs_16).trans ((if_neg (fun z => absurd (z.symm.trans cs_360) (by decide))).trans ((if_pos cs_360).trans (spl2_e u_383 (spl_e ev_384 rfl)))))))))) hsp)⟩
      · skip
        have cs_360 := c
        have c_389 : v_12 = 2 := Int32.toInt_inj.mp (by have k9 : (2 : Int32).toInt = 2 := ti_2; omega)
        refine W.eq (g2 := F0 m 96 ls [.int x2, .int 2, .ref (h 0)]) (by rw [c_389]) ?_
        have q_390 : (f_15 0 48).toInt = 0 := (congrArg Int32.toInt (show f_15 0 48 = 0 from (by rw [ef_15, sg_up_s, sgu_n (by decide)]; exact (by rw [ef_14, sg_up_s, sgu_n (by decide)]; exact (by rw [ef_1, sg_up_s, sgu_s]))))).trans (by decide)
        refine sg_calli (va_runV (As := [.int 2, .int x2]) (rest := []) ⟨hx, hb, hml, hown, hts⟩ (kX12_tellsAs_2_f0_f2 l D ca za h hh f_15 L Q hI x2 (by rw [ef_15, sg_up_s, sgu_n (by decide)]; exact (by rw [ef_14, sg_up_s, sgu_n (by decide)]; exact (by rw [ef_1, sg_up_s, sgu_s]))) (Eq.trans (by rw [ef_15, sg_up_s, sgu_n (by decide)]; exact (by rw [ef_14, sg_up_s, sgu_s])) c_389) (by have k0 : (2 : Int32).toInt = 2 := ti_2; omega) H.size) (sl_c12_tellsAs_4_0_0_89_12 hts ⟨Nat.le_of_ble_eq_true rfl, Nat.le_of_ble_eq_true rfl⟩) (sl_vM_0 hA hK hP hS hZ) rfl rfl hl.1 rfl (lv_room (Nat.le_of_ble_eq_true rfl)) dX12_act_96 ⟨Nat.le_refl _, Nat.le_refl _⟩) hA hS (fun r_395 f_392 L_393 Q_394 H locs hq hP hS => ?_)
        obtain ⟨⟨hI, hk_f_392, eL9, eQ9⟩, hq, p_396, u_397⟩ := hq
        rw [eL9, eQ9] at hP; clear eL9 eQ9
        have hF : sgK WkX12_act f f_392 := sgK.tr hF hk_f_392 (by decide +kernel)
        obtain ⟨v_398, ev_398⟩ : ∃ z : Int32, z = f_392 0 48 := ⟨_, rfl⟩
        have q_399 : 0 ≤ v_398.toInt ∧ v_398.toInt ≤ 19 := by rw [ev_398]; exact hI 0 48
        have q_400 : (f_392 0 48).toInt = v_398.toInt := (congrArg Int32.toInt (show f_392 0 48 = v_398 from ev_398.symm))
        have k_402 : (2 : Int32).toInt = 2 := by decide
        exact hret _ _ _ _ (r_395) f_392 L Q dX12_act_99 hP hS ⟨⟨hI, hF, rfl, rfl⟩, trivial, (Eq.trans (Eq.symm (hs.trans ((if_neg (fun z => absurd (z.symm.trans cs_16) (by decide))).trans ((if_neg (fun z => absurd (z.symm.trans cs_16) (by decide))).trans ((if_neg (fun z => absurd (z.symm.trans cs_16) (by decide))).trans ((if_pos cs_16).trans ((if_neg (fun z => absurd (z.symm.trans cs_360) (by decide))).trans ((if_neg (fun z => absurd (z.symm.trans cs_360) (by decide))).trans ((if_pos cs_360).trans (spl2_e u_397 (spl_e ev_398 rfl))))))))))) hsp)⟩
      · skip
        have cs_360 := c
        have c_403 : v_12 = 3 := Int32.toInt_inj.mp (by have k9 : (3 : Int32).toInt = 3 := ti_3; omega)
        refine W.eq (g2 := F0 m 96 ls [.int x2, .int 3, .ref (h 0)]) (by rw [c_403]) ?_
        have q_404 : (f_15 0 48).toInt = 0 := (congrArg Int32.toInt (show f_15 0 48 = 0 from (by rw [ef_15, sg_up_s, sgu_n (by decide)]; exact (by rw [ef_14, sg_up_s, sgu_n (by decide)]; exact (by rw [ef_1, sg_up_s, sgu_s]))))).trans (by decide)
        refine sg_calli (va_runV (As := [.int 3, .int x2]) (rest := []) ⟨hx, hb, hml, hown, hts⟩ (kX12_tellsAs_3_f0_f3 l D ca za h hh f_15 L Q hI x2 (by rw [ef_15, sg_up_s, sgu_n (by decide)]; exact (by rw [ef_14, sg_up_s, sgu_n (by decide)]; exact (by rw [ef_1, sg_up_s, sgu_s]))) (Eq.trans (by rw [ef_15, sg_up_s, sgu_n (by decide)]; exact (by rw [ef_14, sg_up_s, sgu_s])) c_403) (by have k0 : (3 : Int32).toInt = 3 := ti_3; omega) H.size) (sl_c12_tellsAs_5_0_0_112_12 hts ⟨Nat.le_of_ble_eq_true rfl, Nat.le_of_ble_eq_true rfl⟩) (sl_vM_0 hA hK hP hS hZ) rfl rfl hl.1 rfl (lv_room (Nat.le_of_ble_eq_true rfl)) dX12_act_96 ⟨Nat.le_refl _, Nat.le_refl _⟩) hA hS (fun r_409 f_406 L_407 Q_408 H locs hq hP hS => ?_)
        obtain ⟨⟨hI, hk_f_406, eL9, eQ9⟩, hq, p_410, u_411⟩ := hq
        rw [eL9, eQ9] at hP; clear eL9 eQ9
        have hF : sgK WkX12_act f f_406 := sgK.tr hF hk_f_406 (by decide +kernel)
        obtain ⟨v_412, ev_412⟩ : ∃ z : Int32, z = f_406 0 48 := ⟨_, rfl⟩
        have q_413 : 0 ≤ v_412.toInt ∧ v_412.toInt ≤ 19 := by rw [ev_412]; exact hI 0 48
        have q_414 : (f_406 0 48).toInt = v_412.toInt := (congrArg Int32.toInt (show f_406 0 48 = v_412 from ev_412.symm))
        have k_416 : (3 : Int32).toInt = 3 := by decide
        exact hret _ _ _ _ (r_409) f_406 L Q dX12_act_99 hP hS ⟨⟨hI, hF, rfl, rfl⟩, trivial, (Eq.trans (Eq.symm (hs.trans ((if_neg (fun z => absurd (z.symm.trans cs_16) (by decide))).trans ((if_neg (fun z => absurd (z.symm.trans cs_16) (by decide))).trans ((if_neg (fun z => absurd (z.symm.trans cs_16) (by decide))).trans ((if_pos cs_16).trans ((if_neg (fun z => absurd (z.symm.trans cs_360) (by decide))).trans ((if_neg (fun z => absurd (z.symm.trans cs_360) (by decide))).trans ((if_neg (fun z => absurd (z.symm.trans cs_360) (by decide))).trans ((if_pos cs_360).trans (spl2_e u_411 (spl_e ev_412 rfl)))))))))))) hsp)⟩
      · skip
        have cs_360 := c
        have c_417 : v_12 = 4 := Int32.toInt_inj.mp (by have k9 : (4 : Int32).toInt = 4 := ti_4; omega)
        refine W.eq (g2 := F0 m 96 ls [.int x2, .int 4, .ref (h 0)]) (by rw [c_417]) ?_
        have q_418 : (f_15 0 48).toInt = 0 := (congrArg Int32.toInt (show f_15 0 48 = 0 from (by rw [ef_15, sg_up_s, sgu_n (by decide)]; exact (by rw [ef_14, sg_up_s, sgu_n (by decide)]; exact (by rw [ef_1, sg_up_s, sgu_s]))))).trans (by decide)
        refine sg_calli (va_runV (As := [.int 4, .int x2]) (rest := []) ⟨hx, hb, hml, hown, hts⟩ (kX12_tellsAs_4_f0_f4 l D ca za h hh f_15 L Q hI x2 (by rw [ef_15, sg_up_s, sgu_n (by decide)]; exact (by rw [ef_14, sg_up_s, sgu_n (by decide)]; exact (by rw [ef_1, sg_up_s, sgu_s]))) (Eq.trans (by rw [ef_15, sg_up_s, sgu_n (by decide)]; exact (by rw [ef_14, sg_up_s, sgu_s])) c_417) (by have k0 : (4 : Int32).toInt = 4 := ti_4; omega) H.size) (sl_c12_tellsAs_4_0_0_88_12 hts ⟨Nat.le_of_ble_eq_true rfl, Nat.le_of_ble_eq_true rfl⟩) (sl_vM_0 hA hK hP hS hZ) rfl rfl hl.1 rfl (lv_room (Nat.le_of_ble_eq_true rfl)) dX12_act_96 ⟨Nat.le_refl _, Nat.le_refl _⟩) hA hS (fun r_423 f_420 L_421 Q_422 H locs hq hP hS => ?_)
        obtain ⟨⟨hI, hk_f_420, eL9, eQ9⟩, hq, p_424, u_425⟩ := hq
        rw [eL9, eQ9] at hP; clear eL9 eQ9
        have hF : sgK WkX12_act f f_420 := sgK.tr hF hk_f_420 (by decide +kernel)
        obtain ⟨v_426, ev_426⟩ : ∃ z : Int32, z = f_420 0 48 := ⟨_, rfl⟩
        have q_427 : 0 ≤ v_426.toInt ∧ v_426.toInt ≤ 19 := by rw [ev_426]; exact hI 0 48
        have q_428 : (f_420 0 48).toInt = v_426.toInt := (congrArg Int32.toInt (show f_420 0 48 = v_426 from ev_426.symm))
        have k_430 : (4 : Int32).toInt = 4 := by decide
        exact hret _ _ _ _ (r_423) f_420 L Q dX12_act_99 hP hS ⟨⟨hI, hF, rfl, rfl⟩, trivial, (Eq.trans (Eq.symm (hs.trans ((if_neg (fun z => absurd (z.symm.trans cs_16) (by decide))).trans ((if_neg (fun z => absurd (z.symm.trans cs_16) (by decide))).trans ((if_neg (fun z => absurd (z.symm.trans cs_16) (by decide))).trans ((if_pos cs_16).trans ((if_neg (fun z => absurd (z.symm.trans cs_360) (by decide))).trans ((if_neg (fun z => absurd (z.symm.trans cs_360) (by decide))).trans ((if_neg (fun z => absurd (z.symm.trans cs_360) (by decide))).trans ((if_neg (fun z => absurd (z.symm.trans cs_360) (by decide))).trans ((if_pos cs_360).trans (spl2_e u_425 (spl_e ev_426 rfl))))))))))))) hsp)⟩
      · skip
        have cs_360 := c
        have c_431 : v_12 = 5 := Int32.toInt_inj.mp (by have k9 : (5 : Int32).toInt = 5 := ti_5; omega)
        refine W.eq (g2 := F0 m 96 ls [.int x2, .int 5, .ref (h 0)]) (by rw [c_431]) ?_
        have q_432 : (f_15 0 48).toInt = 0 := (congrArg Int32.toInt (show f_15 0 48 = 0 from (by rw [ef_15, sg_up_s, sgu_n (by decide)]; exact (by rw [ef_14, sg_up_s, sgu_n (by decide)]; exact (by rw [ef_1, sg_up_s, sgu_s]))))).trans (by decide)
        refine sg_calli (va_runV (As := [.int 5, .int x2]) (rest := []) ⟨hx, hb, hml, hown, hts⟩ (kX12_tellsAs_5_f0_f5 l D ca za h hh f_15 L Q hI x2 (by rw [ef_15, sg_up_s, sgu_n (by decide)]; exact (by rw [ef_14, sg_up_s, sgu_n (by decide)]; exact (by rw [ef_1, sg_up_s, sgu_s]))) (Eq.trans (by rw [ef_15, sg_up_s, sgu_n (by decide)]; exact (by rw [ef_14, sg_up_s, sgu_s])) c_431) (by have k0 : (5 : Int32).toInt = 5 := ti_5; omega) H.size) (sl_c12_tellsAs_6_0_0_135_12 hts ⟨Nat.le_of_ble_eq_true rfl, Nat.le_of_ble_eq_true rfl⟩) (sl_vM_0 hA hK hP hS hZ) rfl rfl hl.1 rfl (lv_room (Nat.le_of_ble_eq_true rfl)) dX12_act_96 ⟨Nat.le_refl _, Nat.le_refl _⟩) hA hS (fun r_437 f_434 L_435 Q_436 H locs hq hP hS => ?_)
        obtain ⟨⟨hI, hk_f_434, eL9, eQ9⟩, hq, p_438, u_439⟩ := hq
        rw [eL9, eQ9] at hP; clear eL9 eQ9
        have hF : sgK WkX12_act f f_434 := sgK.tr hF hk_f_434 (by decide +kernel)
        obtain ⟨v_440, ev_440⟩ : ∃ z : Int32, z = f_434 0 48 := ⟨_, rfl⟩
        have q_441 : 0 ≤ v_440.toInt ∧ v_440.toInt ≤ 19 := by rw [ev_440]; exact hI 0 48
        have q_442 : (f_434 0 48).toInt = v_440.toInt := (congrArg Int32.toInt (show f_434 0 48 = v_440 from ev_440.symm))
        have k_444 : (5 : Int32).toInt = 5 := by decide
        exact hret _ _ _ _ (r_437) f_434 L Q dX12_act_99 hP hS ⟨⟨hI, hF, rfl, rfl⟩, trivial, (Eq.trans (Eq.symm (hs.trans ((if_neg (fun z => absurd (z.symm.trans cs_16) (by decide))).trans ((if_neg (fun z => absurd (z.symm.trans cs_16) (by decide))).trans ((if_neg (fun z => absurd (z.symm.trans cs_16) (by decide))).trans ((if_pos cs_16).trans ((if_neg (fun z => absurd (z.symm.trans cs_360) (by decide))).trans ((if_neg (fun z => absurd (z.symm.trans cs_360) (by decide))).trans ((if_neg (fun z => absurd (z.symm.trans cs_360) (by decide))).trans ((if_neg (fun z => absurd (z.symm.trans cs_360) (by decide))).trans ((if_neg (fun z => absurd (z.symm.trans cs_360) (by decide))).trans ((if_pos cs_360).trans (spl2_e u_439 (spl_e ev_440 rfl)))))))))))))) hsp)⟩
      · skip
        have cs_360 := c
        have c_445 : v_12 = 6 := Int32.toInt_inj.mp (by have k9 : (6 : Int32).toInt = 6 := ti_6; omega)
        refine W.eq (g2 := F0 m 96 ls [.int x2, .int 6, .ref (h 0)]) (by rw [c_445]) ?_
        have q_446 : (f_15 0 48).toInt = 0 := (congrArg Int32.toInt (show f_15 0 48 = 0 from (by rw [ef_15, sg_up_s, sgu_n (by decide)]; exact (by rw [ef_14, sg_up_s, sgu_n (by decide)]; exact (by rw [ef_1, sg_up_s, sgu_s]))))).trans (by decide)
        refine sg_calli (va_runV (As := [.int 6, .int x2]) (rest := []) ⟨hx, hb, hml, hown, hts⟩ (kX12_tellsAs_6_f0_f6 l D ca za h hh f_15 L Q hI x2 (by rw [ef_15, sg_up_s, sgu_n (by decide)]; exact (by rw [ef_14, sg_up_s, sgu_n (by decide)]; exact (by rw [ef_1, sg_up_s, sgu_s]))) (Eq.trans (by rw [ef_15, sg_up_s, sgu_n (by decide)]; exact (by rw [ef_14, sg_up_s, sgu_s])) c_445) (by have k0 : (6 : Int32).toInt = 6 := ti_6; omega) H.size) (sl_c12_tellsAs_4_0_0_88_12 hts ⟨Nat.le_of_ble_eq_true rfl, Nat.le_of_ble_eq_true rfl⟩) (sl_vM_0 hA hK hP hS hZ) rfl rfl hl.1 rfl (lv_room (Nat.le_of_ble_eq_true rfl)) dX12_act_96 ⟨Nat.le_refl _, Nat.le_refl _⟩) hA hS (fun r_451 f_448 L_449 Q_450 H locs hq hP hS => ?_)
        obtain ⟨⟨hI, hk_f_448, eL9, eQ9⟩, hq, p_452, u_453⟩ := hq
        rw [eL9, eQ9] at hP; clear eL9 eQ9
        have hF : sgK WkX12_act f f_448 := sgK.tr hF hk_f_448 (by decide +kernel)
        obtain ⟨v_454, ev_454⟩ : ∃ z : Int32, z = f_448 0 48 := ⟨_, rfl⟩
        have q_455 : 0 ≤ v_454.toInt ∧ v_454.toInt ≤ 19 := by rw [ev_454]; exact hI 0 48
        have q_456 : (f_448 0 48).toInt = v_454.toInt := (congrArg Int32.toInt (show f_448 0 48 = v_454 from ev_454.symm))
        have k_458 : (6 : Int32).toInt = 6 := by decide
        exact hret _ _ _ _ (r_451) f_448 L Q dX12_act_99 hP hS ⟨⟨hI, hF, rfl, rfl⟩, trivial, (Eq.trans (Eq.symm (hs.trans ((if_neg (fun z => absurd (z.symm.trans cs_16) (by decide))).trans ((if_neg (fun z => absurd (z.symm.trans cs_16) (by decide))).trans ((if_neg (fun z => absurd (z.symm.trans cs_16) (by decide))).trans ((if_pos cs_16).trans ((if_neg (fun z => absurd (z.symm.trans cs_360) (by decide))).trans ((if_neg (fun z => absurd (z.symm.trans cs_360) (by decide))).trans ((if_neg (fun z => absurd (z.symm.trans cs_360) (by decide))).trans ((if_neg (fun z => absurd (z.symm.trans cs_360) (by decide))).trans ((if_neg (fun z => absurd (z.symm.trans cs_360) (by decide))).trans ((if_neg (fun z => absurd (z.symm.trans cs_360) (by decide))).trans ((if_pos cs_360).trans (spl2_e u_453 (spl_e ev_454 rfl))))))))))))))) hsp)⟩
      · skip
        have cs_360 := c
        have c_459 : v_12 = 7 := Int32.toInt_inj.mp (by have k9 : (7 : Int32).toInt = 7 := ti_7; omega)
        refine W.eq (g2 := F0 m 96 ls [.int x2, .int 7, .ref (h 0)]) (by rw [c_459]) ?_
        have q_460 : (f_15 0 48).toInt = 0 := (congrArg Int32.toInt (show f_15 0 48 = 0 from (by rw [ef_15, sg_up_s, sgu_n (by decide)]; exact (by rw [ef_14, sg_up_s, sgu_n (by decide)]; exact (by rw [ef_1, sg_up_s, sgu_s]))))).trans (by decide)
        refine sg_calli (va_runV (As := [.int 7, .int x2]) (rest := []) ⟨hx, hb, hml, hown, hts⟩ (kX12_tellsAs_7_f0_f7 l D ca za h hh f_15 L Q hI x2 (by rw [ef_15, sg_up_s, sgu_n (by decide)]; exact (by rw [ef_14, sg_up_s, sgu_n (by decide)]; exact (by rw [ef_1, sg_up_s, sgu_s]))) (Eq.trans (by rw [ef_15, sg_up_s, sgu_n (by decide)]; exact (by rw [ef_14, sg_up_s, sgu_s])) c_459) (by have k0 : (7 : Int32).toInt = 7 := ti_7; omega) H.size) (sl_c12_tellsAs_6_0_0_134_12 hts ⟨Nat.le_of_ble_eq_true rfl, Nat.le_of_ble_eq_true rfl⟩) (sl_vM_0 hA hK hP hS hZ) rfl rfl hl.1 rfl (lv_room (Nat.le_of_ble_eq_true rfl)) dX12_act_96 ⟨Nat.le_refl _, Nat.le_refl _⟩) hA hS (fun r_465 f_462 L_463 Q_464 H locs hq hP hS => ?_)
        obtain ⟨⟨hI, hk_f_462, eL9, eQ9⟩, hq, p_466, u_467⟩ := hq
        rw [eL9, eQ9] at hP; clear eL9 eQ9
        have hF : sgK WkX12_act f f_462 := sgK.tr hF hk_f_462 (by decide +kernel)
        obtain ⟨v_468, ev_468⟩ : ∃ z : Int32, z = f_462 0 48 := ⟨_, rfl⟩
        have q_469 : 0 ≤ v_468.toInt ∧ v_468.toInt ≤ 19 := by rw [ev_468]; exact hI 0 48
        have q_470 : (f_462 0 48).toInt = v_468.toInt := (congrArg Int32.toInt (show f_462 0 48 = v_468 from ev_468.symm))
        have k_472 : (7 : Int32).toInt = 7 := by decide
        exact hret _ _ _ _ (r_465) f_462 L Q dX12_act_99 hP hS ⟨⟨hI, hF, rfl, rfl⟩, trivial, (Eq.trans (Eq.symm (hs.trans ((if_neg (fun z => absurd (z.symm.trans cs_16) (by decide))).trans ((if_neg (fun z => absurd (z.symm.trans cs_16) (by decide))).trans ((if_neg (fun z => absurd (z.symm.trans cs_16) (by decide))).trans ((if_pos cs_16).trans ((if_neg (fun z => absurd (z.symm.trans cs_360) (by decide))).trans ((if_neg (fun z => absurd (z.symm.trans cs_360) (by decide))).trans ((if_neg (fun z => absurd (z.symm.trans cs_360) (by decide))).trans ((if_neg (fun z => absurd (z.symm.trans cs_360) (by decide))).trans ((if_neg (fun z => absurd (z.symm.trans cs_360) (by decide))).trans ((if_neg (fun z => absurd (z.symm.trans cs_360) (by decide))).trans ((if_neg (fun z => absurd (z.symm.trans cs_360) (by decide))).trans (spl2_e u_467 (spl_e ev_468 rfl))))))))))))))) hsp)⟩
  · skip
    have hc_11 := hq
    refine lv_if_ne (tgt := 15) hx hb dX12_act_10 (by decide) (fun c => absurd c (by decide)) (fun c => ?_)
    refine lv_iconst (v := 0) hx hb dX12_act_13 ic_0 ?_
    have k99 : (0 : Int32).toInt = 0 := ti_0
    exact hret _ _ _ _ (0) f_1 L Q dX12_act_14 hP hS ⟨⟨hI, hF, rfl, rfl⟩, trivial, (Eq.trans (Eq.symm (hs.trans ((if_neg (by decide)).trans rfl))) hsp)⟩

set_option maxHeartbeats 4000000 in
set_option maxRecDepth 100000 in
theorem kX12_trace (l : Launch) (D : va_G) (ca : Nat → ClassId) (za h : Nat → Nat) (hh : sgH 26 h) (f : sg_F) (L : sg_L) (Q : sg_Q) (hI : sgI loM hiM f) (x0 : Int32) (sz : Nat) : Met l yX12_trace gwX12_trace { frames := 0, cells := 0, slots := 0, locals := 0 } (sgP D vwCl (tyX ca) 26 h (eM ca h) zcM za f L Q sz [.ref (h 0), .int x0]) (sgQi D vwCl 26 h (eM ca h) sz (fun r f1 L1 Q1 => ((f1 = f ∧ L1 = L ∧ Q1 = Q) ∧ ((-1) ≤ r.toInt ∧ r.toInt ≤ 81) ∧ (r) = sX12_trace x0 f L))) 0 0 (sgA 26 h sz) := by
  refine sg_ofWi (cc := cX12_trace) (maxL := 2) RX12 (by decide) rfl rfl (Nat.le_of_ble_eq_true rfl) ?_
  intro p e s m below meth cd Qz ls hx hb hml hown hts hK hZ hP hS hl hret
  have hA := sgY.self (n := 26) (h := h) (sz := s.heap.size)
  have hl : lv_has ls 2 [(0, .ref (h 0)), (1, .int x0)] := hl
  obtain ⟨H, hH⟩ : ∃ z : Heap, z = s.heap := ⟨_, rfl⟩
  obtain ⟨locs, hlo⟩ : ∃ z : List Loc, z = [] := ⟨_, rfl⟩
  have hP : va_P D vwCl (sgw 26 h (eM ca h) f L Q) H := by rw [hH]; exact hP
  have hS : va_S (sgA 26 h s.heap.size) s.heap H locs := by rw [hH, hlo]; exact hS
  suffices hgo : W p l e ({ frames := 0, cells := 0, slots := 0, locals := 0 }) s m ([.ref (h 0), .int x0] : List Value).toArray below meth cd H locs 0 0 Qz (F0 m 0 ls []) by rw [hH, hlo] at hgo; exact hgo
  clear hH hlo
  obtain ⟨sp, hsp⟩ : ∃ z : Int32, z = sX12_trace x0 f L := ⟨_, rfl⟩
  have hs : sp = sX12_trace x0 f L := hsp
  refine lv_iload_n hx hb dX12_trace_0 rfl (lv_at hl 1 rfl) ?_
  refine lv_if_lt (tgt := 27) hx hb dX12_trace_1 (by decide) (fun c => ?_) (fun c => ?_)
  · skip
    have c_1 : x0.toInt < 0 := (by first | exact (cm_lt1 ti_0 c) | (have z := bn_lt c; have k1 : (0 : Int32).toInt = 0 := ti_0; omega))
    refine lv_iconst (v := (-1)) hx hb dX12_trace_27 ic_m1 ?_
    have k99 : ((-1) : Int32).toInt = (-1) := ti_m1
    exact hret _ _ _ _ (-1) f L Q dX12_trace_28 hP hS ⟨⟨rfl, rfl, rfl⟩, (by decide), (Eq.trans (Eq.symm (hs.trans (((if_pos c_1).trans rfl)))) hsp)⟩
  · skip
    have c_2 : 0 ≤ x0.toInt := (by first | exact (cm_nlt1 ti_0 c) | (have z := bn_nlt c; have k1 : (0 : Int32).toInt = 0 := ti_0; omega))
    refine lv_iload_n hx hb dX12_trace_4 rfl (lv_at hl 1 rfl) ?_
    refine lv_aload_n hx hb dX12_trace_5 rfl (lv_at hl 0 rfl) ?_
    refine sl_gM_0_48_12 (v := (f 0 48)) hx hb hts hown hK hP rfl dX12_trace_6 ?_
    refine lv_topi (fun v_3 ev_3 => ?_)
    replace hs := hs.trans ((if_neg (Int.not_lt.mpr c_2)).trans (spl_e ev_3 rfl))
    have q_4 : 0 ≤ v_3.toInt ∧ v_3.toInt ≤ 19 := by rw [ev_3]; exact hI 0 48
    refine lv_icmp_ge (tgt := 27) hx hb dX12_trace_9 (by decide) (fun c => ?_) (fun c => ?_)
    · skip
      have c_5 : v_3.toInt ≤ x0.toInt := (by first | exact (bn_le c) | (have z := bn_le c; omega))
      refine lv_iconst (v := (-1)) hx hb dX12_trace_27 ic_m1 ?_
      have k99 : ((-1) : Int32).toInt = (-1) := ti_m1
      exact hret _ _ _ _ (-1) f L Q dX12_trace_28 hP hS ⟨⟨rfl, rfl, rfl⟩, (by decide), (Eq.trans (Eq.symm (hs.trans ((if_neg (Int.not_lt.mpr c_5)).trans rfl))) hsp)⟩
    · skip
      have c_6 : x0.toInt < v_3.toInt := (by first | exact (bn_nle c) | (have z := bn_nle c; omega))
      refine lv_iload_n hx hb dX12_trace_12 rfl (lv_at hl 1 rfl) ?_
      refine lv_bipush (v := 24) hx hb dX12_trace_13 bp_24 ?_
      refine lv_icmp_ge (tgt := 27) hx hb dX12_trace_15 (by decide) (fun c => ?_) (fun c => ?_)
      · skip
        exfalso; have c_7 : 24 ≤ x0.toInt := (by first | exact (cm_le0 ti_24 c) | (have z := bn_le c; have k1 : (24 : Int32).toInt = 24 := ti_24; omega)); omega
      · skip
        have c_8 : x0.toInt < 24 := (by first | exact (cm_nle0 ti_24 c) | (have z := bn_nle c; have k1 : (24 : Int32).toInt = 24 := ti_24; omega))
        refine lv_aload_n hx hb dX12_trace_18 rfl (lv_at hl 0 rfl) ?_
        refine sl_gM_0_47_12 hx hb hts hown hK hP dX12_trace_19 ?_
        refine lv_iload_n hx hb dX12_trace_22 rfl (lv_at hl 1 rfl) ?_
        refine sg_iald hx hb hK hP 21 (by decide) 0 rfl rfl (i := x0) (vp_in_iff.mpr ⟨by omega, by omega⟩) dX12_trace_23 ?_
        refine lv_topi (fun v_9 ev_9 => ?_)
        have q_10 : 0 ≤ v_9.toInt ∧ v_9.toInt ≤ 81 := by rw [ev_9]; exact hI 21 _
        refine lv_goto (tgt := 28) hx hb dX12_trace_24 (by decide) ?_
        exact hret _ _ _ _ (v_9) f L Q dX12_trace_28 hP hS ⟨⟨rfl, rfl, rfl⟩, ⟨by omega, by omega⟩, (Eq.trans (Eq.symm (hs.trans ((if_pos c_6).trans (spl_e ev_9 rfl)))) hsp)⟩

abbrev WkX12_keep : List (Nat × Nat × Option Nat) := [(22, 22, none), (23, 23, none)]
set_option maxHeartbeats 4000000 in
set_option maxRecDepth 100000 in
theorem kX12_keep (l : Launch) (D : va_G) (ca : Nat → ClassId) (za h : Nat → Nat) (hh : sgH 26 h) (f : sg_F) (L : sg_L) (Q : sg_Q) (hI : sgI loM hiM f) (x0 : Int32) (x1 : Int32) (sz : Nat) : Met l yX12_keep gwX12_keep { frames := 2, cells := 0, slots := 0, locals := 46 } (sgP D vwCl (tyX ca) 26 h (eM ca h) zcM za f L Q sz [.ref (h 0), .int x0, .int x1]) (sgQi D vwCl 26 h (eM ca h) sz (fun r f1 L1 Q1 => ((sgI loM hiM f1 ∧ sgK WkX12_keep f f1 ∧ L1 = L ∧ Q1 = Q) ∧ ((-1) ≤ r.toInt ∧ r.toInt ≤ 1) ∧ (r, f1) = sX12_keep x0 x1 f L))) 0 0 (sgA 26 h sz) := by
  refine sg_ofWi (cc := cX12_keep) (maxL := 3) RX12 (by decide) rfl rfl (Nat.le_of_ble_eq_true rfl) ?_
  intro p e s m below meth cd Qz ls hx hb hml hown hts hK hZ hP hS hl hret
  have hA := sgY.self (n := 26) (h := h) (sz := s.heap.size)
  have hl : lv_has ls 3 [(0, .ref (h 0)), (1, .int x0), (2, .int x1)] := hl
  obtain ⟨H, hH⟩ : ∃ z : Heap, z = s.heap := ⟨_, rfl⟩
  obtain ⟨locs, hlo⟩ : ∃ z : List Loc, z = [] := ⟨_, rfl⟩
  have hP : va_P D vwCl (sgw 26 h (eM ca h) f L Q) H := by rw [hH]; exact hP
  have hS : va_S (sgA 26 h s.heap.size) s.heap H locs := by rw [hH, hlo]; exact hS
  suffices hgo : W p l e ({ frames := 2, cells := 0, slots := 0, locals := 46 }) s m ([.ref (h 0), .int x0, .int x1] : List Value).toArray below meth cd H locs 0 0 Qz (F0 m 0 ls []) by rw [hH, hlo] at hgo; exact hgo
  clear hH hlo
  obtain ⟨sp, hsp⟩ : ∃ z : Int32 × sg_F, z = sX12_keep x0 x1 f L := ⟨_, rfl⟩
  have hs : sp = sX12_keep x0 x1 f L := hsp
  have hF : sgK WkX12_keep f f := sgK.rf
  have blk_22 : ∀ (fp_22 : sg_F) (H : Heap) (locs : List Loc) (ls : Array Slot), sp = sX12_keep_b22 x0 x1 fp_22 L → 0 ≤ x0.toInt ∧ x0.toInt ≤ 5 → (-1) ≤ x1.toInt ∧ x1.toInt ≤ 49 → sgI loM hiM fp_22 → sgK WkX12_keep f fp_22 → va_P D vwCl (sgw 26 h (eM ca h) fp_22 L Q) H → va_S (sgA 26 h s.heap.size) s.heap H locs → lv_has ls 3 [(0, .ref (h 0)), (1, .int x0), (2, .int x1)] → W p l e ({ frames := 2, cells := 0, slots := 0, locals := 46 }) s m ([.ref (h 0), .int x0, .int x1] : List Value).toArray below meth cd H locs 0 0 Qz (F0 m 22 ls []) := by
    intro fp_22 H locs ls hs hy0_22 hy1_22 hI hF hP hS hl
    refine lv_aload_n hx hb dX12_keep_22 rfl (lv_at hl 0 rfl) ?_
    refine sl_gM_0_51_12 hx hb hts hown hK hP dX12_keep_23 ?_
    refine lv_iload_n hx hb dX12_keep_26 rfl (lv_at hl 1 rfl) ?_
    refine lv_iload_n hx hb dX12_keep_27 rfl (lv_at hl 2 rfl) ?_
    refine sg_iast hx hb hh hA hK hP hS 22 (by decide) 0 (fun _ => rfl) rfl (i := x0) (x := x1) (vp_in_iff.mpr ⟨by omega, by omega⟩) dX12_keep_28 (fun f_1 H locs ef_1 hP hS => ?_)
    have hI : sgI loM hiM f_1 := by rw [ef_1]; exact sgI.put hI 22 x0.toNatClampNeg (show (-1) ≤ (x1 : Int32).toInt ∧ (x1 : Int32).toInt ≤ 54 from ⟨by omega, by omega⟩)
    have hF : sgK WkX12_keep f f_1 := sgK.put hF ef_1 (by rfl)
    refine lv_aload_n hx hb dX12_keep_29 rfl (lv_at hl 0 rfl) ?_
    refine sl_gM_0_52_12 hx hb hts hown hK hP dX12_keep_30 ?_
    refine lv_iload_n hx hb dX12_keep_33 rfl (lv_at hl 1 rfl) ?_
    refine lv_iconst (v := 0) hx hb dX12_keep_34 ic_0 ?_
    refine sg_iast hx hb hh hA hK hP hS 23 (by decide) 0 (fun _ => rfl) rfl (i := x0) (x := 0) (vp_in_iff.mpr ⟨by omega, by omega⟩) dX12_keep_35 (fun f_2 H locs ef_2 hP hS => ?_)
    have hI : sgI loM hiM f_2 := by rw [ef_2]; exact sgI.put hI 23 x0.toNatClampNeg (show 0 ≤ (0 : Int32).toInt ∧ (0 : Int32).toInt ≤ 60 from by decide)
    have hF : sgK WkX12_keep f f_2 := sgK.put hF ef_2 (by rfl)
    refine lv_iconst (v := 1) hx hb dX12_keep_36 ic_1 ?_
    have k99 : (1 : Int32).toInt = 1 := ti_1
    exact hret _ _ _ _ (1) f_2 L Q dX12_keep_37 hP hS ⟨⟨hI, hF, rfl, rfl⟩, (by decide), (Eq.trans (Eq.symm (hs.trans ((spl_e ef_1 (spl_e ef_2 rfl))))) hsp)⟩
  refine lv_iload_n hx hb dX12_keep_0 rfl (lv_at hl 1 rfl) ?_
  refine sg_calli (va_runS (As := [.int x0]) (rest := []) ⟨hx, hb, hml, hown, hts⟩ (kX12_isShelf l D ca za h hh f L Q hI x0 H.size) (va_cwS 1 hts (gw_S (fun _ h => List.mem_cons_of_mem _ h) mw_641 mw_642 mw_619 mw_640) rfl rfl rfl hd_yX12_isShelf.2 ⟨Nat.le_of_ble_eq_true rfl, Nat.le_of_ble_eq_true rfl⟩) (sg_preS hA hK hP hS hZ) rfl rfl hl.1 rfl (lv_room (Nat.le_of_ble_eq_true rfl)) dX12_keep_1 ⟨Nat.le_refl _, Nat.le_refl _⟩) hA hS (fun r_6 f_3 L_4 Q_5 H locs hq hP hS => ?_)
  obtain ⟨⟨ef9, eL9, eQ9⟩, hq, u_7⟩ := hq
  replace hs := hs.trans (spl_e u_7 rfl)
  rw [ef9, eL9, eQ9] at hP; clear ef9 eL9 eQ9
  rcases hq with ⟨rfl, hq⟩ | ⟨rfl, hq⟩
  · skip
    have hc_8 := hq
    refine lv_if_eq (tgt := 20) hx hb dX12_keep_4 (by decide) (fun c => absurd c (by decide)) (fun c => ?_)
    refine lv_iload_n hx hb dX12_keep_7 rfl (lv_at hl 2 rfl) ?_
    refine lv_iconst (v := (-1)) hx hb dX12_keep_8 ic_m1 ?_
    refine lv_icmp_eq (tgt := 22) hx hb dX12_keep_9 (by decide) (fun c => ?_) (fun c => ?_)
    · skip
      have c_9 : x1.toInt = (-1) := (by first | exact (cm_eq1 ti_m1 c) | (have z := Int32.toInt_inj.mpr c; have k1 : ((-1) : Int32).toInt = (-1) := ti_m1; omega))
      exact blk_22 f _ _ _ (hs.trans ((if_pos rfl).trans ((if_pos c_9).trans rfl))) ⟨by omega, by omega⟩ ⟨by omega, by omega⟩ hI hF hP hS (lv_sub hl [0, 1, 2] rfl)
    · skip
      have c_10 : x1.toInt ≠ (-1) := (by first | exact (cm_ne1 ti_m1 c) | (have z := bn_ne c; have k1 : ((-1) : Int32).toInt = (-1) := ti_m1; omega))
      refine lv_aload_n hx hb dX12_keep_12 rfl (lv_at hl 0 rfl) ?_
      refine lv_iload_n hx hb dX12_keep_13 rfl (lv_at hl 2 rfl) ?_
      obtain ⟨v_11, ev_11⟩ : ∃ z : Int32, z = f 0 45 := ⟨_, rfl⟩
      have q_12 : 0 ≤ v_11.toInt ∧ v_11.toInt ≤ 50 := by rw [ev_11]; exact hI 0 45
      have q_13 : (f 0 45).toInt = v_11.toInt := (congrArg Int32.toInt (show f 0 45 = v_11 from ev_11.symm))
      refine sg_calli (va_runV (As := [.int x1]) (rest := []) ⟨hx, hb, hml, hown, hts⟩ (kX12_isBody l D ca za h hh f L Q hI x1 H.size) (sl_c12_isBody_1_0_0_25_12 hts ⟨Nat.le_of_ble_eq_true rfl, Nat.le_of_ble_eq_true rfl⟩) (sl_vM_0 hA hK hP hS hZ) rfl rfl hl.1 rfl (lv_room (Nat.le_of_ble_eq_true rfl)) dX12_keep_14 ⟨Nat.le_refl _, Nat.le_refl _⟩) hA hS (fun r_18 f_15 L_16 Q_17 H locs hq hP hS => ?_)
      obtain ⟨⟨ef9, eL9, eQ9⟩, hq, u_19⟩ := hq
      replace hs := hs.trans ((if_pos rfl).trans ((if_neg c_10).trans (spl_e ev_11 (spl_e u_19 rfl))))
      rw [ef9, eL9, eQ9] at hP; clear ef9 eL9 eQ9
      rcases hq with ⟨rfl, hq⟩ | ⟨rfl, hq⟩
      · skip
        have hc_20 := hq
        refine lv_if_ne (tgt := 22) hx hb dX12_keep_17 (by decide) (fun c => ?_) (fun c => absurd c (by decide))
        exact blk_22 f _ _ _ (hs.trans ((if_pos rfl).trans rfl)) ⟨by omega, by omega⟩ ⟨by omega, by omega⟩ hI hF hP hS (lv_sub hl [0, 1, 2] rfl)
      · skip
        have hc_20 := hq
        refine lv_if_ne (tgt := 22) hx hb dX12_keep_17 (by decide) (fun c => absurd c (by decide)) (fun c => ?_)
        refine lv_iconst (v := (-1)) hx hb dX12_keep_20 ic_m1 ?_
        have k99 : ((-1) : Int32).toInt = (-1) := ti_m1
        exact hret _ _ _ _ (-1) f L Q dX12_keep_21 hP hS ⟨⟨hI, hF, rfl, rfl⟩, (by decide), (Eq.trans (Eq.symm (hs.trans ((if_neg (by decide)).trans rfl))) hsp)⟩
  · skip
    have hc_8 := hq
    refine lv_if_eq (tgt := 20) hx hb dX12_keep_4 (by decide) (fun c => ?_) (fun c => absurd c (by decide))
    refine lv_iconst (v := (-1)) hx hb dX12_keep_20 ic_m1 ?_
    have k99 : ((-1) : Int32).toInt = (-1) := ti_m1
    exact hret _ _ _ _ (-1) f L Q dX12_keep_21 hP hS ⟨⟨hI, hF, rfl, rfl⟩, (by decide), (Eq.trans (Eq.symm (hs.trans ((if_neg (by decide)).trans rfl))) hsp)⟩

abbrev WkX12_row : List (Nat × Nat × Option Nat) := [(22, 22, none), (23, 23, none)]
set_option maxHeartbeats 4000000 in
set_option maxRecDepth 100000 in
theorem kX12_row (l : Launch) (D : va_G) (ca : Nat → ClassId) (za h : Nat → Nat) (hh : sgH 26 h) (f : sg_F) (L : sg_L) (Q : sg_Q) (hI : sgI loM hiM f) (x0 : Int32) (x1 : Int32) (x2 : Int32) (sz : Nat) : Met l yX12_row gwX12_row { frames := 2, cells := 0, slots := 0, locals := 45 } (sgP D vwCl (tyX ca) 26 h (eM ca h) zcM za f L Q sz [.ref (h 0), .int x0, .int x1, .int x2]) (sgQi D vwCl 26 h (eM ca h) sz (fun r f1 L1 Q1 => ((sgI loM hiM f1 ∧ sgK WkX12_row f f1 ∧ True ∧ Q1 = Q) ∧ ((-14) ≤ r.toInt ∧ r.toInt ≤ 1) ∧ (r, f1, L1) = sX12_row x0 x1 x2 f L))) 0 0 (sgA 26 h sz) := by
  refine sg_ofWi (cc := cX12_row) (maxL := 5) RX12 (by decide) rfl rfl (Nat.le_of_ble_eq_true rfl) ?_
  intro p e s m below meth cd Qz ls hx hb hml hown hts hK hZ hP hS hl hret
  have hA := sgY.self (n := 26) (h := h) (sz := s.heap.size)
  have hl : lv_has ls 5 [(0, .ref (h 0)), (1, .int x0), (2, .int x1), (3, .int x2)] := hl
  obtain ⟨H, hH⟩ : ∃ z : Heap, z = s.heap := ⟨_, rfl⟩
  obtain ⟨locs, hlo⟩ : ∃ z : List Loc, z = [] := ⟨_, rfl⟩
  have hP : va_P D vwCl (sgw 26 h (eM ca h) f L Q) H := by rw [hH]; exact hP
  have hS : va_S (sgA 26 h s.heap.size) s.heap H locs := by rw [hH, hlo]; exact hS
  suffices hgo : W p l e ({ frames := 2, cells := 0, slots := 0, locals := 45 }) s m ([.ref (h 0), .int x0, .int x1, .int x2] : List Value).toArray below meth cd H locs 0 0 Qz (F0 m 0 ls []) by rw [hH, hlo] at hgo; exact hgo
  clear hH hlo
  obtain ⟨sp, hsp⟩ : ∃ z : Int32 × sg_F × sg_L, z = sX12_row x0 x1 x2 f L := ⟨_, rfl⟩
  have hs : sp = sX12_row x0 x1 x2 f L := hsp
  have hF : sgK WkX12_row f f := sgK.rf
  have loop_57 : ∀ (n_57 : Nat) (y4_57 : Int32) (fp_57 : sg_F) (Lp_57 : sg_L) (H : Heap) (locs : List Loc) (ls : Array Slot), sp = sX12_row_l57 x0 x1 x2 n_57 y4_57 fp_57 Lp_57 → 360 - y4_57.toInt < (n_57 : Int) → 0 ≤ x0.toInt ∧ x0.toInt ≤ 5 → 0 ≤ x1.toInt ∧ x1.toInt ≤ 4 → 0 ≤ x2.toInt ∧ x2.toInt ≤ 60 → 0 ≤ y4_57.toInt ∧ y4_57.toInt ≤ 360 → sgI loM hiM fp_57 → sgK WkX12_row f fp_57 → va_P D vwCl (sgw 26 h (eM ca h) fp_57 Lp_57 Q) H → va_S (sgA 26 h s.heap.size) s.heap H locs → lv_has ls 5 [(0, .ref (h 0)), (1, .int x0), (4, .int y4_57)] → W p l e ({ frames := 2, cells := 0, slots := 0, locals := 45 }) s m ([.ref (h 0), .int x0, .int x1, .int x2] : List Value).toArray below meth cd H locs 0 0 Qz (F0 m 57 ls []) := by
    intro n_57
    induction n_57 with
    | zero => intro y4_57 fp_57 Lp_57 H locs ls hs hm_57 hy0_57 hy1_57 hy2_57 hy3_57 hI hF hP hS hl; exact absurd hm_57 (by omega)
    | succ n_57 ih_57 =>
      intro y4_57 fp_57 Lp_57 H locs ls hs hm_57 hy0_57 hy1_57 hy2_57 hy3_57 hI hF hP hS hl
      have hs : sp = sX12_row_h57 x0 x1 x2 (sX12_row_l57 x0 x1 x2 n_57) y4_57 fp_57 Lp_57 := hs
      refine lv_iload hx hb dX12_row_57 (lv_at hl 2 rfl) ?_
      refine lv_bipush (v := 60) hx hb dX12_row_59 bp_60 ?_
      refine lv_iload_n hx hb dX12_row_61 rfl (lv_at hl 1 rfl) ?_
      refine lv_imul hx hb dX12_row_62 ?_
      refine lv_topi (fun v_1 ev_1 => ?_)
      have q_2 : v_1.toInt = 60 * x0.toInt := by rw [ev_1]; exact bn_mulJ (by decide) (by omega) (by omega)
      refine lv_bipush (v := 60) hx hb dX12_row_63 bp_60 ?_
      refine lv_iadd hx hb dX12_row_65 ?_
      refine lv_topi (fun v_3 ev_3 => ?_)
      replace hs := hs.trans (spl_e ev_1 (spl_e ev_3 rfl))
      have q_4 : v_3.toInt = v_1.toInt + 60 := by rw [ev_3]; first | exact cm_add ti_60 (by omega) (by omega) | (have k1 : (60 : Int32).toInt = 60 := ti_60; exact (bn_addI (by omega) (by omega)).trans (by omega))
      refine lv_icmp_ge (tgt := 83) hx hb dX12_row_66 (by decide) (fun c => ?_) (fun c => ?_)
      · skip
        have c_5 : v_3.toInt ≤ y4_57.toInt := (by first | exact (bn_le c) | (have z := bn_le c; omega))
        refine lv_iconst (v := 1) hx hb dX12_row_83 ic_1 ?_
        have k99 : (1 : Int32).toInt = 1 := ti_1
        exact hret _ _ _ _ (1) fp_57 Lp_57 Q dX12_row_84 hP hS ⟨⟨hI, hF, trivial, rfl⟩, (by decide), (Eq.trans (Eq.symm (hs.trans ((if_neg (Int.not_lt.mpr c_5)).trans rfl))) hsp)⟩
      · skip
        have c_6 : y4_57.toInt < v_3.toInt := (by first | exact (bn_nle c) | (have z := bn_nle c; omega))
        refine lv_aload_n hx hb dX12_row_69 rfl (lv_at hl 0 rfl) ?_
        refine sl_gM_0_53_12 hx hb hts hown hK hP dX12_row_70 ?_
        refine lv_iload hx hb dX12_row_73 (lv_at hl 2 rfl) ?_
        refine lv_lconst (v := 0) hx hb dX12_row_75 (by decide) ?_
        refine sg_last hx hb hh hA hK hP hS 24 (by decide) 1 (fun _ => rfl) rfl (i := y4_57) (x := 0) (vp_in_iff.mpr ⟨by omega, by omega⟩) dX12_row_76 (fun L_7 H locs eL_7 hP hS => ?_)
        obtain ⟨v_8, ev_8⟩ : ∃ z : Int32, z = y4_57 + 1 := ⟨_, rfl⟩
        have q_9 : v_8.toInt = y4_57.toInt + 1 := by rw [ev_8]; exact (bn_addc y4_57 1 (by decide) (by omega) (by omega))
        refine lv_iinc (v := v_8) (lv' := [(4, .int v_8), (0, .ref (h 0)), (1, .int x0)]) hx hb dX12_row_77 hl (k := 2) rfl (by rw [ev_8]; rfl) (by decide) rfl (fun ls hl => ?_)
        refine lv_goto (tgt := 57) hx hb dX12_row_80 (by decide) ?_
        exact ih_57 v_8 fp_57 L_7 _ _ _ (hs.trans ((if_pos c_6).trans (spl_e eL_7 (spl_e ev_8 rfl)))) (by omega) hy0_57 hy1_57 hy2_57 ⟨by omega, by omega⟩ hI hF hP hS (lv_sub hl [1, 2, 0] rfl)
  refine lv_iload_n hx hb dX12_row_0 rfl (lv_at hl 1 rfl) ?_
  refine sg_calli (va_runS (As := [.int x0]) (rest := []) ⟨hx, hb, hml, hown, hts⟩ (kX12_isShelf l D ca za h hh f L Q hI x0 H.size) (va_cwS 1 hts (gw_S (fun _ h => List.mem_cons_of_mem _ h) mw_641 mw_642 mw_619 mw_640) rfl rfl rfl hd_yX12_isShelf.2 ⟨Nat.le_of_ble_eq_true rfl, Nat.le_of_ble_eq_true rfl⟩) (sg_preS hA hK hP hS hZ) rfl rfl hl.1 rfl (lv_room (Nat.le_of_ble_eq_true rfl)) dX12_row_1 ⟨Nat.le_refl _, Nat.le_refl _⟩) hA hS (fun r_13 f_10 L_11 Q_12 H locs hq hP hS => ?_)
  obtain ⟨⟨ef9, eL9, eQ9⟩, hq, u_14⟩ := hq
  replace hs := hs.trans (spl_e u_14 rfl)
  rw [ef9, eL9, eQ9] at hP; clear ef9 eL9 eQ9
  rcases hq with ⟨rfl, hq⟩ | ⟨rfl, hq⟩
  · skip
    have hc_15 := hq
    refine lv_if_eq (tgt := 25) hx hb dX12_row_4 (by decide) (fun c => absurd c (by decide)) (fun c => ?_)
    refine lv_iload_n hx hb dX12_row_7 rfl (lv_at hl 2 rfl) ?_
    obtain ⟨w_16, ew_16⟩ : ∃ z : Int64, z = Int32.toInt64 x1 := ⟨_, rfl⟩
    have q_17 : w_16.toInt = x1.toInt := by rw [ew_16]; exact Int32.toInt_toInt64 _
    refine lv_i2l (v := w_16) hx hb dX12_row_8 ew_16.symm ?_
    refine lv_lconst (v := 0) hx hb dX12_row_9 (by decide) ?_
    refine lv_ldc2 (v := 4) hx hb hown (hts _ (List.mem_cons_of_mem _ mw_644)) dX12_row_10 ?_
    refine sg_calli (va_runS (As := [.long w_16, .long 0, .long 4]) (rest := []) ⟨hx, hb, hml, hown, hts⟩ (kX12_within l D ca za h hh f L Q hI w_16 0 4 H.size) (va_cwS 3 hts (gw_S (fun _ h => List.mem_cons_of_mem _ h) mw_631 mw_632 mw_619 mw_630) rfl rfl rfl hd_yX12_within.2 ⟨Nat.le_of_ble_eq_true rfl, Nat.le_of_ble_eq_true rfl⟩) (sg_preS hA hK hP hS hZ) rfl rfl hl.1 rfl (lv_room (Nat.le_of_ble_eq_true rfl)) dX12_row_13 ⟨Nat.le_refl _, Nat.le_refl _⟩) hA hS (fun r_21 f_18 L_19 Q_20 H locs hq hP hS => ?_)
    obtain ⟨⟨ef9, eL9, eQ9⟩, hq, u_22⟩ := hq
    replace hs := hs.trans ((if_pos rfl).trans (spl_e ew_16 (spl_e u_22 rfl)))
    rw [ef9, eL9, eQ9] at hP; clear ef9 eL9 eQ9
    have k_23 : (0 : Int64).toInt = 0 := by decide
    have k_24 : (4 : Int64).toInt = 4 := by decide
    rcases hq with ⟨rfl, hq⟩ | ⟨rfl, hq⟩
    · skip
      have hc_25 := hq
      refine lv_if_eq (tgt := 25) hx hb dX12_row_16 (by decide) (fun c => absurd c (by decide)) (fun c => ?_)
      refine lv_iload_n hx hb dX12_row_19 rfl (lv_at hl 3 rfl) ?_
      refine lv_bipush (v := 60) hx hb dX12_row_20 bp_60 ?_
      refine lv_icmp_le (tgt := 27) hx hb dX12_row_22 (by decide) (fun c => ?_) (fun c => ?_)
      · skip
        have c_26 : x2.toInt ≤ 60 := (by first | exact (cm_le1 ti_60 c) | (have z := bn_le c; have k1 : (60 : Int32).toInt = 60 := ti_60; omega))
        replace hs := hs.trans ((if_pos rfl).trans ((if_neg (Int.not_lt.mpr c_26)).trans rfl))
        refine lv_iload_n hx hb dX12_row_27 rfl (lv_at hl 3 rfl) ?_
        refine lv_if_ge (tgt := 34) hx hb dX12_row_28 (by decide) (fun c => ?_) (fun c => ?_)
        · skip
          have c_28 : 0 ≤ x2.toInt := (by first | exact (cm_le0 ti_0 c) | (have z := bn_le c; have k1 : (0 : Int32).toInt = 0 := ti_0; omega))
          refine lv_aload_n hx hb dX12_row_34 rfl (lv_at hl 0 rfl) ?_
          refine sl_gM_0_51_12 hx hb hts hown hK hP dX12_row_35 ?_
          refine lv_iload_n hx hb dX12_row_38 rfl (lv_at hl 1 rfl) ?_
          refine lv_bipush (v := 50) hx hb dX12_row_39 bp_50 ?_
          refine lv_iload_n hx hb dX12_row_41 rfl (lv_at hl 2 rfl) ?_
          refine lv_iadd hx hb dX12_row_42 ?_
          refine lv_topi (fun v_30 ev_30 => ?_)
          have q_31 : v_30.toInt = 50 + x1.toInt := by rw [ev_30]; have k0 : (50 : Int32).toInt = 50 := ti_50; exact (bn_addI (by omega) (by omega)).trans (by omega)
          refine sg_iast hx hb hh hA hK hP hS 22 (by decide) 0 (fun _ => rfl) rfl (i := x0) (x := v_30) (vp_in_iff.mpr ⟨by omega, by omega⟩) dX12_row_43 (fun f_32 H locs ef_32 hP hS => ?_)
          have hI : sgI loM hiM f_32 := by rw [ef_32]; exact sgI.put hI 22 x0.toNatClampNeg (show (-1) ≤ (v_30 : Int32).toInt ∧ (v_30 : Int32).toInt ≤ 54 from ⟨by omega, by omega⟩)
          have hF : sgK WkX12_row f f_32 := sgK.put hF ef_32 (by rfl)
          refine lv_aload_n hx hb dX12_row_44 rfl (lv_at hl 0 rfl) ?_
          refine sl_gM_0_52_12 hx hb hts hown hK hP dX12_row_45 ?_
          refine lv_iload_n hx hb dX12_row_48 rfl (lv_at hl 1 rfl) ?_
          refine lv_iload_n hx hb dX12_row_49 rfl (lv_at hl 3 rfl) ?_
          refine sg_iast hx hb hh hA hK hP hS 23 (by decide) 0 (fun _ => rfl) rfl (i := x0) (x := x2) (vp_in_iff.mpr ⟨by omega, by omega⟩) dX12_row_50 (fun f_33 H locs ef_33 hP hS => ?_)
          have hI : sgI loM hiM f_33 := by rw [ef_33]; exact sgI.put hI 23 x0.toNatClampNeg (show 0 ≤ (x2 : Int32).toInt ∧ (x2 : Int32).toInt ≤ 60 from ⟨by omega, by omega⟩)
          have hF : sgK WkX12_row f f_33 := sgK.put hF ef_33 (by rfl)
          refine lv_bipush (v := 60) hx hb dX12_row_51 bp_60 ?_
          refine lv_iload_n hx hb dX12_row_53 rfl (lv_at hl 1 rfl) ?_
          refine lv_imul hx hb dX12_row_54 ?_
          refine lv_topi (fun v_34 ev_34 => ?_)
          have q_35 : v_34.toInt = 60 * x0.toInt := by rw [ev_34]; exact bn_mulJ (by decide) (by omega) (by omega)
          refine lv_istore (lv' := [(4, .int v_34), (0, .ref (h 0)), (1, .int x0), (2, .int x1), (3, .int x2)]) hx hb dX12_row_55 hl (by decide) rfl (fun ls hl => ?_)
          exact loop_57 361 v_34 f_33 L _ _ _ (hs.trans ((if_neg (Int.not_lt.mpr c_28)).trans (spl_e ev_30 (spl_e ef_32 (spl_e ef_33 (spl_e ev_34 rfl)))))) (by omega) ⟨by omega, by omega⟩ ⟨by omega, by omega⟩ ⟨by omega, by omega⟩ ⟨by omega, by omega⟩ hI hF hP hS (lv_sub hl [1, 2, 0] rfl)
        · skip
          have c_29 : x2.toInt < 0 := (by first | exact (cm_nle0 ti_0 c) | (have z := bn_nle c; have k1 : (0 : Int32).toInt = 0 := ti_0; omega))
          refine lv_bipush (v := (-14)) hx hb dX12_row_31 bp_m14 ?_
          have k99 : ((-14) : Int32).toInt = (-14) := ti_m14
          exact hret _ _ _ _ (-14) f L Q dX12_row_33 hP hS ⟨⟨hI, hF, trivial, rfl⟩, (by decide), (Eq.trans (Eq.symm (hs.trans ((if_pos c_29).trans rfl))) hsp)⟩
      · skip
        have c_27 : 60 < x2.toInt := (by first | exact (cm_nle1 ti_60 c) | (have z := bn_nle c; have k1 : (60 : Int32).toInt = 60 := ti_60; omega))
        refine lv_iconst (v := (-1)) hx hb dX12_row_25 ic_m1 ?_
        have k99 : ((-1) : Int32).toInt = (-1) := ti_m1
        exact hret _ _ _ _ (-1) f L Q dX12_row_26 hP hS ⟨⟨hI, hF, trivial, rfl⟩, (by decide), (Eq.trans (Eq.symm (hs.trans ((if_pos rfl).trans ((if_pos c_27).trans rfl)))) hsp)⟩
    · skip
      have hc_25 := hq
      refine lv_if_eq (tgt := 25) hx hb dX12_row_16 (by decide) (fun c => ?_) (fun c => absurd c (by decide))
      refine lv_iconst (v := (-1)) hx hb dX12_row_25 ic_m1 ?_
      have k99 : ((-1) : Int32).toInt = (-1) := ti_m1
      exact hret _ _ _ _ (-1) f L Q dX12_row_26 hP hS ⟨⟨hI, hF, trivial, rfl⟩, (by decide), (Eq.trans (Eq.symm (hs.trans ((if_neg (by decide)).trans rfl))) hsp)⟩
  · skip
    have hc_15 := hq
    refine lv_if_eq (tgt := 25) hx hb dX12_row_4 (by decide) (fun c => ?_) (fun c => absurd c (by decide))
    refine lv_iconst (v := (-1)) hx hb dX12_row_25 ic_m1 ?_
    have k99 : ((-1) : Int32).toInt = (-1) := ti_m1
    exact hret _ _ _ _ (-1) f L Q dX12_row_26 hP hS ⟨⟨hI, hF, trivial, rfl⟩, (by decide), (Eq.trans (Eq.symm (hs.trans ((if_neg (by decide)).trans rfl))) hsp)⟩

set_option maxHeartbeats 4000000 in
set_option maxRecDepth 100000 in
theorem kX12_refusal (l : Launch) (D : va_G) (ca : Nat → ClassId) (za h : Nat → Nat) (hh : sgH 26 h) (f : sg_F) (L : sg_L) (Q : sg_Q) (hI : sgI loM hiM f) (x0 : Int32) (x1 : Int32) (sz : Nat) : Met l yX12_refusal gwX12_refusal { frames := 2, cells := 0, slots := 0, locals := 45 } (sgP D vwCl (tyX ca) 26 h (eM ca h) zcM za f L Q sz [.ref (h 0), .int x0, .int x1]) (sgQi D vwCl 26 h (eM ca h) sz (fun r f1 L1 Q1 => ((f1 = f ∧ L1 = L ∧ Q1 = Q) ∧ ((r = 0 ∧ (0 ≤ x0.toInt ∧ x0.toInt ≤ 5 ∧ 0 ≤ x1.toInt ∧ x1.toInt ≤ 59)) ∨ (r.toInt = -1 ∨ r.toInt = -11 ∨ r.toInt = -12 ∨ r.toInt = -13)) ∧ (r) = sX12_refusal x0 x1 f L))) 0 0 (sgA 26 h sz) := by
  refine sg_ofWi (cc := cX12_refusal) (maxL := 3) RX12 (by decide) rfl rfl (Nat.le_of_ble_eq_true rfl) ?_
  intro p e s m below meth cd Qz ls hx hb hml hown hts hK hZ hP hS hl hret
  have hA := sgY.self (n := 26) (h := h) (sz := s.heap.size)
  have hl : lv_has ls 3 [(0, .ref (h 0)), (1, .int x0), (2, .int x1)] := hl
  obtain ⟨H, hH⟩ : ∃ z : Heap, z = s.heap := ⟨_, rfl⟩
  obtain ⟨locs, hlo⟩ : ∃ z : List Loc, z = [] := ⟨_, rfl⟩
  have hP : va_P D vwCl (sgw 26 h (eM ca h) f L Q) H := by rw [hH]; exact hP
  have hS : va_S (sgA 26 h s.heap.size) s.heap H locs := by rw [hH, hlo]; exact hS
  suffices hgo : W p l e ({ frames := 2, cells := 0, slots := 0, locals := 45 }) s m ([.ref (h 0), .int x0, .int x1] : List Value).toArray below meth cd H locs 0 0 Qz (F0 m 0 ls []) by rw [hH, hlo] at hgo; exact hgo
  clear hH hlo
  obtain ⟨sp, hsp⟩ : ∃ z : Int32, z = sX12_refusal x0 x1 f L := ⟨_, rfl⟩
  have hs : sp = sX12_refusal x0 x1 f L := hsp
  refine lv_iload_n hx hb dX12_refusal_0 rfl (lv_at hl 1 rfl) ?_
  refine sg_calli (va_runS (As := [.int x0]) (rest := []) ⟨hx, hb, hml, hown, hts⟩ (kX12_isShelf l D ca za h hh f L Q hI x0 H.size) (va_cwS 1 hts (gw_S (fun _ h => List.mem_cons_of_mem _ h) mw_641 mw_642 mw_619 mw_640) rfl rfl rfl hd_yX12_isShelf.2 ⟨Nat.le_of_ble_eq_true rfl, Nat.le_of_ble_eq_true rfl⟩) (sg_preS hA hK hP hS hZ) rfl rfl hl.1 rfl (lv_room (Nat.le_of_ble_eq_true rfl)) dX12_refusal_1 ⟨Nat.le_refl _, Nat.le_refl _⟩) hA hS (fun r_4 f_1 L_2 Q_3 H locs hq hP hS => ?_)
  obtain ⟨⟨ef9, eL9, eQ9⟩, hq, u_5⟩ := hq
  replace hs := hs.trans (spl_e u_5 rfl)
  rw [ef9, eL9, eQ9] at hP; clear ef9 eL9 eQ9
  rcases hq with ⟨rfl, hq⟩ | ⟨rfl, hq⟩
  · skip
    have hc_6 := hq
    refine lv_if_ne (tgt := 9) hx hb dX12_refusal_4 (by decide) (fun c => ?_) (fun c => absurd c (by decide))
    refine lv_aload_n hx hb dX12_refusal_9 rfl (lv_at hl 0 rfl) ?_
    refine sl_gM_0_51_12 hx hb hts hown hK hP dX12_refusal_10 ?_
    refine lv_iload_n hx hb dX12_refusal_13 rfl (lv_at hl 1 rfl) ?_
    refine sg_iald hx hb hK hP 22 (by decide) 0 rfl rfl (i := x0) (vp_in_iff.mpr ⟨by omega, by omega⟩) dX12_refusal_14 ?_
    refine lv_topi (fun v_7 ev_7 => ?_)
    replace hs := hs.trans ((if_pos rfl).trans (spl_e ev_7 rfl))
    have q_8 : (-1) ≤ v_7.toInt ∧ v_7.toInt ≤ 54 := by rw [ev_7]; exact hI 22 _
    refine lv_if_ge (tgt := 21) hx hb dX12_refusal_15 (by decide) (fun c => ?_) (fun c => ?_)
    · skip
      have c_9 : 0 ≤ v_7.toInt := (by first | exact (cm_le0 ti_0 c) | (have z := bn_le c; have k1 : (0 : Int32).toInt = 0 := ti_0; omega))
      replace hs := hs.trans ((if_neg (Int.not_lt.mpr c_9)).trans rfl)
      refine lv_aload_n hx hb dX12_refusal_21 rfl (lv_at hl 0 rfl) ?_
      refine sl_gM_0_51_12 hx hb hts hown hK hP dX12_refusal_22 ?_
      refine lv_iload_n hx hb dX12_refusal_25 rfl (lv_at hl 1 rfl) ?_
      refine sg_iald hx hb hK hP 22 (by decide) 0 rfl rfl (i := x0) (vp_in_iff.mpr ⟨by omega, by omega⟩) dX12_refusal_26 ?_
      rw [← ev_7]
      refine lv_bipush (v := 50) hx hb dX12_refusal_27 bp_50 ?_
      refine lv_icmp_ge (tgt := 35) hx hb dX12_refusal_29 (by decide) (fun c => ?_) (fun c => ?_)
      · skip
        have c_11 : 50 ≤ v_7.toInt := (by first | exact (cm_le0 ti_50 c) | (have z := bn_le c; have k1 : (50 : Int32).toInt = 50 := ti_50; omega))
        replace hs := hs.trans ((if_neg (Int.not_lt.mpr c_11)).trans rfl)
        refine lv_iload_n hx hb dX12_refusal_35 rfl (lv_at hl 2 rfl) ?_
        refine lv_if_lt (tgt := 53) hx hb dX12_refusal_36 (by decide) (fun c => ?_) (fun c => ?_)
        · skip
          have c_13 : x1.toInt < 0 := (by first | exact (cm_lt1 ti_0 c) | (have z := bn_lt c; have k1 : (0 : Int32).toInt = 0 := ti_0; omega))
          refine lv_bipush (v := (-13)) hx hb dX12_refusal_53 bp_m13 ?_
          have k99 : ((-13) : Int32).toInt = (-13) := ti_m13
          exact hret _ _ _ _ (-13) f L Q dX12_refusal_55 hP hS ⟨⟨rfl, rfl, rfl⟩, Or.inr ((by omega)), (Eq.trans (Eq.symm (hs.trans ((if_pos c_13).trans rfl))) hsp)⟩
        · skip
          have c_14 : 0 ≤ x1.toInt := (by first | exact (cm_nlt1 ti_0 c) | (have z := bn_nlt c; have k1 : (0 : Int32).toInt = 0 := ti_0; omega))
          refine lv_iload_n hx hb dX12_refusal_39 rfl (lv_at hl 2 rfl) ?_
          refine lv_aload_n hx hb dX12_refusal_40 rfl (lv_at hl 0 rfl) ?_
          refine sl_gM_0_52_12 hx hb hts hown hK hP dX12_refusal_41 ?_
          refine lv_iload_n hx hb dX12_refusal_44 rfl (lv_at hl 1 rfl) ?_
          refine sg_iald hx hb hK hP 23 (by decide) 0 rfl rfl (i := x0) (vp_in_iff.mpr ⟨by omega, by omega⟩) dX12_refusal_45 ?_
          refine lv_topi (fun v_15 ev_15 => ?_)
          replace hs := hs.trans ((if_neg (Int.not_lt.mpr c_14)).trans (spl_e ev_15 rfl))
          have q_16 : 0 ≤ v_15.toInt ∧ v_15.toInt ≤ 60 := by rw [ev_15]; exact hI 23 _
          refine lv_icmp_ge (tgt := 53) hx hb dX12_refusal_46 (by decide) (fun c => ?_) (fun c => ?_)
          · skip
            have c_17 : v_15.toInt ≤ x1.toInt := (by first | exact (bn_le c) | (have z := bn_le c; omega))
            refine lv_bipush (v := (-13)) hx hb dX12_refusal_53 bp_m13 ?_
            have k99 : ((-13) : Int32).toInt = (-13) := ti_m13
            exact hret _ _ _ _ (-13) f L Q dX12_refusal_55 hP hS ⟨⟨rfl, rfl, rfl⟩, Or.inr ((by omega)), (Eq.trans (Eq.symm (hs.trans ((if_neg (Int.not_lt.mpr c_17)).trans rfl))) hsp)⟩
          · skip
            have c_18 : x1.toInt < v_15.toInt := (by first | exact (bn_nle c) | (have z := bn_nle c; omega))
            refine lv_iconst (v := 0) hx hb dX12_refusal_49 ic_0 ?_
            refine lv_goto (tgt := 55) hx hb dX12_refusal_50 (by decide) ?_
            have k99 : (0 : Int32).toInt = 0 := ti_0
            exact hret _ _ _ _ (0) f L Q dX12_refusal_55 hP hS ⟨⟨rfl, rfl, rfl⟩, (by first | exact Or.inl ⟨rfl, by omega⟩ | exact Or.inr ((by omega))), (Eq.trans (Eq.symm (hs.trans ((if_pos c_18).trans rfl))) hsp)⟩
      · skip
        have c_12 : v_7.toInt < 50 := (by first | exact (cm_nle0 ti_50 c) | (have z := bn_nle c; have k1 : (50 : Int32).toInt = 50 := ti_50; omega))
        refine lv_bipush (v := (-12)) hx hb dX12_refusal_32 bp_m12 ?_
        have k99 : ((-12) : Int32).toInt = (-12) := ti_m12
        exact hret _ _ _ _ (-12) f L Q dX12_refusal_34 hP hS ⟨⟨rfl, rfl, rfl⟩, Or.inr ((by omega)), (Eq.trans (Eq.symm (hs.trans ((if_pos c_12).trans rfl))) hsp)⟩
    · skip
      have c_10 : v_7.toInt < 0 := (by first | exact (cm_nle0 ti_0 c) | (have z := bn_nle c; have k1 : (0 : Int32).toInt = 0 := ti_0; omega))
      refine lv_bipush (v := (-11)) hx hb dX12_refusal_18 bp_m11 ?_
      have k99 : ((-11) : Int32).toInt = (-11) := ti_m11
      exact hret _ _ _ _ (-11) f L Q dX12_refusal_20 hP hS ⟨⟨rfl, rfl, rfl⟩, Or.inr ((by omega)), (Eq.trans (Eq.symm (hs.trans ((if_pos c_10).trans rfl))) hsp)⟩
  · skip
    have hc_6 := hq
    refine lv_if_ne (tgt := 9) hx hb dX12_refusal_4 (by decide) (fun c => absurd c (by decide)) (fun c => ?_)
    refine lv_iconst (v := (-1)) hx hb dX12_refusal_7 ic_m1 ?_
    have k99 : ((-1) : Int32).toInt = (-1) := ti_m1
    exact hret _ _ _ _ (-1) f L Q dX12_refusal_8 hP hS ⟨⟨rfl, rfl, rfl⟩, Or.inr ((by omega)), (Eq.trans (Eq.symm (hs.trans ((if_neg (by decide)).trans rfl))) hsp)⟩

set_option maxHeartbeats 4000000 in
set_option maxRecDepth 100000 in
theorem kX12_asSort (l : Launch) (D : va_G) (ca : Nat → ClassId) (za h : Nat → Nat) (hh : sgH 26 h) (f : sg_F) (L : sg_L) (Q : sg_Q) (hI : sgI loM hiM f) (x0 : Int32) (x1 : Int64) (b0 : (-51) ≤ x0.toInt ∧ x0.toInt ≤ 4) (sz : Nat) : Met l yX12_asSort gwX12_asSort { frames := 0, cells := 0, slots := 0, locals := 0 } (sgP D vwCl (tyX ca) 26 h (eM ca h) zcM za f L Q sz [.int x0, .long x1]) (sgQl D vwCl 26 h (eM ca h) sz (fun r f1 L1 Q1 => ((f1 = f ∧ L1 = L ∧ Q1 = Q) ∧ True ∧ (r) = sX12_asSort x0 x1 f L))) 0 0 (sgA 26 h sz) := by
  refine sg_ofWl (cc := cX12_asSort) (maxL := 3) RX12 (by decide) rfl rfl (Nat.le_of_ble_eq_true rfl) ?_
  intro p e s m below meth cd Qz ls hx hb hml hown hts hK hZ hP hS hl hret
  have hA := sgY.self (n := 26) (h := h) (sz := s.heap.size)
  have hl : lv_has ls 3 [(0, .int x0), (1, .long x1)] := hl
  obtain ⟨H, hH⟩ : ∃ z : Heap, z = s.heap := ⟨_, rfl⟩
  obtain ⟨locs, hlo⟩ : ∃ z : List Loc, z = [] := ⟨_, rfl⟩
  have hP : va_P D vwCl (sgw 26 h (eM ca h) f L Q) H := by rw [hH]; exact hP
  have hS : va_S (sgA 26 h s.heap.size) s.heap H locs := by rw [hH, hlo]; exact hS
  suffices hgo : W p l e ({ frames := 0, cells := 0, slots := 0, locals := 0 }) s m ([.int x0, .long x1] : List Value).toArray below meth cd H locs 0 0 Qz (F0 m 0 ls []) by rw [hH, hlo] at hgo; exact hgo
  clear hH hlo
  obtain ⟨sp, hsp⟩ : ∃ z : Int64, z = sX12_asSort x0 x1 f L := ⟨_, rfl⟩
  have hs : sp = sX12_asSort x0 x1 f L := hsp
  refine lv_iload_n hx hb dX12_asSort_0 rfl (lv_at hl 0 rfl) ?_
  refine lv_if_ne (tgt := 11) hx hb dX12_asSort_1 (by decide) (fun c => ?_) (fun c => ?_)
  · skip
    have c_1 : x0.toInt ≠ 0 := (by first | exact (cm_ne1 ti_0 c) | (have z := bn_ne c; have k1 : (0 : Int32).toInt = 0 := ti_0; omega))
    replace hs := hs.trans ((if_neg c_1).trans rfl)
    refine lv_iload_n hx hb dX12_asSort_11 rfl (lv_at hl 0 rfl) ?_
    refine lv_iconst (v := 1) hx hb dX12_asSort_12 ic_1 ?_
    refine lv_icmp_ne (tgt := 23) hx hb dX12_asSort_13 (by decide) (fun c => ?_) (fun c => ?_)
    · skip
      have c_3 : x0.toInt ≠ 1 := (by first | exact (cm_ne1 ti_1 c) | (have z := bn_ne c; have k1 : (1 : Int32).toInt = 1 := ti_1; omega))
      replace hs := hs.trans ((if_neg c_3).trans rfl)
      refine lv_iload_n hx hb dX12_asSort_23 rfl (lv_at hl 0 rfl) ?_
      refine lv_iconst (v := 2) hx hb dX12_asSort_24 ic_2 ?_
      refine lv_icmp_ne (tgt := 34) hx hb dX12_asSort_25 (by decide) (fun c => ?_) (fun c => ?_)
      · skip
        have c_5 : x0.toInt ≠ 2 := (by first | exact (cm_ne1 ti_2 c) | (have z := bn_ne c; have k1 : (2 : Int32).toInt = 2 := ti_2; omega))
        replace hs := hs.trans ((if_neg c_5).trans rfl)
        refine lv_iload_n hx hb dX12_asSort_34 rfl (lv_at hl 0 rfl) ?_
        refine lv_iconst (v := 4) hx hb dX12_asSort_35 ic_4 ?_
        refine lv_icmp_ne (tgt := 53) hx hb dX12_asSort_36 (by decide) (fun c => ?_) (fun c => ?_)
        · skip
          have c_7 : x0.toInt ≠ 4 := (by first | exact (cm_ne1 ti_4 c) | (have z := bn_ne c; have k1 : (4 : Int32).toInt = 4 := ti_4; omega))
          refine lv_lload_n hx hb dX12_asSort_53 rfl (lv_at hl 1 rfl) ?_
          exact hret _ _ _ _ (x1) f L Q dX12_asSort_54 hP hS ⟨⟨rfl, rfl, rfl⟩, trivial, (Eq.trans (Eq.symm (hs.trans ((if_neg c_7).trans rfl))) hsp)⟩
        · skip
          have c_8 : x0.toInt = 4 := (by first | exact (cm_eq1 ti_4 c) | (have z := Int32.toInt_inj.mpr c; have k1 : (4 : Int32).toInt = 4 := ti_4; omega))
          refine lv_lload_n hx hb dX12_asSort_39 rfl (lv_at hl 1 rfl) ?_
          refine lv_lconst (v := 0) hx hb dX12_asSort_40 (by decide) ?_
          refine W.lcmp hx hb dX12_asSort_41 ?_
          refine lv_topi (fun v_9 ev_9 => ?_)
          replace hs := hs.trans ((if_pos c_8).trans (spl_e ev_9 rfl))
          have q_10 : (v_9.toInt = -1 ∧ x1.toInt < 0) ∨ (v_9.toInt = 0 ∧ x1.toInt = 0) ∨ (v_9.toInt = 1 ∧ 0 < x1.toInt) := by rw [ev_9]; have k1 : (0 : Int64).toInt = 0 := (by decide); have z := bn_lcmpI (x1 : Int64) (0 : Int64); omega
          refine lv_if_eq (tgt := 49) hx hb dX12_asSort_42 (by decide) (fun c => ?_) (fun c => ?_)
          · skip
            have c_11 : v_9.toInt = 0 := (by first | exact (cm_eq1 ti_0 c) | (have z := Int32.toInt_inj.mpr c; have k1 : (0 : Int32).toInt = 0 := ti_0; omega))
            refine lv_lconst (v := 0) hx hb dX12_asSort_49 (by decide) ?_
            refine lv_goto (tgt := 54) hx hb dX12_asSort_50 (by decide) ?_
            exact hret _ _ _ _ (0) f L Q dX12_asSort_54 hP hS ⟨⟨rfl, rfl, rfl⟩, trivial, (Eq.trans (Eq.symm (hs.trans ((if_pos c_11).trans rfl))) hsp)⟩
          · skip
            have c_12 : v_9.toInt ≠ 0 := (by first | exact (cm_ne1 ti_0 c) | (have z := bn_ne c; have k1 : (0 : Int32).toInt = 0 := ti_0; omega))
            refine lv_lconst (v := 1) hx hb dX12_asSort_45 (by decide) ?_
            refine lv_goto (tgt := 54) hx hb dX12_asSort_46 (by decide) ?_
            exact hret _ _ _ _ (1) f L Q dX12_asSort_54 hP hS ⟨⟨rfl, rfl, rfl⟩, trivial, (Eq.trans (Eq.symm (hs.trans ((if_neg c_12).trans rfl))) hsp)⟩
      · skip
        have c_6 : x0.toInt = 2 := (by first | exact (cm_eq1 ti_2 c) | (have z := Int32.toInt_inj.mpr c; have k1 : (2 : Int32).toInt = 2 := ti_2; omega))
        refine lv_lload_n hx hb dX12_asSort_28 rfl (lv_at hl 1 rfl) ?_
        obtain ⟨v_13, ev_13⟩ : ∃ z : Int32, z = Int64.toInt32 x1 := ⟨_, rfl⟩
        refine lv_l2i (v := v_13) hx hb dX12_asSort_29 ev_13.symm ?_
        obtain ⟨w_14, ew_14⟩ : ∃ z : Int64, z = Int32.toInt64 v_13 := ⟨_, rfl⟩
        have q_15 : w_14.toInt = v_13.toInt := by rw [ew_14]; exact Int32.toInt_toInt64 _
        refine lv_i2l (v := w_14) hx hb dX12_asSort_30 ew_14.symm ?_
        refine lv_goto (tgt := 54) hx hb dX12_asSort_31 (by decide) ?_
        exact hret _ _ _ _ (w_14) f L Q dX12_asSort_54 hP hS ⟨⟨rfl, rfl, rfl⟩, trivial, (Eq.trans (Eq.symm (hs.trans ((if_pos c_6).trans (spl_e ev_13 (spl_e ew_14 rfl))))) hsp)⟩
    · skip
      have c_4 : x0.toInt = 1 := (by first | exact (cm_eq1 ti_1 c) | (have z := Int32.toInt_inj.mpr c; have k1 : (1 : Int32).toInt = 1 := ti_1; omega))
      refine lv_lload_n hx hb dX12_asSort_16 rfl (lv_at hl 1 rfl) ?_
      obtain ⟨v_16, ev_16⟩ : ∃ z : Int32, z = Int64.toInt32 x1 := ⟨_, rfl⟩
      refine lv_l2i (v := v_16) hx hb dX12_asSort_17 ev_16.symm ?_
      obtain ⟨v_17, ev_17⟩ : ∃ z : Int32, z = (Int32.toInt16 v_16).toInt32 := ⟨_, rfl⟩
      refine lv_i2s (v := v_17) hx hb dX12_asSort_18 ev_17.symm ?_
      obtain ⟨w_18, ew_18⟩ : ∃ z : Int64, z = Int32.toInt64 v_17 := ⟨_, rfl⟩
      have q_19 : w_18.toInt = v_17.toInt := by rw [ew_18]; exact Int32.toInt_toInt64 _
      refine lv_i2l (v := w_18) hx hb dX12_asSort_19 ew_18.symm ?_
      refine lv_goto (tgt := 54) hx hb dX12_asSort_20 (by decide) ?_
      exact hret _ _ _ _ (w_18) f L Q dX12_asSort_54 hP hS ⟨⟨rfl, rfl, rfl⟩, trivial, (Eq.trans (Eq.symm (hs.trans ((if_pos c_4).trans (spl_e ev_16 (spl_e ev_17 (spl_e ew_18 rfl)))))) hsp)⟩
  · skip
    have c_2 : x0.toInt = 0 := (by first | exact (cm_eq1 ti_0 c) | (have z := Int32.toInt_inj.mpr c; have k1 : (0 : Int32).toInt = 0 := ti_0; omega))
    refine lv_lload_n hx hb dX12_asSort_4 rfl (lv_at hl 1 rfl) ?_
    obtain ⟨v_20, ev_20⟩ : ∃ z : Int32, z = Int64.toInt32 x1 := ⟨_, rfl⟩
    refine lv_l2i (v := v_20) hx hb dX12_asSort_5 ev_20.symm ?_
    obtain ⟨v_21, ev_21⟩ : ∃ z : Int32, z = (Int32.toInt8 v_20).toInt32 := ⟨_, rfl⟩
    refine lv_i2b (v := v_21) hx hb dX12_asSort_6 ev_21.symm ?_
    obtain ⟨w_22, ew_22⟩ : ∃ z : Int64, z = Int32.toInt64 v_21 := ⟨_, rfl⟩
    have q_23 : w_22.toInt = v_21.toInt := by rw [ew_22]; exact Int32.toInt_toInt64 _
    refine lv_i2l (v := w_22) hx hb dX12_asSort_7 ew_22.symm ?_
    refine lv_goto (tgt := 54) hx hb dX12_asSort_8 (by decide) ?_
    exact hret _ _ _ _ (w_22) f L Q dX12_asSort_54 hP hS ⟨⟨rfl, rfl, rfl⟩, trivial, (Eq.trans (Eq.symm (hs.trans (((if_pos c_2).trans (spl_e ev_20 (spl_e ev_21 (spl_e ew_22 rfl))))))) hsp)⟩

set_option maxHeartbeats 4000000 in
set_option maxRecDepth 100000 in
theorem kX12_put (l : Launch) (D : va_G) (ca : Nat → ClassId) (za h : Nat → Nat) (hh : sgH 26 h) (f : sg_F) (L : sg_L) (Q : sg_Q) (hI : sgI loM hiM f) (x0 : Int32) (x1 : Int32) (x2 : Int64) (sz : Nat) : Met l yX12_put gwX12_put { frames := 3, cells := 0, slots := 0, locals := 67 } (sgP D vwCl (tyX ca) 26 h (eM ca h) zcM za f L Q sz [.ref (h 0), .int x0, .int x1, .long x2]) (sgQi D vwCl 26 h (eM ca h) sz (fun r f1 L1 Q1 => ((f1 = f ∧ True ∧ Q1 = Q) ∧ ((-13) ≤ r.toInt ∧ r.toInt ≤ 1) ∧ (r, L1) = sX12_put x0 x1 x2 f L))) 0 0 (sgA 26 h sz) := by
  refine sg_ofWi (cc := cX12_put) (maxL := 6) RX12 (by decide) rfl rfl (Nat.le_of_ble_eq_true rfl) ?_
  intro p e s m below meth cd Qz ls hx hb hml hown hts hK hZ hP hS hl hret
  have hA := sgY.self (n := 26) (h := h) (sz := s.heap.size)
  have hl : lv_has ls 6 [(0, .ref (h 0)), (1, .int x0), (2, .int x1), (3, .long x2)] := hl
  obtain ⟨H, hH⟩ : ∃ z : Heap, z = s.heap := ⟨_, rfl⟩
  obtain ⟨locs, hlo⟩ : ∃ z : List Loc, z = [] := ⟨_, rfl⟩
  have hP : va_P D vwCl (sgw 26 h (eM ca h) f L Q) H := by rw [hH]; exact hP
  have hS : va_S (sgA 26 h s.heap.size) s.heap H locs := by rw [hH, hlo]; exact hS
  suffices hgo : W p l e ({ frames := 3, cells := 0, slots := 0, locals := 67 }) s m ([.ref (h 0), .int x0, .int x1, .long x2] : List Value).toArray below meth cd H locs 0 0 Qz (F0 m 0 ls []) by rw [hH, hlo] at hgo; exact hgo
  clear hH hlo
  obtain ⟨sp, hsp⟩ : ∃ z : Int32 × sg_L, z = sX12_put x0 x1 x2 f L := ⟨_, rfl⟩
  have hs : sp = sX12_put x0 x1 x2 f L := hsp
  have blk_37 : ∀ (y5_37 : Int32) (Lp_37 : sg_L) (H : Heap) (locs : List Loc) (ls : Array Slot), sp = sX12_put_b37 x0 x1 x2 y5_37 f Lp_37 → (-13) ≤ y5_37.toInt ∧ y5_37.toInt ≤ 0 → va_P D vwCl (sgw 26 h (eM ca h) f Lp_37 Q) H → va_S (sgA 26 h s.heap.size) s.heap H locs → lv_has ls 6 [(5, .int y5_37)] → W p l e ({ frames := 3, cells := 0, slots := 0, locals := 67 }) s m ([.ref (h 0), .int x0, .int x1, .long x2] : List Value).toArray below meth cd H locs 0 0 Qz (F0 m 37 ls []) := by
    intro y5_37 Lp_37 H locs ls hs hy0_37 hP hS hl
    refine lv_iload hx hb dX12_put_37 (lv_at hl 0 rfl) ?_
    refine lv_if_ne (tgt := 46) hx hb dX12_put_39 (by decide) (fun c => ?_) (fun c => ?_)
    · skip
      have c_1 : y5_37.toInt ≠ 0 := (by first | exact (cm_ne1 ti_0 c) | (have z := bn_ne c; have k1 : (0 : Int32).toInt = 0 := ti_0; omega))
      refine lv_iload hx hb dX12_put_46 (lv_at hl 0 rfl) ?_
      exact hret _ _ _ _ (y5_37) f Lp_37 Q dX12_put_48 hP hS ⟨⟨rfl, trivial, rfl⟩, ⟨by omega, by omega⟩, (Eq.trans (Eq.symm (hs.trans (((if_neg c_1).trans rfl)))) hsp)⟩
    · skip
      have c_2 : y5_37.toInt = 0 := (by first | exact (cm_eq1 ti_0 c) | (have z := Int32.toInt_inj.mpr c; have k1 : (0 : Int32).toInt = 0 := ti_0; omega))
      refine lv_iconst (v := 1) hx hb dX12_put_42 ic_1 ?_
      refine lv_goto (tgt := 48) hx hb dX12_put_43 (by decide) ?_
      have k99 : (1 : Int32).toInt = 1 := ti_1
      exact hret _ _ _ _ (1) f Lp_37 Q dX12_put_48 hP hS ⟨⟨rfl, trivial, rfl⟩, (by decide), (Eq.trans (Eq.symm (hs.trans (((if_pos c_2).trans rfl)))) hsp)⟩
  refine lv_aload_n hx hb dX12_put_0 rfl (lv_at hl 0 rfl) ?_
  refine lv_iload_n hx hb dX12_put_1 rfl (lv_at hl 1 rfl) ?_
  refine lv_iload_n hx hb dX12_put_2 rfl (lv_at hl 2 rfl) ?_
  refine sg_calli (va_runV (As := [.int x0, .int x1]) (rest := []) ⟨hx, hb, hml, hown, hts⟩ (kX12_refusal l D ca za h hh f L Q hI x0 x1 H.size) (sl_c12_refusal_2_0_0_45_12 hts ⟨Nat.le_of_ble_eq_true rfl, Nat.le_of_ble_eq_true rfl⟩) (sl_vM_0 hA hK hP hS hZ) rfl rfl hl.1 rfl (lv_room (Nat.le_of_ble_eq_true rfl)) dX12_put_3 ⟨Nat.le_refl _, Nat.le_refl _⟩) hA hS (fun r_6 f_3 L_4 Q_5 H locs hq hP hS => ?_)
  obtain ⟨⟨ef9, eL9, eQ9⟩, hq, u_7⟩ := hq
  replace hs := hs.trans (spl_e u_7 rfl)
  rw [ef9, eL9, eQ9] at hP; clear ef9 eL9 eQ9
  rcases hq with ⟨rfl, hq⟩ | hq
  · skip
    have hc_8 := hq
    refine lv_istore (lv' := [(5, .int 0), (0, .ref (h 0)), (1, .int x0), (2, .int x1), (3, .long x2)]) hx hb dX12_put_6 hl (by decide) rfl (fun ls hl => ?_)
    refine lv_iload hx hb dX12_put_8 (lv_at hl 0 rfl) ?_
    refine lv_if_ne (tgt := 37) hx hb dX12_put_10 (by decide) (fun c => absurd c (by decide)) (fun c => ?_)
    refine lv_aload_n hx hb dX12_put_13 rfl (lv_at hl 1 rfl) ?_
    refine sl_gM_0_53_12 hx hb hts hown hK hP dX12_put_14 ?_
    refine lv_bipush (v := 60) hx hb dX12_put_17 bp_60 ?_
    refine lv_iload_n hx hb dX12_put_19 rfl (lv_at hl 2 rfl) ?_
    refine lv_imul hx hb dX12_put_20 ?_
    refine lv_topi (fun v_9 ev_9 => ?_)
    have q_10 : v_9.toInt = 60 * x0.toInt := by rw [ev_9]; exact bn_mulJ (by decide) (by omega) (by omega)
    refine lv_iload_n hx hb dX12_put_21 rfl (lv_at hl 3 rfl) ?_
    refine lv_iadd hx hb dX12_put_22 ?_
    refine lv_topi (fun v_11 ev_11 => ?_)
    have q_12 : v_11.toInt = v_9.toInt + x1.toInt := by rw [ev_11]; first | exact bn_addI (by omega) (by omega) | exact (bn_addI (by omega) (by omega)).trans (by omega)
    refine lv_aload_n hx hb dX12_put_23 rfl (lv_at hl 1 rfl) ?_
    refine sl_gM_0_51_12 hx hb hts hown hK hP dX12_put_24 ?_
    refine lv_iload_n hx hb dX12_put_27 rfl (lv_at hl 2 rfl) ?_
    refine sg_iald hx hb hK hP 22 (by decide) 0 rfl rfl (i := x0) (vp_in_iff.mpr ⟨by omega, by omega⟩) dX12_put_28 ?_
    refine lv_topi (fun v_13 ev_13 => ?_)
    have q_14 : (-1) ≤ v_13.toInt ∧ v_13.toInt ≤ 54 := by rw [ev_13]; exact hI 22 _
    refine lv_bipush (v := 50) hx hb dX12_put_29 bp_50 ?_
    refine lv_isub hx hb dX12_put_31 ?_
    refine lv_topi (fun v_15 ev_15 => ?_)
    have q_16 : v_15.toInt = v_13.toInt - 50 := by rw [ev_15]; first | exact cm_sub ti_50 (by omega) (by omega) | (have k1 : (50 : Int32).toInt = 50 := ti_50; exact (bn_subI (by omega) (by omega)).trans (by omega))
    refine lv_lload_n hx hb dX12_put_32 rfl (lv_at hl 4 rfl) ?_
    refine sg_calll (va_runS (As := [.int v_15, .long x2]) (rest := [.int v_11, .ref (h 24)]) ⟨hx, hb, hml, hown, hts⟩ (kX12_asSort l D ca za h hh f L Q hI v_15 x2 ⟨by omega, by omega⟩ H.size) (va_cwS 2 hts (gw_S (fun _ h => List.mem_cons_of_mem _ h) mw_741 mw_742 mw_619 mw_740) rfl rfl rfl hd_yX12_asSort.2 ⟨Nat.le_of_ble_eq_true rfl, Nat.le_of_ble_eq_true rfl⟩) (sg_preS hA hK hP hS hZ) rfl rfl hl.1 rfl (lv_room (Nat.le_of_ble_eq_true rfl)) dX12_put_33 ⟨Nat.le_refl _, Nat.le_refl _⟩) hA hS (fun r_20 f_17 L_18 Q_19 H locs hq hP hS => ?_)
    obtain ⟨⟨ef9, eL9, eQ9⟩, hq, u_21⟩ := hq
    rw [ef9, eL9, eQ9] at hP; clear ef9 eL9 eQ9
    clear hq
    refine sg_last hx hb hh hA hK hP hS 24 (by decide) 1 (fun _ => rfl) rfl (i := v_11) (x := r_20) (vp_in_iff.mpr ⟨by omega, by omega⟩) dX12_put_36 (fun L_22 H locs eL_22 hP hS => ?_)
    exact blk_37 0 L_22 _ _ _ (hs.trans ((if_pos rfl).trans (spl_e ev_9 (spl_e ev_11 (spl_e ev_13 (spl_e ev_15 (spl_e u_21 (spl_e eL_22 rfl)))))))) (by decide) hP hS (lv_sub hl [0] rfl)
  · skip
    have hc_8 := hq
    refine lv_istore (lv' := [(5, .int r_6), (0, .ref (h 0)), (1, .int x0), (2, .int x1), (3, .long x2)]) hx hb dX12_put_6 hl (by decide) rfl (fun ls hl => ?_)
    refine lv_iload hx hb dX12_put_8 (lv_at hl 0 rfl) ?_
    refine lv_if_ne (tgt := 37) hx hb dX12_put_10 (by decide) (fun c => ?_) (fun c => ?_)
    · skip
      have c_23 : r_6.toInt ≠ 0 := (by first | exact (cm_ne1 ti_0 c) | (have z := bn_ne c; have k1 : (0 : Int32).toInt = 0 := ti_0; omega))
      exact blk_37 r_6 L _ _ _ (hs.trans ((if_neg (fun z9 => by have k9 : (0 : Int32).toInt = 0 := ti_0; have h9 := hc_8; rw [z9] at h9; omega)).trans rfl)) ⟨by omega, by omega⟩ hP hS (lv_sub hl [0] rfl)
    · skip
      exfalso; have c_24 : r_6.toInt = 0 := (by first | exact (cm_eq1 ti_0 c) | (have z := Int32.toInt_inj.mpr c; have k1 : (0 : Int32).toInt = 0 := ti_0; omega)); first | exact absurd c_24 (by assumption) | omega

set_option maxHeartbeats 4000000 in
set_option maxRecDepth 100000 in
theorem kX12_element (l : Launch) (D : va_G) (ca : Nat → ClassId) (za h : Nat → Nat) (hh : sgH 26 h) (f : sg_F) (L : sg_L) (Q : sg_Q) (hI : sgI loM hiM f) (x0 : Int32) (x1 : Int32) (sz : Nat) : Met l yX12_element gwX12_element { frames := 3, cells := 0, slots := 0, locals := 67 } (sgP D vwCl (tyX ca) 26 h (eM ca h) zcM za f L Q sz [.ref (h 0), .int x0, .int x1]) (sgQl D vwCl 26 h (eM ca h) sz (fun r f1 L1 Q1 => ((f1 = f ∧ L1 = L ∧ Q1 = Q) ∧ True ∧ (r) = sX12_element x0 x1 f L))) 0 0 (sgA 26 h sz) := by
  refine sg_ofWl (cc := cX12_element) (maxL := 3) RX12 (by decide) rfl rfl (Nat.le_of_ble_eq_true rfl) ?_
  intro p e s m below meth cd Qz ls hx hb hml hown hts hK hZ hP hS hl hret
  have hA := sgY.self (n := 26) (h := h) (sz := s.heap.size)
  have hl : lv_has ls 3 [(0, .ref (h 0)), (1, .int x0), (2, .int x1)] := hl
  obtain ⟨H, hH⟩ : ∃ z : Heap, z = s.heap := ⟨_, rfl⟩
  obtain ⟨locs, hlo⟩ : ∃ z : List Loc, z = [] := ⟨_, rfl⟩
  have hP : va_P D vwCl (sgw 26 h (eM ca h) f L Q) H := by rw [hH]; exact hP
  have hS : va_S (sgA 26 h s.heap.size) s.heap H locs := by rw [hH, hlo]; exact hS
  suffices hgo : W p l e ({ frames := 3, cells := 0, slots := 0, locals := 67 }) s m ([.ref (h 0), .int x0, .int x1] : List Value).toArray below meth cd H locs 0 0 Qz (F0 m 0 ls []) by rw [hH, hlo] at hgo; exact hgo
  clear hH hlo
  obtain ⟨sp, hsp⟩ : ∃ z : Int64, z = sX12_element x0 x1 f L := ⟨_, rfl⟩
  have hs : sp = sX12_element x0 x1 f L := hsp
  refine lv_aload_n hx hb dX12_element_0 rfl (lv_at hl 0 rfl) ?_
  refine lv_iload_n hx hb dX12_element_1 rfl (lv_at hl 1 rfl) ?_
  refine lv_iload_n hx hb dX12_element_2 rfl (lv_at hl 2 rfl) ?_
  refine sg_calli (va_runV (As := [.int x0, .int x1]) (rest := []) ⟨hx, hb, hml, hown, hts⟩ (kX12_refusal l D ca za h hh f L Q hI x0 x1 H.size) (sl_c12_refusal_2_0_0_45_12 hts ⟨Nat.le_of_ble_eq_true rfl, Nat.le_of_ble_eq_true rfl⟩) (sl_vM_0 hA hK hP hS hZ) rfl rfl hl.1 rfl (lv_room (Nat.le_of_ble_eq_true rfl)) dX12_element_3 ⟨Nat.le_refl _, Nat.le_refl _⟩) hA hS (fun r_4 f_1 L_2 Q_3 H locs hq hP hS => ?_)
  obtain ⟨⟨ef9, eL9, eQ9⟩, hq, u_5⟩ := hq
  replace hs := hs.trans (spl_e u_5 rfl)
  rw [ef9, eL9, eQ9] at hP; clear ef9 eL9 eQ9
  rcases hq with ⟨rfl, hq⟩ | hq
  · skip
    have hc_6 := hq
    refine lv_if_eq (tgt := 15) hx hb dX12_element_6 (by decide) (fun c => ?_) (fun c => absurd c (by decide))
    refine lv_aload_n hx hb dX12_element_15 rfl (lv_at hl 0 rfl) ?_
    refine sl_gM_0_53_12 hx hb hts hown hK hP dX12_element_16 ?_
    refine lv_bipush (v := 60) hx hb dX12_element_19 bp_60 ?_
    refine lv_iload_n hx hb dX12_element_21 rfl (lv_at hl 1 rfl) ?_
    refine lv_imul hx hb dX12_element_22 ?_
    refine lv_topi (fun v_7 ev_7 => ?_)
    have q_8 : v_7.toInt = 60 * x0.toInt := by rw [ev_7]; exact bn_mulJ (by decide) (by omega) (by omega)
    refine lv_iload_n hx hb dX12_element_23 rfl (lv_at hl 2 rfl) ?_
    refine lv_iadd hx hb dX12_element_24 ?_
    refine lv_topi (fun v_9 ev_9 => ?_)
    have q_10 : v_9.toInt = v_7.toInt + x1.toInt := by rw [ev_9]; first | exact bn_addI (by omega) (by omega) | exact (bn_addI (by omega) (by omega)).trans (by omega)
    refine sg_lald hx hb hK hP 24 (by decide) 1 rfl rfl (i := v_9) (vp_in_iff.mpr ⟨by omega, by omega⟩) dX12_element_25 ?_
    obtain ⟨w_11, ew_11⟩ : ∃ z : Int64, z = L 24 (Int32.toNatClampNeg v_9) := ⟨_, rfl⟩
    rw [← ew_11]
    exact hret _ _ _ _ (w_11) f L Q dX12_element_26 hP hS ⟨⟨rfl, rfl, rfl⟩, trivial, (Eq.trans (Eq.symm (hs.trans ((if_pos rfl).trans (spl_e ev_7 (spl_e ev_9 (spl_e ew_11 rfl)))))) hsp)⟩
  · skip
    have hc_6 := hq
    refine lv_if_eq (tgt := 15) hx hb dX12_element_6 (by decide) (fun c => ?_) (fun c => ?_)
    · skip
      exfalso; have c_12 : r_4.toInt = 0 := (by first | exact (cm_eq1 ti_0 c) | (have z := Int32.toInt_inj.mpr c; have k1 : (0 : Int32).toInt = 0 := ti_0; omega)); first | exact absurd c_12 (by assumption) | omega
    · skip
      have c_13 : r_4.toInt ≠ 0 := (by first | exact (cm_ne1 ti_0 c) | (have z := bn_ne c; have k1 : (0 : Int32).toInt = 0 := ti_0; omega))
      refine lv_ldc2 (v := (-9223372036854775808)) hx hb hown (hts _ (List.mem_cons_of_mem _ mw_674)) dX12_element_9 ?_
      refine lv_goto (tgt := 26) hx hb dX12_element_12 (by decide) ?_
      exact hret _ _ _ _ (-9223372036854775808) f L Q dX12_element_26 hP hS ⟨⟨rfl, rfl, rfl⟩, trivial, (Eq.trans (Eq.symm (hs.trans ((if_neg (fun z9 => by have k9 : (0 : Int32).toInt = 0 := ti_0; have h9 := hc_6; rw [z9] at h9; omega)).trans rfl))) hsp)⟩

set_option maxHeartbeats 4000000 in
set_option maxRecDepth 100000 in
theorem kX12_shift (l : Launch) (D : va_G) (ca : Nat → ClassId) (za h : Nat → Nat) (hh : sgH 26 h) (f : sg_F) (L : sg_L) (Q : sg_Q) (hI : sgI loM hiM f) (x0 : Int32) (x1 : Int32) (x2 : Int32) (x3 : Int32) (x4 : Int32) (sz : Nat) : Met l yX12_shift gwX12_shift { frames := 2, cells := 0, slots := 0, locals := 45 } (sgP D vwCl (tyX ca) 26 h (eM ca h) zcM za f L Q sz [.ref (h 0), .int x0, .int x1, .int x2, .int x3, .int x4]) (sgQi D vwCl 26 h (eM ca h) sz (fun r f1 L1 Q1 => ((f1 = f ∧ True ∧ Q1 = Q) ∧ ((-13) ≤ r.toInt ∧ r.toInt ≤ 60) ∧ (r, L1) = sX12_shift x0 x1 x2 x3 x4 f L))) 0 0 (sgA 26 h sz) := by
  refine sg_ofWi (cc := cX12_shift) (maxL := 7) RX12 (by decide) rfl rfl (Nat.le_of_ble_eq_true rfl) ?_
  intro p e s m below meth cd Qz ls hx hb hml hown hts hK hZ hP hS hl hret
  have hA := sgY.self (n := 26) (h := h) (sz := s.heap.size)
  have hl : lv_has ls 7 [(0, .ref (h 0)), (1, .int x0), (2, .int x1), (3, .int x2), (4, .int x3), (5, .int x4)] := hl
  obtain ⟨H, hH⟩ : ∃ z : Heap, z = s.heap := ⟨_, rfl⟩
  obtain ⟨locs, hlo⟩ : ∃ z : List Loc, z = [] := ⟨_, rfl⟩
  have hP : va_P D vwCl (sgw 26 h (eM ca h) f L Q) H := by rw [hH]; exact hP
  have hS : va_S (sgA 26 h s.heap.size) s.heap H locs := by rw [hH, hlo]; exact hS
  suffices hgo : W p l e ({ frames := 2, cells := 0, slots := 0, locals := 45 }) s m ([.ref (h 0), .int x0, .int x1, .int x2, .int x3, .int x4] : List Value).toArray below meth cd H locs 0 0 Qz (F0 m 0 ls []) by rw [hH, hlo] at hgo; exact hgo
  clear hH hlo
  obtain ⟨sp, hsp⟩ : ∃ z : Int32 × sg_L, z = sX12_shift x0 x1 x2 x3 x4 f L := ⟨_, rfl⟩
  have hs : sp = sX12_shift x0 x1 x2 x3 x4 f L := hsp
  have loop_150 : ∀ (n_150 : Nat) (y6_150 : Int32) (Lp_150 : sg_L) (H : Heap) (locs : List Loc) (ls : Array Slot), sp = sX12_shift_l150 x0 x1 x2 x3 x4 n_150 y6_150 f Lp_150 → 60 - y6_150.toInt < (n_150 : Int) → 0 ≤ x0.toInt ∧ x0.toInt ≤ 5 → 0 ≤ x1.toInt ∧ x1.toInt ≤ 60 → 0 ≤ x2.toInt ∧ x2.toInt ≤ 5 → 0 ≤ x3.toInt ∧ x3.toInt ≤ 60 → 0 ≤ x4.toInt ∧ x4.toInt ≤ 60 → 0 ≤ y6_150.toInt ∧ y6_150.toInt ≤ 60 → x1.toInt + x4.toInt ≤ 60 → x3.toInt + x4.toInt ≤ 60 → va_P D vwCl (sgw 26 h (eM ca h) f Lp_150 Q) H → va_S (sgA 26 h s.heap.size) s.heap H locs → lv_has ls 7 [(0, .ref (h 0)), (3, .int x2), (4, .int x3), (5, .int x4), (6, .int y6_150)] → W p l e ({ frames := 2, cells := 0, slots := 0, locals := 45 }) s m ([.ref (h 0), .int x0, .int x1, .int x2, .int x3, .int x4] : List Value).toArray below meth cd H locs 0 0 Qz (F0 m 150 ls []) := by
    intro n_150
    induction n_150 with
    | zero => intro y6_150 Lp_150 H locs ls hs hm_150 hy0_150 hy1_150 hy2_150 hy3_150 hy4_150 hy5_150 hg0_150 hg1_150 hP hS hl; exact absurd hm_150 (by omega)
    | succ n_150 ih_150 =>
      intro y6_150 Lp_150 H locs ls hs hm_150 hy0_150 hy1_150 hy2_150 hy3_150 hy4_150 hy5_150 hg0_150 hg1_150 hP hS hl
      have hs : sp = sX12_shift_h150 x0 x1 x2 x3 x4 (sX12_shift_l150 x0 x1 x2 x3 x4 n_150) y6_150 f Lp_150 := hs
      refine lv_iload hx hb dX12_shift_150 (lv_at hl 4 rfl) ?_
      refine lv_iload hx hb dX12_shift_152 (lv_at hl 3 rfl) ?_
      refine lv_icmp_ge (tgt := 185) hx hb dX12_shift_154 (by decide) (fun c => ?_) (fun c => ?_)
      · skip
        have c_1 : x4.toInt ≤ y6_150.toInt := (by first | exact (bn_le c) | (have z := bn_le c; omega))
        refine lv_iload hx hb dX12_shift_185 (lv_at hl 3 rfl) ?_
        exact hret _ _ _ _ (x4) f Lp_150 Q dX12_shift_187 hP hS ⟨⟨rfl, trivial, rfl⟩, ⟨by omega, by omega⟩, (Eq.trans (Eq.symm (hs.trans (((if_neg (Int.not_lt.mpr c_1)).trans rfl)))) hsp)⟩
      · skip
        have c_2 : y6_150.toInt < x4.toInt := (by first | exact (bn_nle c) | (have z := bn_nle c; omega))
        refine lv_aload_n hx hb dX12_shift_157 rfl (lv_at hl 0 rfl) ?_
        refine sl_gM_0_53_12 hx hb hts hown hK hP dX12_shift_158 ?_
        refine lv_bipush (v := 60) hx hb dX12_shift_161 bp_60 ?_
        refine lv_iload_n hx hb dX12_shift_163 rfl (lv_at hl 1 rfl) ?_
        refine lv_imul hx hb dX12_shift_164 ?_
        refine lv_topi (fun v_3 ev_3 => ?_)
        have q_4 : v_3.toInt = 60 * x2.toInt := by rw [ev_3]; exact bn_mulJ (by decide) (by omega) (by omega)
        refine lv_iload hx hb dX12_shift_165 (lv_at hl 2 rfl) ?_
        refine lv_iadd hx hb dX12_shift_167 ?_
        refine lv_topi (fun v_5 ev_5 => ?_)
        have q_6 : v_5.toInt = v_3.toInt + x3.toInt := by rw [ev_5]; first | exact bn_addI (by omega) (by omega) | exact (bn_addI (by omega) (by omega)).trans (by omega)
        refine lv_iload hx hb dX12_shift_168 (lv_at hl 4 rfl) ?_
        refine lv_iadd hx hb dX12_shift_170 ?_
        refine lv_topi (fun v_7 ev_7 => ?_)
        have q_8 : v_7.toInt = v_5.toInt + y6_150.toInt := by rw [ev_7]; first | exact bn_addI (by omega) (by omega) | exact (bn_addI (by omega) (by omega)).trans (by omega)
        refine lv_aload_n hx hb dX12_shift_171 rfl (lv_at hl 0 rfl) ?_
        refine sl_gM_0_54_12 hx hb hts hown hK hP dX12_shift_172 ?_
        refine lv_iload hx hb dX12_shift_175 (lv_at hl 4 rfl) ?_
        refine sg_lald hx hb hK hP 25 (by decide) 1 rfl rfl (i := y6_150) (vp_in_iff.mpr ⟨by omega, by omega⟩) dX12_shift_177 ?_
        obtain ⟨w_9, ew_9⟩ : ∃ z : Int64, z = Lp_150 25 (Int32.toNatClampNeg y6_150) := ⟨_, rfl⟩
        rw [← ew_9]
        refine sg_last hx hb hh hA hK hP hS 24 (by decide) 1 (fun _ => rfl) rfl (i := v_7) (x := w_9) (vp_in_iff.mpr ⟨by omega, by omega⟩) dX12_shift_178 (fun L_10 H locs eL_10 hP hS => ?_)
        obtain ⟨v_11, ev_11⟩ : ∃ z : Int32, z = y6_150 + 1 := ⟨_, rfl⟩
        have q_12 : v_11.toInt = y6_150.toInt + 1 := by rw [ev_11]; exact (bn_addc y6_150 1 (by decide) (by omega) (by omega))
        refine lv_iinc (v := v_11) (lv' := [(6, .int v_11), (0, .ref (h 0)), (3, .int x2), (4, .int x3), (5, .int x4)]) hx hb dX12_shift_179 hl (k := 4) rfl (by rw [ev_11]; rfl) (by decide) rfl (fun ls hl => ?_)
        refine lv_goto (tgt := 150) hx hb dX12_shift_182 (by decide) ?_
        exact ih_150 v_11 L_10 _ _ _ (hs.trans (((if_pos c_2).trans (spl_e ev_3 (spl_e ev_5 (spl_e ev_7 (spl_e ew_9 (spl_e eL_10 (spl_e ev_11 rfl))))))))) (by omega) hy0_150 hy1_150 hy2_150 hy3_150 hy4_150 ⟨by omega, by omega⟩ (by omega) (by omega) hP hS (lv_sub hl [1, 2, 3, 4, 0] rfl)
  have loop_113 : ∀ (n_113 : Nat) (y6_113 : Int32) (Lp_113 : sg_L) (H : Heap) (locs : List Loc) (ls : Array Slot), sp = sX12_shift_l113 x0 x1 x2 x3 x4 n_113 y6_113 f Lp_113 → 60 - y6_113.toInt < (n_113 : Int) → 0 ≤ x0.toInt ∧ x0.toInt ≤ 5 → 0 ≤ x1.toInt ∧ x1.toInt ≤ 60 → 0 ≤ x2.toInt ∧ x2.toInt ≤ 5 → 0 ≤ x3.toInt ∧ x3.toInt ≤ 60 → 0 ≤ x4.toInt ∧ x4.toInt ≤ 60 → 0 ≤ y6_113.toInt ∧ y6_113.toInt ≤ 60 → x1.toInt + x4.toInt ≤ 60 → x3.toInt + x4.toInt ≤ 60 → va_P D vwCl (sgw 26 h (eM ca h) f Lp_113 Q) H → va_S (sgA 26 h s.heap.size) s.heap H locs → lv_has ls 7 [(0, .ref (h 0)), (1, .int x0), (2, .int x1), (3, .int x2), (4, .int x3), (5, .int x4), (6, .int y6_113)] → W p l e ({ frames := 2, cells := 0, slots := 0, locals := 45 }) s m ([.ref (h 0), .int x0, .int x1, .int x2, .int x3, .int x4] : List Value).toArray below meth cd H locs 0 0 Qz (F0 m 113 ls []) := by
    intro n_113
    induction n_113 with
    | zero => intro y6_113 Lp_113 H locs ls hs hm_113 hy0_113 hy1_113 hy2_113 hy3_113 hy4_113 hy5_113 hg0_113 hg1_113 hP hS hl; exact absurd hm_113 (by omega)
    | succ n_113 ih_113 =>
      intro y6_113 Lp_113 H locs ls hs hm_113 hy0_113 hy1_113 hy2_113 hy3_113 hy4_113 hy5_113 hg0_113 hg1_113 hP hS hl
      have hs : sp = sX12_shift_h113 x0 x1 x2 x3 x4 (sX12_shift_l113 x0 x1 x2 x3 x4 n_113) y6_113 f Lp_113 := hs
      refine lv_iload hx hb dX12_shift_113 (lv_at hl 6 rfl) ?_
      refine lv_iload hx hb dX12_shift_115 (lv_at hl 5 rfl) ?_
      refine lv_icmp_ge (tgt := 147) hx hb dX12_shift_117 (by decide) (fun c => ?_) (fun c => ?_)
      · skip
        have c_13 : x4.toInt ≤ y6_113.toInt := (by first | exact (bn_le c) | (have z := bn_le c; omega))
        refine lv_iconst (v := 0) hx hb dX12_shift_147 ic_0 ?_
        refine lv_istore (lv' := [(6, .int 0), (0, .ref (h 0)), (1, .int x0), (2, .int x1), (3, .int x2), (4, .int x3), (5, .int x4)]) hx hb dX12_shift_148 hl (by decide) rfl (fun ls hl => ?_)
        exact loop_150 61 0 Lp_113 _ _ _ (hs.trans (((if_neg (Int.not_lt.mpr c_13)).trans rfl))) (by have kc0 : (0 : Int32).toInt = 0 := ti_0; omega) hy0_113 hy1_113 hy2_113 hy3_113 hy4_113 (by decide) (by have kc0 : (0 : Int32).toInt = 0 := ti_0; omega) (by have kc0 : (0 : Int32).toInt = 0 := ti_0; omega) hP hS (lv_sub hl [1, 4, 5, 6, 0] rfl)
      · skip
        have c_14 : y6_113.toInt < x4.toInt := (by first | exact (bn_nle c) | (have z := bn_nle c; omega))
        refine lv_aload_n hx hb dX12_shift_120 rfl (lv_at hl 0 rfl) ?_
        refine sl_gM_0_54_12 hx hb hts hown hK hP dX12_shift_121 ?_
        refine lv_iload hx hb dX12_shift_124 (lv_at hl 6 rfl) ?_
        refine lv_aload_n hx hb dX12_shift_126 rfl (lv_at hl 0 rfl) ?_
        refine sl_gM_0_53_12 hx hb hts hown hK hP dX12_shift_127 ?_
        refine lv_bipush (v := 60) hx hb dX12_shift_130 bp_60 ?_
        refine lv_iload_n hx hb dX12_shift_132 rfl (lv_at hl 1 rfl) ?_
        refine lv_imul hx hb dX12_shift_133 ?_
        refine lv_topi (fun v_15 ev_15 => ?_)
        have q_16 : v_15.toInt = 60 * x0.toInt := by rw [ev_15]; exact bn_mulJ (by decide) (by omega) (by omega)
        refine lv_iload_n hx hb dX12_shift_134 rfl (lv_at hl 2 rfl) ?_
        refine lv_iadd hx hb dX12_shift_135 ?_
        refine lv_topi (fun v_17 ev_17 => ?_)
        have q_18 : v_17.toInt = v_15.toInt + x1.toInt := by rw [ev_17]; first | exact bn_addI (by omega) (by omega) | exact (bn_addI (by omega) (by omega)).trans (by omega)
        refine lv_iload hx hb dX12_shift_136 (lv_at hl 6 rfl) ?_
        refine lv_iadd hx hb dX12_shift_138 ?_
        refine lv_topi (fun v_19 ev_19 => ?_)
        have q_20 : v_19.toInt = v_17.toInt + y6_113.toInt := by rw [ev_19]; first | exact bn_addI (by omega) (by omega) | exact (bn_addI (by omega) (by omega)).trans (by omega)
        refine sg_lald hx hb hK hP 24 (by decide) 1 rfl rfl (i := v_19) (vp_in_iff.mpr ⟨by omega, by omega⟩) dX12_shift_139 ?_
        obtain ⟨w_21, ew_21⟩ : ∃ z : Int64, z = Lp_113 24 (Int32.toNatClampNeg v_19) := ⟨_, rfl⟩
        rw [← ew_21]
        refine sg_last hx hb hh hA hK hP hS 25 (by decide) 1 (fun _ => rfl) rfl (i := y6_113) (x := w_21) (vp_in_iff.mpr ⟨by omega, by omega⟩) dX12_shift_140 (fun L_22 H locs eL_22 hP hS => ?_)
        obtain ⟨v_23, ev_23⟩ : ∃ z : Int32, z = y6_113 + 1 := ⟨_, rfl⟩
        have q_24 : v_23.toInt = y6_113.toInt + 1 := by rw [ev_23]; exact (bn_addc y6_113 1 (by decide) (by omega) (by omega))
        refine lv_iinc (v := v_23) (lv' := [(6, .int v_23), (0, .ref (h 0)), (1, .int x0), (2, .int x1), (3, .int x2), (4, .int x3), (5, .int x4)]) hx hb dX12_shift_141 hl (k := 6) rfl (by rw [ev_23]; rfl) (by decide) rfl (fun ls hl => ?_)
        refine lv_goto (tgt := 113) hx hb dX12_shift_144 (by decide) ?_
        exact ih_113 v_23 L_22 _ _ _ (hs.trans (((if_pos c_14).trans (spl_e ev_15 (spl_e ev_17 (spl_e ev_19 (spl_e ew_21 (spl_e eL_22 (spl_e ev_23 rfl))))))))) (by omega) hy0_113 hy1_113 hy2_113 hy3_113 hy4_113 ⟨by omega, by omega⟩ (by omega) (by omega) hP hS (lv_sub hl [1, 2, 3, 4, 5, 6, 0] rfl)
  refine lv_iload_n hx hb dX12_shift_0 rfl (lv_at hl 1 rfl) ?_
  refine sg_calli (va_runS (As := [.int x0]) (rest := []) ⟨hx, hb, hml, hown, hts⟩ (kX12_isShelf l D ca za h hh f L Q hI x0 H.size) (va_cwS 1 hts (gw_S (fun _ h => List.mem_cons_of_mem _ h) mw_641 mw_642 mw_619 mw_640) rfl rfl rfl hd_yX12_isShelf.2 ⟨Nat.le_of_ble_eq_true rfl, Nat.le_of_ble_eq_true rfl⟩) (sg_preS hA hK hP hS hZ) rfl rfl hl.1 rfl (lv_room (Nat.le_of_ble_eq_true rfl)) dX12_shift_1 ⟨Nat.le_refl _, Nat.le_refl _⟩) hA hS (fun r_28 f_25 L_26 Q_27 H locs hq hP hS => ?_)
  obtain ⟨⟨ef9, eL9, eQ9⟩, hq, u_29⟩ := hq
  replace hs := hs.trans (spl_e u_29 rfl)
  rw [ef9, eL9, eQ9] at hP; clear ef9 eL9 eQ9
  rcases hq with ⟨rfl, hq⟩ | ⟨rfl, hq⟩
  · skip
    have hc_30 := hq
    refine lv_if_eq (tgt := 14) hx hb dX12_shift_4 (by decide) (fun c => absurd c (by decide)) (fun c => ?_)
    refine lv_iload_n hx hb dX12_shift_7 rfl (lv_at hl 3 rfl) ?_
    refine sg_calli (va_runS (As := [.int x2]) (rest := []) ⟨hx, hb, hml, hown, hts⟩ (kX12_isShelf l D ca za h hh f L Q hI x2 H.size) (va_cwS 1 hts (gw_S (fun _ h => List.mem_cons_of_mem _ h) mw_641 mw_642 mw_619 mw_640) rfl rfl rfl hd_yX12_isShelf.2 ⟨Nat.le_of_ble_eq_true rfl, Nat.le_of_ble_eq_true rfl⟩) (sg_preS hA hK hP hS hZ) rfl rfl hl.1 rfl (lv_room (Nat.le_of_ble_eq_true rfl)) dX12_shift_8 ⟨Nat.le_refl _, Nat.le_refl _⟩) hA hS (fun r_34 f_31 L_32 Q_33 H locs hq hP hS => ?_)
    obtain ⟨⟨ef9, eL9, eQ9⟩, hq, u_35⟩ := hq
    replace hs := hs.trans ((if_pos rfl).trans (spl_e u_35 rfl))
    rw [ef9, eL9, eQ9] at hP; clear ef9 eL9 eQ9
    rcases hq with ⟨rfl, hq⟩ | ⟨rfl, hq⟩
    · skip
      have hc_36 := hq
      refine lv_if_ne (tgt := 16) hx hb dX12_shift_11 (by decide) (fun c => ?_) (fun c => absurd c (by decide))
      refine lv_aload_n hx hb dX12_shift_16 rfl (lv_at hl 0 rfl) ?_
      refine sl_gM_0_51_12 hx hb hts hown hK hP dX12_shift_17 ?_
      refine lv_iload_n hx hb dX12_shift_20 rfl (lv_at hl 1 rfl) ?_
      refine sg_iald hx hb hK hP 22 (by decide) 0 rfl rfl (i := x0) (vp_in_iff.mpr ⟨by omega, by omega⟩) dX12_shift_21 ?_
      refine lv_topi (fun v_37 ev_37 => ?_)
      replace hs := hs.trans ((if_pos rfl).trans (spl_e ev_37 rfl))
      have q_38 : (-1) ≤ v_37.toInt ∧ v_37.toInt ≤ 54 := by rw [ev_37]; exact hI 22 _
      refine lv_if_lt (tgt := 34) hx hb dX12_shift_22 (by decide) (fun c => ?_) (fun c => ?_)
      · skip
        have c_39 : v_37.toInt < 0 := (by first | exact (cm_lt1 ti_0 c) | (have z := bn_lt c; have k1 : (0 : Int32).toInt = 0 := ti_0; omega))
        refine lv_bipush (v := (-11)) hx hb dX12_shift_34 bp_m11 ?_
        have k99 : ((-11) : Int32).toInt = (-11) := ti_m11
        exact hret _ _ _ _ (-11) f L Q dX12_shift_36 hP hS ⟨⟨rfl, trivial, rfl⟩, (by decide), (Eq.trans (Eq.symm (hs.trans ((if_pos c_39).trans rfl))) hsp)⟩
      · skip
        have c_40 : 0 ≤ v_37.toInt := (by first | exact (cm_nlt1 ti_0 c) | (have z := bn_nlt c; have k1 : (0 : Int32).toInt = 0 := ti_0; omega))
        refine lv_aload_n hx hb dX12_shift_25 rfl (lv_at hl 0 rfl) ?_
        refine sl_gM_0_51_12 hx hb hts hown hK hP dX12_shift_26 ?_
        refine lv_iload_n hx hb dX12_shift_29 rfl (lv_at hl 3 rfl) ?_
        refine sg_iald hx hb hK hP 22 (by decide) 0 rfl rfl (i := x2) (vp_in_iff.mpr ⟨by omega, by omega⟩) dX12_shift_30 ?_
        refine lv_topi (fun v_41 ev_41 => ?_)
        replace hs := hs.trans ((if_neg (Int.not_lt.mpr c_40)).trans (spl_e ev_41 rfl))
        have q_42 : (-1) ≤ v_41.toInt ∧ v_41.toInt ≤ 54 := by rw [ev_41]; exact hI 22 _
        refine lv_if_ge (tgt := 37) hx hb dX12_shift_31 (by decide) (fun c => ?_) (fun c => ?_)
        · skip
          have c_43 : 0 ≤ v_41.toInt := (by first | exact (cm_le0 ti_0 c) | (have z := bn_le c; have k1 : (0 : Int32).toInt = 0 := ti_0; omega))
          replace hs := hs.trans ((if_neg (Int.not_lt.mpr c_43)).trans rfl)
          refine lv_aload_n hx hb dX12_shift_37 rfl (lv_at hl 0 rfl) ?_
          refine sl_gM_0_51_12 hx hb hts hown hK hP dX12_shift_38 ?_
          refine lv_iload_n hx hb dX12_shift_41 rfl (lv_at hl 1 rfl) ?_
          refine sg_iald hx hb hK hP 22 (by decide) 0 rfl rfl (i := x0) (vp_in_iff.mpr ⟨by omega, by omega⟩) dX12_shift_42 ?_
          rw [← ev_37]
          refine lv_bipush (v := 50) hx hb dX12_shift_43 bp_50 ?_
          refine lv_icmp_lt (tgt := 63) hx hb dX12_shift_45 (by decide) (fun c => ?_) (fun c => ?_)
          · skip
            have c_45 : v_37.toInt < 50 := (by first | exact (cm_lt1 ti_50 c) | (have z := bn_lt c; have k1 : (50 : Int32).toInt = 50 := ti_50; omega))
            refine lv_bipush (v := (-12)) hx hb dX12_shift_63 bp_m12 ?_
            have k99 : ((-12) : Int32).toInt = (-12) := ti_m12
            exact hret _ _ _ _ (-12) f L Q dX12_shift_65 hP hS ⟨⟨rfl, trivial, rfl⟩, (by decide), (Eq.trans (Eq.symm (hs.trans ((if_pos c_45).trans rfl))) hsp)⟩
          · skip
            have c_46 : 50 ≤ v_37.toInt := (by first | exact (cm_nlt1 ti_50 c) | (have z := bn_nlt c; have k1 : (50 : Int32).toInt = 50 := ti_50; omega))
            replace hs := hs.trans ((if_neg (Int.not_lt.mpr c_46)).trans rfl)
            refine lv_aload_n hx hb dX12_shift_48 rfl (lv_at hl 0 rfl) ?_
            refine sl_gM_0_51_12 hx hb hts hown hK hP dX12_shift_49 ?_
            refine lv_iload_n hx hb dX12_shift_52 rfl (lv_at hl 1 rfl) ?_
            refine sg_iald hx hb hK hP 22 (by decide) 0 rfl rfl (i := x0) (vp_in_iff.mpr ⟨by omega, by omega⟩) dX12_shift_53 ?_
            rw [← ev_37]
            refine lv_aload_n hx hb dX12_shift_54 rfl (lv_at hl 0 rfl) ?_
            refine sl_gM_0_51_12 hx hb hts hown hK hP dX12_shift_55 ?_
            refine lv_iload_n hx hb dX12_shift_58 rfl (lv_at hl 3 rfl) ?_
            refine sg_iald hx hb hK hP 22 (by decide) 0 rfl rfl (i := x2) (vp_in_iff.mpr ⟨by omega, by omega⟩) dX12_shift_59 ?_
            rw [← ev_41]
            refine lv_icmp_eq (tgt := 66) hx hb dX12_shift_60 (by decide) (fun c => ?_) (fun c => ?_)
            · skip
              have c_47 : v_37.toInt = v_41.toInt := (by first | exact (Int32.toInt_inj.mpr c) | (have z := Int32.toInt_inj.mpr c; omega))
              replace hs := hs.trans ((if_pos c_47).trans rfl)
              refine lv_iload hx hb dX12_shift_66 (lv_at hl 5 rfl) ?_
              refine lv_if_lt (tgt := 107) hx hb dX12_shift_68 (by decide) (fun c => ?_) (fun c => ?_)
              · skip
                have c_49 : x4.toInt < 0 := (by first | exact (cm_lt1 ti_0 c) | (have z := bn_lt c; have k1 : (0 : Int32).toInt = 0 := ti_0; omega))
                refine lv_bipush (v := (-13)) hx hb dX12_shift_107 bp_m13 ?_
                have k99 : ((-13) : Int32).toInt = (-13) := ti_m13
                exact hret _ _ _ _ (-13) f L Q dX12_shift_109 hP hS ⟨⟨rfl, trivial, rfl⟩, (by decide), (Eq.trans (Eq.symm (hs.trans ((if_pos c_49).trans rfl))) hsp)⟩
              · skip
                have c_50 : 0 ≤ x4.toInt := (by first | exact (cm_nlt1 ti_0 c) | (have z := bn_nlt c; have k1 : (0 : Int32).toInt = 0 := ti_0; omega))
                replace hs := hs.trans ((if_neg (Int.not_lt.mpr c_50)).trans rfl)
                refine lv_iload_n hx hb dX12_shift_71 rfl (lv_at hl 2 rfl) ?_
                refine lv_if_lt (tgt := 107) hx hb dX12_shift_72 (by decide) (fun c => ?_) (fun c => ?_)
                · skip
                  have c_51 : x1.toInt < 0 := (by first | exact (cm_lt1 ti_0 c) | (have z := bn_lt c; have k1 : (0 : Int32).toInt = 0 := ti_0; omega))
                  refine lv_bipush (v := (-13)) hx hb dX12_shift_107 bp_m13 ?_
                  have k99 : ((-13) : Int32).toInt = (-13) := ti_m13
                  exact hret _ _ _ _ (-13) f L Q dX12_shift_109 hP hS ⟨⟨rfl, trivial, rfl⟩, (by decide), (Eq.trans (Eq.symm (hs.trans ((if_pos c_51).trans rfl))) hsp)⟩
                · skip
                  have c_52 : 0 ≤ x1.toInt := (by first | exact (cm_nlt1 ti_0 c) | (have z := bn_nlt c; have k1 : (0 : Int32).toInt = 0 := ti_0; omega))
                  replace hs := hs.trans ((if_neg (Int.not_lt.mpr c_52)).trans rfl)
                  refine lv_iload hx hb dX12_shift_75 (lv_at hl 4 rfl) ?_
                  refine lv_if_lt (tgt := 107) hx hb dX12_shift_77 (by decide) (fun c => ?_) (fun c => ?_)
                  · skip
                    have c_53 : x3.toInt < 0 := (by first | exact (cm_lt1 ti_0 c) | (have z := bn_lt c; have k1 : (0 : Int32).toInt = 0 := ti_0; omega))
                    refine lv_bipush (v := (-13)) hx hb dX12_shift_107 bp_m13 ?_
                    have k99 : ((-13) : Int32).toInt = (-13) := ti_m13
                    exact hret _ _ _ _ (-13) f L Q dX12_shift_109 hP hS ⟨⟨rfl, trivial, rfl⟩, (by decide), (Eq.trans (Eq.symm (hs.trans ((if_pos c_53).trans rfl))) hsp)⟩
                  · skip
                    have c_54 : 0 ≤ x3.toInt := (by first | exact (cm_nlt1 ti_0 c) | (have z := bn_nlt c; have k1 : (0 : Int32).toInt = 0 := ti_0; omega))
                    refine lv_iload_n hx hb dX12_shift_80 rfl (lv_at hl 2 rfl) ?_
                    refine lv_aload_n hx hb dX12_shift_81 rfl (lv_at hl 0 rfl) ?_
                    refine sl_gM_0_52_12 hx hb hts hown hK hP dX12_shift_82 ?_
                    refine lv_iload_n hx hb dX12_shift_85 rfl (lv_at hl 1 rfl) ?_
                    refine sg_iald hx hb hK hP 23 (by decide) 0 rfl rfl (i := x0) (vp_in_iff.mpr ⟨by omega, by omega⟩) dX12_shift_86 ?_
                    refine lv_topi (fun v_55 ev_55 => ?_)
                    have q_56 : 0 ≤ v_55.toInt ∧ v_55.toInt ≤ 60 := by rw [ev_55]; exact hI 23 _
                    refine lv_iload hx hb dX12_shift_87 (lv_at hl 5 rfl) ?_
                    refine lv_isub hx hb dX12_shift_89 ?_
                    refine lv_topi (fun v_57 ev_57 => ?_)
                    replace hs := hs.trans ((if_neg (Int.not_lt.mpr c_54)).trans (spl_e ev_55 (spl_e ev_57 rfl)))
                    have q_58 : v_57.toInt = v_55.toInt - x4.toInt := by rw [ev_57]; have z1 := bn_top (x4 : Int32); first | exact bn_subI (by omega) (by omega) | exact (bn_subI (by omega) (by omega)).trans (by omega)
                    refine lv_icmp_gt (tgt := 107) hx hb dX12_shift_90 (by decide) (fun c => ?_) (fun c => ?_)
                    · skip
                      have c_59 : v_57.toInt < x1.toInt := (by first | exact (bn_lt c) | (have z := bn_lt c; omega))
                      refine lv_bipush (v := (-13)) hx hb dX12_shift_107 bp_m13 ?_
                      have k99 : ((-13) : Int32).toInt = (-13) := ti_m13
                      exact hret _ _ _ _ (-13) f L Q dX12_shift_109 hP hS ⟨⟨rfl, trivial, rfl⟩, (by decide), (Eq.trans (Eq.symm (hs.trans ((if_pos c_59).trans rfl))) hsp)⟩
                    · skip
                      have c_60 : x1.toInt ≤ v_57.toInt := (by first | exact (bn_nlt c) | (have z := bn_nlt c; omega))
                      refine lv_iload hx hb dX12_shift_93 (lv_at hl 4 rfl) ?_
                      refine lv_aload_n hx hb dX12_shift_95 rfl (lv_at hl 0 rfl) ?_
                      refine sl_gM_0_52_12 hx hb hts hown hK hP dX12_shift_96 ?_
                      refine lv_iload_n hx hb dX12_shift_99 rfl (lv_at hl 3 rfl) ?_
                      refine sg_iald hx hb hK hP 23 (by decide) 0 rfl rfl (i := x2) (vp_in_iff.mpr ⟨by omega, by omega⟩) dX12_shift_100 ?_
                      refine lv_topi (fun v_61 ev_61 => ?_)
                      have q_62 : 0 ≤ v_61.toInt ∧ v_61.toInt ≤ 60 := by rw [ev_61]; exact hI 23 _
                      refine lv_iload hx hb dX12_shift_101 (lv_at hl 5 rfl) ?_
                      refine lv_isub hx hb dX12_shift_103 ?_
                      refine lv_topi (fun v_63 ev_63 => ?_)
                      replace hs := hs.trans ((if_neg (Int.not_lt.mpr c_60)).trans (spl_e ev_61 (spl_e ev_63 rfl)))
                      have q_64 : v_63.toInt = v_61.toInt - x4.toInt := by rw [ev_63]; first | exact bn_subI (by omega) (by omega) | exact (bn_subI (by omega) (by omega)).trans (by omega)
                      refine lv_icmp_le (tgt := 110) hx hb dX12_shift_104 (by decide) (fun c => ?_) (fun c => ?_)
                      · skip
                        have c_65 : x3.toInt ≤ v_63.toInt := (by first | exact (bn_le c) | (have z := bn_le c; omega))
                        refine lv_iconst (v := 0) hx hb dX12_shift_110 ic_0 ?_
                        refine lv_istore (lv' := [(6, .int 0), (0, .ref (h 0)), (1, .int x0), (2, .int x1), (3, .int x2), (4, .int x3), (5, .int x4)]) hx hb dX12_shift_111 hl (by decide) rfl (fun ls hl => ?_)
                        exact loop_113 61 0 L _ _ _ (hs.trans ((if_neg (Int.not_lt.mpr c_65)).trans rfl)) (by have kc0 : (0 : Int32).toInt = 0 := ti_0; omega) ⟨by omega, by omega⟩ ⟨by omega, by omega⟩ ⟨by omega, by omega⟩ ⟨by omega, by omega⟩ ⟨by omega, by omega⟩ (by decide) (by have kc0 : (0 : Int32).toInt = 0 := ti_0; omega) (by have kc0 : (0 : Int32).toInt = 0 := ti_0; omega) hP hS (lv_sub hl [1, 2, 3, 4, 5, 6, 0] rfl)
                      · skip
                        have c_66 : v_63.toInt < x3.toInt := (by first | exact (bn_nle c) | (have z := bn_nle c; omega))
                        refine lv_bipush (v := (-13)) hx hb dX12_shift_107 bp_m13 ?_
                        have k99 : ((-13) : Int32).toInt = (-13) := ti_m13
                        exact hret _ _ _ _ (-13) f L Q dX12_shift_109 hP hS ⟨⟨rfl, trivial, rfl⟩, (by decide), (Eq.trans (Eq.symm (hs.trans ((if_pos c_66).trans rfl))) hsp)⟩
            · skip
              have c_48 : v_37.toInt ≠ v_41.toInt := (by first | exact (bn_ne c) | (have z := bn_ne c; omega))
              refine lv_bipush (v := (-12)) hx hb dX12_shift_63 bp_m12 ?_
              have k99 : ((-12) : Int32).toInt = (-12) := ti_m12
              exact hret _ _ _ _ (-12) f L Q dX12_shift_65 hP hS ⟨⟨rfl, trivial, rfl⟩, (by decide), (Eq.trans (Eq.symm (hs.trans ((if_neg c_48).trans rfl))) hsp)⟩
        · skip
          have c_44 : v_41.toInt < 0 := (by first | exact (cm_nle0 ti_0 c) | (have z := bn_nle c; have k1 : (0 : Int32).toInt = 0 := ti_0; omega))
          refine lv_bipush (v := (-11)) hx hb dX12_shift_34 bp_m11 ?_
          have k99 : ((-11) : Int32).toInt = (-11) := ti_m11
          exact hret _ _ _ _ (-11) f L Q dX12_shift_36 hP hS ⟨⟨rfl, trivial, rfl⟩, (by decide), (Eq.trans (Eq.symm (hs.trans ((if_pos c_44).trans rfl))) hsp)⟩
    · skip
      have hc_36 := hq
      refine lv_if_ne (tgt := 16) hx hb dX12_shift_11 (by decide) (fun c => absurd c (by decide)) (fun c => ?_)
      refine lv_iconst (v := (-1)) hx hb dX12_shift_14 ic_m1 ?_
      have k99 : ((-1) : Int32).toInt = (-1) := ti_m1
      exact hret _ _ _ _ (-1) f L Q dX12_shift_15 hP hS ⟨⟨rfl, trivial, rfl⟩, (by decide), (Eq.trans (Eq.symm (hs.trans ((if_neg (by decide)).trans rfl))) hsp)⟩
  · skip
    have hc_30 := hq
    refine lv_if_eq (tgt := 14) hx hb dX12_shift_4 (by decide) (fun c => ?_) (fun c => absurd c (by decide))
    refine lv_iconst (v := (-1)) hx hb dX12_shift_14 ic_m1 ?_
    have k99 : ((-1) : Int32).toInt = (-1) := ti_m1
    exact hret _ _ _ _ (-1) f L Q dX12_shift_15 hP hS ⟨⟨rfl, trivial, rfl⟩, (by decide), (Eq.trans (Eq.symm (hs.trans ((if_neg (by decide)).trans rfl))) hsp)⟩

set_option maxHeartbeats 4000000 in
set_option maxRecDepth 100000 in
theorem kX12_kindOf (l : Launch) (D : va_G) (ca : Nat → ClassId) (za h : Nat → Nat) (hh : sgH 26 h) (f : sg_F) (L : sg_L) (Q : sg_Q) (hI : sgI loM hiM f) (x0 : Int32) (b0 : 0 ≤ x0.toInt ∧ x0.toInt ≤ 49) (sz : Nat) : Met l yX12_kindOf gwX12_kindOf { frames := 0, cells := 0, slots := 0, locals := 0 } (sgP D vwCl (tyX ca) 26 h (eM ca h) zcM za f L Q sz [.ref (h 0), .int x0]) (sgQi D vwCl 26 h (eM ca h) sz (fun r f1 L1 Q1 => ((f1 = f ∧ L1 = L ∧ Q1 = Q) ∧ (0 ≤ r.toInt ∧ r.toInt ≤ 7) ∧ (r) = sX12_kindOf x0 f L))) 0 0 (sgA 26 h sz) := by
  refine sg_ofWi (cc := cX12_kindOf) (maxL := 2) RX12 (by decide) rfl rfl (Nat.le_of_ble_eq_true rfl) ?_
  intro p e s m below meth cd Qz ls hx hb hml hown hts hK hZ hP hS hl hret
  have hA := sgY.self (n := 26) (h := h) (sz := s.heap.size)
  have hl : lv_has ls 2 [(0, .ref (h 0)), (1, .int x0)] := hl
  obtain ⟨H, hH⟩ : ∃ z : Heap, z = s.heap := ⟨_, rfl⟩
  obtain ⟨locs, hlo⟩ : ∃ z : List Loc, z = [] := ⟨_, rfl⟩
  have hP : va_P D vwCl (sgw 26 h (eM ca h) f L Q) H := by rw [hH]; exact hP
  have hS : va_S (sgA 26 h s.heap.size) s.heap H locs := by rw [hH, hlo]; exact hS
  suffices hgo : W p l e ({ frames := 0, cells := 0, slots := 0, locals := 0 }) s m ([.ref (h 0), .int x0] : List Value).toArray below meth cd H locs 0 0 Qz (F0 m 0 ls []) by rw [hH, hlo] at hgo; exact hgo
  clear hH hlo
  obtain ⟨sp, hsp⟩ : ∃ z : Int32, z = sX12_kindOf x0 f L := ⟨_, rfl⟩
  have hs : sp = sX12_kindOf x0 f L := hsp
  refine lv_aload_n hx hb dX12_kindOf_0 rfl (lv_at hl 0 rfl) ?_
  refine sl_gM_0_46_12 hx hb hts hown hK hP dX12_kindOf_1 ?_
  refine lv_iload_n hx hb dX12_kindOf_4 rfl (lv_at hl 1 rfl) ?_
  refine sg_iald hx hb hK hP 20 (by decide) 0 rfl rfl (i := x0) (vp_in_iff.mpr ⟨by omega, by omega⟩) dX12_kindOf_5 ?_
  refine lv_topi (fun v_1 ev_1 => ?_)
  have q_2 : 0 ≤ v_1.toInt ∧ v_1.toInt ≤ 7 := by rw [ev_1]; exact hI 20 _
  exact hret _ _ _ _ (v_1) f L Q dX12_kindOf_6 hP hS ⟨⟨rfl, rfl, rfl⟩, ⟨by omega, by omega⟩, (Eq.trans (Eq.symm (hs.trans ((spl_e ev_1 rfl)))) hsp)⟩

set_option maxHeartbeats 4000000 in
set_option maxRecDepth 100000 in
theorem kX12_above (l : Launch) (D : va_G) (ca : Nat → ClassId) (za h : Nat → Nat) (hh : sgH 26 h) (f : sg_F) (L : sg_L) (Q : sg_Q) (hI : sgI loM hiM f) (x0 : Int32) (b0 : 1 ≤ x0.toInt ∧ x0.toInt ≤ 7) (sz : Nat) : Met l yX12_above gwX12_above { frames := 0, cells := 0, slots := 0, locals := 0 } (sgP D vwCl (tyX ca) 26 h (eM ca h) zcM za f L Q sz [.int x0]) (sgQi D vwCl 26 h (eM ca h) sz (fun r f1 L1 Q1 => ((f1 = f ∧ L1 = L ∧ Q1 = Q) ∧ (0 ≤ r.toInt ∧ r.toInt ≤ 4) ∧ (x0.toInt ≤ 0 ∨ r.toInt < x0.toInt) ∧ (r) = sX12_above x0 f L))) 0 0 (sgA 26 h sz) := by
  refine sg_ofWi (cc := cX12_above) (maxL := 1) RX12 (by decide) rfl rfl (Nat.le_of_ble_eq_true rfl) ?_
  intro p e s m below meth cd Qz ls hx hb hml hown hts hK hZ hP hS hl hret
  have hA := sgY.self (n := 26) (h := h) (sz := s.heap.size)
  have hl : lv_has ls 1 [(0, .int x0)] := hl
  obtain ⟨H, hH⟩ : ∃ z : Heap, z = s.heap := ⟨_, rfl⟩
  obtain ⟨locs, hlo⟩ : ∃ z : List Loc, z = [] := ⟨_, rfl⟩
  have hP : va_P D vwCl (sgw 26 h (eM ca h) f L Q) H := by rw [hH]; exact hP
  have hS : va_S (sgA 26 h s.heap.size) s.heap H locs := by rw [hH, hlo]; exact hS
  suffices hgo : W p l e ({ frames := 0, cells := 0, slots := 0, locals := 0 }) s m ([.int x0] : List Value).toArray below meth cd H locs 0 0 Qz (F0 m 0 ls []) by rw [hH, hlo] at hgo; exact hgo
  clear hH hlo
  obtain ⟨sp, hsp⟩ : ∃ z : Int32, z = sX12_above x0 f L := ⟨_, rfl⟩
  have hs : sp = sX12_above x0 f L := hsp
  refine lv_iload_n hx hb dX12_above_0 rfl (lv_at hl 0 rfl) ?_
  refine lv_iconst (v := 3) hx hb dX12_above_1 ic_3 ?_
  refine lv_icmp_ne (tgt := 9) hx hb dX12_above_2 (by decide) (fun c => ?_) (fun c => ?_)
  · skip
    have c_1 : x0.toInt ≠ 3 := (by first | exact (cm_ne1 ti_3 c) | (have z := bn_ne c; have k1 : (3 : Int32).toInt = 3 := ti_3; omega))
    replace hs := hs.trans ((if_neg c_1).trans rfl)
    refine lv_iload_n hx hb dX12_above_9 rfl (lv_at hl 0 rfl) ?_
    refine lv_iconst (v := 4) hx hb dX12_above_10 ic_4 ?_
    refine lv_icmp_ne (tgt := 18) hx hb dX12_above_11 (by decide) (fun c => ?_) (fun c => ?_)
    · skip
      have c_3 : x0.toInt ≠ 4 := (by first | exact (cm_ne1 ti_4 c) | (have z := bn_ne c; have k1 : (4 : Int32).toInt = 4 := ti_4; omega))
      replace hs := hs.trans ((if_neg c_3).trans rfl)
      refine lv_iload_n hx hb dX12_above_18 rfl (lv_at hl 0 rfl) ?_
      refine lv_iconst (v := 5) hx hb dX12_above_19 ic_5 ?_
      refine lv_icmp_ne (tgt := 27) hx hb dX12_above_20 (by decide) (fun c => ?_) (fun c => ?_)
      · skip
        have c_5 : x0.toInt ≠ 5 := (by first | exact (cm_ne1 ti_5 c) | (have z := bn_ne c; have k1 : (5 : Int32).toInt = 5 := ti_5; omega))
        replace hs := hs.trans ((if_neg c_5).trans rfl)
        refine lv_iload_n hx hb dX12_above_27 rfl (lv_at hl 0 rfl) ?_
        refine lv_bipush (v := 7) hx hb dX12_above_28 bp_7 ?_
        refine lv_icmp_ne (tgt := 37) hx hb dX12_above_30 (by decide) (fun c => ?_) (fun c => ?_)
        · skip
          have c_7 : x0.toInt ≠ 7 := (by first | exact (cm_ne1 ti_7 c) | (have z := bn_ne c; have k1 : (7 : Int32).toInt = 7 := ti_7; omega))
          refine lv_iconst (v := 0) hx hb dX12_above_37 ic_0 ?_
          have k99 : (0 : Int32).toInt = 0 := ti_0
          exact hret _ _ _ _ (0) f L Q dX12_above_38 hP hS ⟨⟨rfl, rfl, rfl⟩, (by decide), (by omega), (Eq.trans (Eq.symm (hs.trans ((if_neg c_7).trans rfl))) hsp)⟩
        · skip
          have c_8 : x0.toInt = 7 := (by first | exact (cm_eq1 ti_7 c) | (have z := Int32.toInt_inj.mpr c; have k1 : (7 : Int32).toInt = 7 := ti_7; omega))
          refine lv_iconst (v := 4) hx hb dX12_above_33 ic_4 ?_
          refine lv_goto (tgt := 38) hx hb dX12_above_34 (by decide) ?_
          have k99 : (4 : Int32).toInt = 4 := ti_4
          exact hret _ _ _ _ (4) f L Q dX12_above_38 hP hS ⟨⟨rfl, rfl, rfl⟩, (by decide), (by omega), (Eq.trans (Eq.symm (hs.trans ((if_pos c_8).trans rfl))) hsp)⟩
      · skip
        have c_6 : x0.toInt = 5 := (by first | exact (cm_eq1 ti_5 c) | (have z := Int32.toInt_inj.mpr c; have k1 : (5 : Int32).toInt = 5 := ti_5; omega))
        refine lv_iconst (v := 3) hx hb dX12_above_23 ic_3 ?_
        refine lv_goto (tgt := 38) hx hb dX12_above_24 (by decide) ?_
        have k99 : (3 : Int32).toInt = 3 := ti_3
        exact hret _ _ _ _ (3) f L Q dX12_above_38 hP hS ⟨⟨rfl, rfl, rfl⟩, (by decide), (by omega), (Eq.trans (Eq.symm (hs.trans ((if_pos c_6).trans rfl))) hsp)⟩
    · skip
      have c_4 : x0.toInt = 4 := (by first | exact (cm_eq1 ti_4 c) | (have z := Int32.toInt_inj.mpr c; have k1 : (4 : Int32).toInt = 4 := ti_4; omega))
      refine lv_iconst (v := 1) hx hb dX12_above_14 ic_1 ?_
      refine lv_goto (tgt := 38) hx hb dX12_above_15 (by decide) ?_
      have k99 : (1 : Int32).toInt = 1 := ti_1
      exact hret _ _ _ _ (1) f L Q dX12_above_38 hP hS ⟨⟨rfl, rfl, rfl⟩, (by decide), (by omega), (Eq.trans (Eq.symm (hs.trans ((if_pos c_4).trans rfl))) hsp)⟩
  · skip
    have c_2 : x0.toInt = 3 := (by first | exact (cm_eq1 ti_3 c) | (have z := Int32.toInt_inj.mpr c; have k1 : (3 : Int32).toInt = 3 := ti_3; omega))
    refine lv_iconst (v := 2) hx hb dX12_above_5 ic_2 ?_
    refine lv_goto (tgt := 38) hx hb dX12_above_6 (by decide) ?_
    have k99 : (2 : Int32).toInt = 2 := ti_2
    exact hret _ _ _ _ (2) f L Q dX12_above_38 hP hS ⟨⟨rfl, rfl, rfl⟩, (by decide), (by omega), (Eq.trans (Eq.symm (hs.trans (((if_pos c_2).trans rfl)))) hsp)⟩

set_option maxHeartbeats 4000000 in
set_option maxRecDepth 100000 in
theorem kX12_taken (l : Launch) (D : va_G) (ca : Nat → ClassId) (za h : Nat → Nat) (hh : sgH 26 h) (f : sg_F) (L : sg_L) (Q : sg_Q) (hI : sgI loM hiM f) (x0 : Int32) (x1 : Int32) (sz : Nat) : Met l yX12_taken gwX12_taken { frames := 2, cells := 0, slots := 0, locals := 45 } (sgP D vwCl (tyX ca) 26 h (eM ca h) zcM za f L Q sz [.ref (h 0), .int x0, .int x1]) (sgQi D vwCl 26 h (eM ca h) sz (fun r f1 L1 Q1 => ((f1 = f ∧ L1 = L ∧ Q1 = Q) ∧ ((-12) ≤ r.toInt ∧ r.toInt ≤ 7) ∧ (r) = sX12_taken x0 x1 f L))) 0 0 (sgA 26 h sz) := by
  refine sg_ofWi (cc := cX12_taken) (maxL := 4) RX12 (by decide) rfl rfl (Nat.le_of_ble_eq_true rfl) ?_
  intro p e s m below meth cd Qz ls hx hb hml hown hts hK hZ hP hS hl hret
  have hA := sgY.self (n := 26) (h := h) (sz := s.heap.size)
  have hl : lv_has ls 4 [(0, .ref (h 0)), (1, .int x0), (2, .int x1)] := hl
  obtain ⟨H, hH⟩ : ∃ z : Heap, z = s.heap := ⟨_, rfl⟩
  obtain ⟨locs, hlo⟩ : ∃ z : List Loc, z = [] := ⟨_, rfl⟩
  have hP : va_P D vwCl (sgw 26 h (eM ca h) f L Q) H := by rw [hH]; exact hP
  have hS : va_S (sgA 26 h s.heap.size) s.heap H locs := by rw [hH, hlo]; exact hS
  suffices hgo : W p l e ({ frames := 2, cells := 0, slots := 0, locals := 45 }) s m ([.ref (h 0), .int x0, .int x1] : List Value).toArray below meth cd H locs 0 0 Qz (F0 m 0 ls []) by rw [hH, hlo] at hgo; exact hgo
  clear hH hlo
  obtain ⟨sp, hsp⟩ : ∃ z : Int32, z = sX12_taken x0 x1 f L := ⟨_, rfl⟩
  have hs : sp = sX12_taken x0 x1 f L := hsp
  have blk_75 : ∀ (y3_75 : Int32) (H : Heap) (locs : List Loc) (ls : Array Slot), sp = sX12_taken_b75 x0 x1 y3_75 f L → 0 ≤ x0.toInt ∧ x0.toInt ≤ 5 → 0 ≤ x1.toInt ∧ x1.toInt ≤ 7 → 0 ≤ y3_75.toInt ∧ y3_75.toInt ≤ 7 → 0 ≤ (f 22 (Int32.toNatClampNeg x0)).toInt ∧ (f 22 (Int32.toNatClampNeg x0)).toInt ≤ 49 → va_P D vwCl (sgw 26 h (eM ca h) f L Q) H → va_S (sgA 26 h s.heap.size) s.heap H locs → lv_has ls 4 [(0, .ref (h 0)), (1, .int x0), (2, .int x1), (3, .int y3_75)] → W p l e ({ frames := 2, cells := 0, slots := 0, locals := 45 }) s m ([.ref (h 0), .int x0, .int x1] : List Value).toArray below meth cd H locs 0 0 Qz (F0 m 75 ls []) := by
    intro y3_75 H locs ls hs hy0_75 hy1_75 hy2_75 hg0_75 hP hS hl
    refine lv_iload_n hx hb dX12_taken_75 rfl (lv_at hl 3 rfl) ?_
    refine lv_iload_n hx hb dX12_taken_76 rfl (lv_at hl 2 rfl) ?_
    refine lv_icmp_ne (tgt := 93) hx hb dX12_taken_77 (by decide) (fun c => ?_) (fun c => ?_)
    · skip
      have c_1 : y3_75.toInt ≠ x1.toInt := (by first | exact (bn_ne c) | (have z := bn_ne c; omega))
      refine lv_bipush (v := (-12)) hx hb dX12_taken_93 bp_m12 ?_
      have k99 : ((-12) : Int32).toInt = (-12) := ti_m12
      exact hret _ _ _ _ (-12) f L Q dX12_taken_95 hP hS ⟨⟨rfl, rfl, rfl⟩, (by decide), (Eq.trans (Eq.symm (hs.trans (((if_neg c_1).trans rfl)))) hsp)⟩
    · skip
      have c_2 : y3_75.toInt = x1.toInt := (by first | exact (Int32.toInt_inj.mpr c) | (have z := Int32.toInt_inj.mpr c; omega))
      refine lv_aload_n hx hb dX12_taken_80 rfl (lv_at hl 0 rfl) ?_
      refine lv_aload_n hx hb dX12_taken_81 rfl (lv_at hl 0 rfl) ?_
      refine sl_gM_0_51_12 hx hb hts hown hK hP dX12_taken_82 ?_
      refine lv_iload_n hx hb dX12_taken_85 rfl (lv_at hl 1 rfl) ?_
      refine sg_iald hx hb hK hP 22 (by decide) 0 rfl rfl (i := x0) (vp_in_iff.mpr ⟨by omega, by omega⟩) dX12_taken_86 ?_
      refine lv_topi (fun v_3 ev_3 => ?_)
      have q_4 : (-1) ≤ v_3.toInt ∧ v_3.toInt ≤ 54 := by rw [ev_3]; exact hI 22 _
      have q_5 : (f 22 (Int32.toNatClampNeg x0)).toInt = v_3.toInt := by rw [ev_3]
      refine sg_calli (va_runV (As := [.int v_3]) (rest := []) ⟨hx, hb, hml, hown, hts⟩ (kX12_kindOf l D ca za h hh f L Q hI v_3 ⟨by omega, by omega⟩ H.size) (sl_c12_kindOf_0_0_0_0_12 hts ⟨Nat.le_of_ble_eq_true rfl, Nat.le_of_ble_eq_true rfl⟩) (sl_vM_0 hA hK hP hS hZ) rfl rfl hl.1 rfl (lv_room (Nat.le_of_ble_eq_true rfl)) dX12_taken_87 ⟨Nat.le_refl _, Nat.le_refl _⟩) hA hS (fun r_9 f_6 L_7 Q_8 H locs hq hP hS => ?_)
      obtain ⟨⟨ef9, eL9, eQ9⟩, hq, u_10⟩ := hq
      rw [ef9, eL9, eQ9] at hP; clear ef9 eL9 eQ9
      refine lv_goto (tgt := 95) hx hb dX12_taken_90 (by decide) ?_
      exact hret _ _ _ _ (r_9) f L Q dX12_taken_95 hP hS ⟨⟨rfl, rfl, rfl⟩, ⟨by omega, by omega⟩, (Eq.trans (Eq.symm (hs.trans (((if_pos c_2).trans (spl_e ev_3 (spl_e u_10 rfl)))))) hsp)⟩
  have loop_58 : ∀ (n_58 : Nat) (y3_58 : Int32) (H : Heap) (locs : List Loc) (ls : Array Slot), sp = sX12_taken_l58 x0 x1 n_58 y3_58 f L → y3_58.toInt < (n_58 : Int) → 0 ≤ x0.toInt ∧ x0.toInt ≤ 5 → 0 ≤ x1.toInt ∧ x1.toInt ≤ 7 → 0 ≤ y3_58.toInt ∧ y3_58.toInt ≤ 7 → 0 ≤ (f 22 (Int32.toNatClampNeg x0)).toInt ∧ (f 22 (Int32.toNatClampNeg x0)).toInt ≤ 49 → va_P D vwCl (sgw 26 h (eM ca h) f L Q) H → va_S (sgA 26 h s.heap.size) s.heap H locs → lv_has ls 4 [(0, .ref (h 0)), (1, .int x0), (2, .int x1), (3, .int y3_58)] → W p l e ({ frames := 2, cells := 0, slots := 0, locals := 45 }) s m ([.ref (h 0), .int x0, .int x1] : List Value).toArray below meth cd H locs 0 0 Qz (F0 m 58 ls []) := by
    intro n_58
    induction n_58 with
    | zero => intro y3_58 H locs ls hs hm_58 hy0_58 hy1_58 hy2_58 hg0_58 hP hS hl; exact absurd hm_58 (by omega)
    | succ n_58 ih_58 =>
      intro y3_58 H locs ls hs hm_58 hy0_58 hy1_58 hy2_58 hg0_58 hP hS hl
      have hs : sp = sX12_taken_h58 x0 x1 (sX12_taken_l58 x0 x1 n_58) y3_58 f L := hs
      refine lv_iload_n hx hb dX12_taken_58 rfl (lv_at hl 3 rfl) ?_
      refine lv_iload_n hx hb dX12_taken_59 rfl (lv_at hl 2 rfl) ?_
      refine lv_icmp_eq (tgt := 75) hx hb dX12_taken_60 (by decide) (fun c => ?_) (fun c => ?_)
      · skip
        have c_11 : y3_58.toInt = x1.toInt := (by first | exact (Int32.toInt_inj.mpr c) | (have z := Int32.toInt_inj.mpr c; omega))
        exact blk_75 y3_58 _ _ _ (hs.trans (((if_pos c_11).trans rfl))) hy0_58 hy1_58 hy2_58 ⟨by omega, by omega⟩ hP hS (lv_sub hl [0, 1, 2, 3] rfl)
      · skip
        have c_12 : y3_58.toInt ≠ x1.toInt := (by first | exact (bn_ne c) | (have z := bn_ne c; omega))
        replace hs := hs.trans ((if_neg c_12).trans rfl)
        refine lv_iload_n hx hb dX12_taken_63 rfl (lv_at hl 3 rfl) ?_
        refine lv_if_le (tgt := 75) hx hb dX12_taken_64 (by decide) (fun c => ?_) (fun c => ?_)
        · skip
          have c_13 : y3_58.toInt ≤ 0 := (by first | exact (cm_le1 ti_0 c) | (have z := bn_le c; have k1 : (0 : Int32).toInt = 0 := ti_0; omega))
          exact blk_75 y3_58 _ _ _ (hs.trans ((if_neg (Int.not_lt.mpr c_13)).trans rfl)) hy0_58 hy1_58 hy2_58 ⟨by omega, by omega⟩ hP hS (lv_sub hl [0, 1, 2, 3] rfl)
        · skip
          have c_14 : 0 < y3_58.toInt := (by first | exact (cm_nle1 ti_0 c) | (have z := bn_nle c; have k1 : (0 : Int32).toInt = 0 := ti_0; omega))
          refine lv_iload_n hx hb dX12_taken_67 rfl (lv_at hl 3 rfl) ?_
          refine sg_calli (va_runS (As := [.int y3_58]) (rest := []) ⟨hx, hb, hml, hown, hts⟩ (kX12_above l D ca za h hh f L Q hI y3_58 ⟨by omega, by omega⟩ H.size) (va_cwS 1 hts (gw_S (fun _ h => List.mem_cons_of_mem _ h) mw_738 mw_739 mw_619 mw_737) rfl rfl rfl hd_yX12_above.2 ⟨Nat.le_of_ble_eq_true rfl, Nat.le_of_ble_eq_true rfl⟩) (sg_preS hA hK hP hS hZ) rfl rfl hl.1 rfl (lv_room (Nat.le_of_ble_eq_true rfl)) dX12_taken_68 ⟨Nat.le_refl _, Nat.le_refl _⟩) hA hS (fun r_18 f_15 L_16 Q_17 H locs hq hP hS => ?_)
          obtain ⟨⟨ef9, eL9, eQ9⟩, hq, p_19, u_20⟩ := hq
          rw [ef9, eL9, eQ9] at hP; clear ef9 eL9 eQ9
          refine lv_istore_n (lv' := [(3, .int r_18), (0, .ref (h 0)), (1, .int x0), (2, .int x1)]) hx hb dX12_taken_71 rfl hl (by decide) rfl (fun ls hl => ?_)
          refine lv_goto (tgt := 58) hx hb dX12_taken_72 (by decide) ?_
          exact ih_58 r_18 _ _ _ (hs.trans ((if_pos c_14).trans (spl_e u_20 rfl))) (by omega) hy0_58 hy1_58 ⟨by omega, by omega⟩ ⟨by omega, by omega⟩ hP hS (lv_sub hl [1, 2, 3, 0] rfl)
  refine lv_iload_n hx hb dX12_taken_0 rfl (lv_at hl 1 rfl) ?_
  refine sg_calli (va_runS (As := [.int x0]) (rest := []) ⟨hx, hb, hml, hown, hts⟩ (kX12_isShelf l D ca za h hh f L Q hI x0 H.size) (va_cwS 1 hts (gw_S (fun _ h => List.mem_cons_of_mem _ h) mw_641 mw_642 mw_619 mw_640) rfl rfl rfl hd_yX12_isShelf.2 ⟨Nat.le_of_ble_eq_true rfl, Nat.le_of_ble_eq_true rfl⟩) (sg_preS hA hK hP hS hZ) rfl rfl hl.1 rfl (lv_room (Nat.le_of_ble_eq_true rfl)) dX12_taken_1 ⟨Nat.le_refl _, Nat.le_refl _⟩) hA hS (fun r_24 f_21 L_22 Q_23 H locs hq hP hS => ?_)
  obtain ⟨⟨ef9, eL9, eQ9⟩, hq, u_25⟩ := hq
  replace hs := hs.trans (spl_e u_25 rfl)
  rw [ef9, eL9, eQ9] at hP; clear ef9 eL9 eQ9
  rcases hq with ⟨rfl, hq⟩ | ⟨rfl, hq⟩
  · skip
    have hc_26 := hq
    refine lv_if_eq (tgt := 19) hx hb dX12_taken_4 (by decide) (fun c => absurd c (by decide)) (fun c => ?_)
    refine lv_iload_n hx hb dX12_taken_7 rfl (lv_at hl 2 rfl) ?_
    obtain ⟨w_27, ew_27⟩ : ∃ z : Int64, z = Int32.toInt64 x1 := ⟨_, rfl⟩
    have q_28 : w_27.toInt = x1.toInt := by rw [ew_27]; exact Int32.toInt_toInt64 _
    refine lv_i2l (v := w_27) hx hb dX12_taken_8 ew_27.symm ?_
    refine lv_lconst (v := 0) hx hb dX12_taken_9 (by decide) ?_
    refine lv_ldc2 (v := 7) hx hb hown (hts _ (List.mem_cons_of_mem _ mw_620)) dX12_taken_10 ?_
    refine sg_calli (va_runS (As := [.long w_27, .long 0, .long 7]) (rest := []) ⟨hx, hb, hml, hown, hts⟩ (kX12_within l D ca za h hh f L Q hI w_27 0 7 H.size) (va_cwS 3 hts (gw_S (fun _ h => List.mem_cons_of_mem _ h) mw_631 mw_632 mw_619 mw_630) rfl rfl rfl hd_yX12_within.2 ⟨Nat.le_of_ble_eq_true rfl, Nat.le_of_ble_eq_true rfl⟩) (sg_preS hA hK hP hS hZ) rfl rfl hl.1 rfl (lv_room (Nat.le_of_ble_eq_true rfl)) dX12_taken_13 ⟨Nat.le_refl _, Nat.le_refl _⟩) hA hS (fun r_32 f_29 L_30 Q_31 H locs hq hP hS => ?_)
    obtain ⟨⟨ef9, eL9, eQ9⟩, hq, u_33⟩ := hq
    replace hs := hs.trans ((if_pos rfl).trans (spl_e ew_27 (spl_e u_33 rfl)))
    rw [ef9, eL9, eQ9] at hP; clear ef9 eL9 eQ9
    have k_34 : (0 : Int64).toInt = 0 := by decide
    have k_35 : (7 : Int64).toInt = 7 := by decide
    rcases hq with ⟨rfl, hq⟩ | ⟨rfl, hq⟩
    · skip
      have hc_36 := hq
      refine lv_if_ne (tgt := 21) hx hb dX12_taken_16 (by decide) (fun c => ?_) (fun c => absurd c (by decide))
      refine lv_aload_n hx hb dX12_taken_21 rfl (lv_at hl 0 rfl) ?_
      refine sl_gM_0_51_12 hx hb hts hown hK hP dX12_taken_22 ?_
      refine lv_iload_n hx hb dX12_taken_25 rfl (lv_at hl 1 rfl) ?_
      refine sg_iald hx hb hK hP 22 (by decide) 0 rfl rfl (i := x0) (vp_in_iff.mpr ⟨by omega, by omega⟩) dX12_taken_26 ?_
      refine lv_topi (fun v_37 ev_37 => ?_)
      replace hs := hs.trans ((if_pos rfl).trans (spl_e ev_37 rfl))
      have q_38 : (-1) ≤ v_37.toInt ∧ v_37.toInt ≤ 54 := by rw [ev_37]; exact hI 22 _
      have q_39 : (f 22 (Int32.toNatClampNeg x0)).toInt = v_37.toInt := by rw [ev_37]
      refine lv_if_ge (tgt := 33) hx hb dX12_taken_27 (by decide) (fun c => ?_) (fun c => ?_)
      · skip
        have c_40 : 0 ≤ v_37.toInt := (by first | exact (cm_le0 ti_0 c) | (have z := bn_le c; have k1 : (0 : Int32).toInt = 0 := ti_0; omega))
        replace hs := hs.trans ((if_neg (Int.not_lt.mpr c_40)).trans rfl)
        refine lv_aload_n hx hb dX12_taken_33 rfl (lv_at hl 0 rfl) ?_
        refine sl_gM_0_51_12 hx hb hts hown hK hP dX12_taken_34 ?_
        refine lv_iload_n hx hb dX12_taken_37 rfl (lv_at hl 1 rfl) ?_
        refine sg_iald hx hb hK hP 22 (by decide) 0 rfl rfl (i := x0) (vp_in_iff.mpr ⟨by omega, by omega⟩) dX12_taken_38 ?_
        rw [← ev_37]
        refine lv_bipush (v := 50) hx hb dX12_taken_39 bp_50 ?_
        refine lv_icmp_lt (tgt := 47) hx hb dX12_taken_41 (by decide) (fun c => ?_) (fun c => ?_)
        · skip
          have c_43 : v_37.toInt < 50 := (by first | exact (cm_lt1 ti_50 c) | (have z := bn_lt c; have k1 : (50 : Int32).toInt = 50 := ti_50; omega))
          refine lv_aload_n hx hb dX12_taken_47 rfl (lv_at hl 0 rfl) ?_
          refine lv_aload_n hx hb dX12_taken_48 rfl (lv_at hl 0 rfl) ?_
          refine sl_gM_0_51_12 hx hb hts hown hK hP dX12_taken_49 ?_
          refine lv_iload_n hx hb dX12_taken_52 rfl (lv_at hl 1 rfl) ?_
          refine sg_iald hx hb hK hP 22 (by decide) 0 rfl rfl (i := x0) (vp_in_iff.mpr ⟨by omega, by omega⟩) dX12_taken_53 ?_
          rw [← ev_37]
          refine sg_calli (va_runV (As := [.int v_37]) (rest := []) ⟨hx, hb, hml, hown, hts⟩ (kX12_kindOf l D ca za h hh f L Q hI v_37 ⟨by omega, by omega⟩ H.size) (sl_c12_kindOf_0_0_0_0_12 hts ⟨Nat.le_of_ble_eq_true rfl, Nat.le_of_ble_eq_true rfl⟩) (sl_vM_0 hA hK hP hS hZ) rfl rfl hl.1 rfl (lv_room (Nat.le_of_ble_eq_true rfl)) dX12_taken_54 ⟨Nat.le_refl _, Nat.le_refl _⟩) hA hS (fun r_49 f_46 L_47 Q_48 H locs hq hP hS => ?_)
          obtain ⟨⟨ef9, eL9, eQ9⟩, hq, u_50⟩ := hq
          rw [ef9, eL9, eQ9] at hP; clear ef9 eL9 eQ9
          refine lv_istore_n (lv' := [(3, .int r_49), (0, .ref (h 0)), (1, .int x0), (2, .int x1)]) hx hb dX12_taken_57 rfl hl (by decide) rfl (fun ls hl => ?_)
          exact loop_58 8 r_49 _ _ _ (hs.trans ((if_pos c_43).trans (spl_e u_50 rfl))) (by omega) ⟨by omega, by omega⟩ ⟨by omega, by omega⟩ ⟨by omega, by omega⟩ ⟨by omega, by omega⟩ hP hS (lv_sub hl [1, 2, 3, 0] rfl)
        · skip
          have c_44 : 50 ≤ v_37.toInt := (by first | exact (cm_nlt1 ti_50 c) | (have z := bn_nlt c; have k1 : (50 : Int32).toInt = 50 := ti_50; omega))
          refine lv_bipush (v := (-12)) hx hb dX12_taken_44 bp_m12 ?_
          have k99 : ((-12) : Int32).toInt = (-12) := ti_m12
          exact hret _ _ _ _ (-12) f L Q dX12_taken_46 hP hS ⟨⟨rfl, rfl, rfl⟩, (by decide), (Eq.trans (Eq.symm (hs.trans ((if_neg (Int.not_lt.mpr c_44)).trans rfl))) hsp)⟩
      · skip
        have c_41 : v_37.toInt < 0 := (by first | exact (cm_nle0 ti_0 c) | (have z := bn_nle c; have k1 : (0 : Int32).toInt = 0 := ti_0; omega))
        refine lv_bipush (v := (-11)) hx hb dX12_taken_30 bp_m11 ?_
        have k99 : ((-11) : Int32).toInt = (-11) := ti_m11
        exact hret _ _ _ _ (-11) f L Q dX12_taken_32 hP hS ⟨⟨rfl, rfl, rfl⟩, (by decide), (Eq.trans (Eq.symm (hs.trans ((if_pos c_41).trans rfl))) hsp)⟩
    · skip
      have hc_36 := hq
      refine lv_if_ne (tgt := 21) hx hb dX12_taken_16 (by decide) (fun c => absurd c (by decide)) (fun c => ?_)
      refine lv_iconst (v := (-1)) hx hb dX12_taken_19 ic_m1 ?_
      have k99 : ((-1) : Int32).toInt = (-1) := ti_m1
      exact hret _ _ _ _ (-1) f L Q dX12_taken_20 hP hS ⟨⟨rfl, rfl, rfl⟩, (by decide), (Eq.trans (Eq.symm (hs.trans ((if_neg (by decide)).trans rfl))) hsp)⟩
  · skip
    have hc_26 := hq
    refine lv_if_eq (tgt := 19) hx hb dX12_taken_4 (by decide) (fun c => ?_) (fun c => absurd c (by decide))
    refine lv_iconst (v := (-1)) hx hb dX12_taken_19 ic_m1 ?_
    have k99 : ((-1) : Int32).toInt = (-1) := ti_m1
    exact hret _ _ _ _ (-1) f L Q dX12_taken_20 hP hS ⟨⟨rfl, rfl, rfl⟩, (by decide), (Eq.trans (Eq.symm (hs.trans ((if_neg (by decide)).trans rfl))) hsp)⟩

set_option maxHeartbeats 4000000 in
set_option maxRecDepth 100000 in
theorem kX12_count (l : Launch) (D : va_G) (ca : Nat → ClassId) (za h : Nat → Nat) (hh : sgH 26 h) (f : sg_F) (L : sg_L) (Q : sg_Q) (hI : sgI loM hiM f) (x0 : Int32) (sz : Nat) : Met l yX12_count gwX12_count { frames := 0, cells := 0, slots := 0, locals := 0 } (sgP D vwCl (tyX ca) 26 h (eM ca h) zcM za f L Q sz [.ref (h 0), .int x0]) (sgQi D vwCl 26 h (eM ca h) sz (fun r f1 L1 Q1 => ((f1 = f ∧ L1 = L ∧ Q1 = Q) ∧ ((-1) ≤ r.toInt ∧ r.toInt ≤ 120) ∧ (r) = sX12_count x0 f L))) 0 0 (sgA 26 h sz) := by
  refine sg_ofWi (cc := cX12_count) (maxL := 2) RX12 (by decide) rfl rfl (Nat.le_of_ble_eq_true rfl) ?_
  intro p e s m below meth cd Qz ls hx hb hml hown hts hK hZ hP hS hl hret
  have hA := sgY.self (n := 26) (h := h) (sz := s.heap.size)
  have hl : lv_has ls 2 [(0, .ref (h 0)), (1, .int x0)] := hl
  obtain ⟨H, hH⟩ : ∃ z : Heap, z = s.heap := ⟨_, rfl⟩
  obtain ⟨locs, hlo⟩ : ∃ z : List Loc, z = [] := ⟨_, rfl⟩
  have hP : va_P D vwCl (sgw 26 h (eM ca h) f L Q) H := by rw [hH]; exact hP
  have hS : va_S (sgA 26 h s.heap.size) s.heap H locs := by rw [hH, hlo]; exact hS
  suffices hgo : W p l e ({ frames := 0, cells := 0, slots := 0, locals := 0 }) s m ([.ref (h 0), .int x0] : List Value).toArray below meth cd H locs 0 0 Qz (F0 m 0 ls []) by rw [hH, hlo] at hgo; exact hgo
  clear hH hlo
  obtain ⟨sp, hsp⟩ : ∃ z : Int32, z = sX12_count x0 f L := ⟨_, rfl⟩
  have hs : sp = sX12_count x0 f L := hsp
  refine lv_iload_n hx hb dX12_count_0 rfl (lv_at hl 1 rfl) ?_
  rcases (show (x0.toInt ≠ 0 ∧ x0.toInt ≠ 1 ∧ x0.toInt ≠ 2 ∧ x0.toInt ≠ 3 ∧ x0.toInt ≠ 4) ∨ x0.toInt = 0 ∨ x0.toInt = 1 ∨ x0.toInt = 2 ∨ x0.toInt = 3 ∨ x0.toInt = 4 from by omega) with c | c | c | c | c | c
  · skip
    have cs_1 := c
    refine lv_tableOut (x := x0) (tgt := 61) hx hb dX12_count_1 (by omega) (by decide) ?_
    refine lv_iconst (v := (-1)) hx hb dX12_count_61 ic_m1 ?_
    have k99 : ((-1) : Int32).toInt = (-1) := ti_m1
    exact hret _ _ _ _ (-1) f L Q dX12_count_62 hP hS ⟨⟨rfl, rfl, rfl⟩, (by decide), (Eq.trans (Eq.symm (hs.trans (((if_neg cs_1.1).trans ((if_neg cs_1.2.1).trans ((if_neg cs_1.2.2.1).trans ((if_neg cs_1.2.2.2.1).trans ((if_neg cs_1.2.2.2.2).trans rfl)))))))) hsp)⟩
  · skip
    have cs_1 := c
    have c_2 := c
    refine lv_tableIn (x := x0) (tgt := 36) hx hb dX12_count_1 (by omega) (by omega) (by rw [c]; rfl) (by decide) ?_
    refine lv_aload_n hx hb dX12_count_36 rfl (lv_at hl 0 rfl) ?_
    refine sl_gM_0_6_12 (v := (f 0 6)) hx hb hts hown hK hP rfl dX12_count_37 ?_
    refine lv_topi (fun v_3 ev_3 => ?_)
    have q_4 : 0 ≤ v_3.toInt ∧ v_3.toInt ≤ 8 := by rw [ev_3]; exact hI 0 6
    exact hret _ _ _ _ (v_3) f L Q dX12_count_40 hP hS ⟨⟨rfl, rfl, rfl⟩, ⟨by omega, by omega⟩, (Eq.trans (Eq.symm (hs.trans (((if_pos cs_1).trans (spl_e ev_3 rfl))))) hsp)⟩
  · skip
    have cs_1 := c
    have c_5 := c
    refine lv_tableIn (x := x0) (tgt := 41) hx hb dX12_count_1 (by omega) (by omega) (by rw [c]; rfl) (by decide) ?_
    refine lv_aload_n hx hb dX12_count_41 rfl (lv_at hl 0 rfl) ?_
    refine sl_gM_0_9_12 (v := (f 0 9)) hx hb hts hown hK hP rfl dX12_count_42 ?_
    refine lv_topi (fun v_6 ev_6 => ?_)
    have q_7 : 0 ≤ v_6.toInt ∧ v_6.toInt ≤ 120 := by rw [ev_6]; exact hI 0 9
    exact hret _ _ _ _ (v_6) f L Q dX12_count_45 hP hS ⟨⟨rfl, rfl, rfl⟩, ⟨by omega, by omega⟩, (Eq.trans (Eq.symm (hs.trans (((if_neg (fun z => absurd (z.symm.trans cs_1) (by decide))).trans ((if_pos cs_1).trans (spl_e ev_6 rfl)))))) hsp)⟩
  · skip
    have cs_1 := c
    have c_8 := c
    refine lv_tableIn (x := x0) (tgt := 46) hx hb dX12_count_1 (by omega) (by omega) (by rw [c]; rfl) (by decide) ?_
    refine lv_aload_n hx hb dX12_count_46 rfl (lv_at hl 0 rfl) ?_
    refine sl_gM_0_5_12 (v := (f 0 5)) hx hb hts hown hK hP rfl dX12_count_47 ?_
    refine lv_topi (fun v_9 ev_9 => ?_)
    have q_10 : 0 ≤ v_9.toInt ∧ v_9.toInt ≤ 40 := by rw [ev_9]; exact hI 0 5
    exact hret _ _ _ _ (v_9) f L Q dX12_count_50 hP hS ⟨⟨rfl, rfl, rfl⟩, ⟨by omega, by omega⟩, (Eq.trans (Eq.symm (hs.trans (((if_neg (fun z => absurd (z.symm.trans cs_1) (by decide))).trans ((if_neg (fun z => absurd (z.symm.trans cs_1) (by decide))).trans ((if_pos cs_1).trans (spl_e ev_9 rfl))))))) hsp)⟩
  · skip
    have cs_1 := c
    have c_11 := c
    refine lv_tableIn (x := x0) (tgt := 51) hx hb dX12_count_1 (by omega) (by omega) (by rw [c]; rfl) (by decide) ?_
    refine lv_aload_n hx hb dX12_count_51 rfl (lv_at hl 0 rfl) ?_
    refine sl_gM_0_45_12 (v := (f 0 45)) hx hb hts hown hK hP rfl dX12_count_52 ?_
    refine lv_topi (fun v_12 ev_12 => ?_)
    have q_13 : 0 ≤ v_12.toInt ∧ v_12.toInt ≤ 50 := by rw [ev_12]; exact hI 0 45
    exact hret _ _ _ _ (v_12) f L Q dX12_count_55 hP hS ⟨⟨rfl, rfl, rfl⟩, ⟨by omega, by omega⟩, (Eq.trans (Eq.symm (hs.trans (((if_neg (fun z => absurd (z.symm.trans cs_1) (by decide))).trans ((if_neg (fun z => absurd (z.symm.trans cs_1) (by decide))).trans ((if_neg (fun z => absurd (z.symm.trans cs_1) (by decide))).trans ((if_pos cs_1).trans (spl_e ev_12 rfl)))))))) hsp)⟩
  · skip
    have cs_1 := c
    have c_14 := c
    refine lv_tableIn (x := x0) (tgt := 56) hx hb dX12_count_1 (by omega) (by omega) (by rw [c]; rfl) (by decide) ?_
    refine lv_aload_n hx hb dX12_count_56 rfl (lv_at hl 0 rfl) ?_
    refine sl_gM_0_48_12 (v := (f 0 48)) hx hb hts hown hK hP rfl dX12_count_57 ?_
    refine lv_topi (fun v_15 ev_15 => ?_)
    have q_16 : 0 ≤ v_15.toInt ∧ v_15.toInt ≤ 19 := by rw [ev_15]; exact hI 0 48
    exact hret _ _ _ _ (v_15) f L Q dX12_count_60 hP hS ⟨⟨rfl, rfl, rfl⟩, ⟨by omega, by omega⟩, (Eq.trans (Eq.symm (hs.trans (((if_neg (fun z => absurd (z.symm.trans cs_1) (by decide))).trans ((if_neg (fun z => absurd (z.symm.trans cs_1) (by decide))).trans ((if_neg (fun z => absurd (z.symm.trans cs_1) (by decide))).trans ((if_neg (fun z => absurd (z.symm.trans cs_1) (by decide))).trans ((if_pos cs_1).trans (spl_e ev_15 rfl))))))))) hsp)⟩
