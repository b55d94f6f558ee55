/-! contracts of any state. Laid by a program (wip/tool) -/
abbrev WkX3_runs_41_2_2_f2_f3 : List (Nat × Nat × Option Nat) := [(36, 36, some 3), (38, 38, some 2), (38, 38, some 3), (38, 38, some 4)]
set_option maxHeartbeats 4000000 in
set_option maxRecDepth 100000 in
theorem kX3_runs_41_2_2_f2_f3 (l : Launch) (D : va_G) (ca : Nat → ClassId) (za h : Nat → Nat) (hh : sgH 52 h) (f : sg_F) (L : sg_L) (Q : sg_Q) (hI : sgI loX hiX f) (x2 : Int32) (hf_36_3 : f 36 3 = 2) (hf_36_4 : f 36 4 = 3) (p0 : 2 ≤ (f 36 3).toInt ∧ (f 36 3).toInt ≤ 2) (sz : Nat) : Met l yX3_runs gwX3_runs { frames := 6, cells := 0, slots := 0, locals := 150 } (sgP D vwCl (tyX ca) 52 h (eX ca h) zcX za f L Q sz [.ref (h 36), .int 41, .int 2, .int x2, .int 2]) (sgQi D vwCl 52 h (eX ca h) sz (fun r f1 L1 Q1 => ((sgI loX hiX f1 ∧ sgK WkX3_runs_41_2_2_f2_f3 f f1 ∧ L1 = L ∧ Q1 = Q) ∧ True ∧ (5 ≤ (f1 36 3).toInt ∧ (f1 36 3).toInt ≤ 5) ∧ (r, f1) = sX3_runs_41_2_2_f2_f3 x2 f L))) 0 0 (sgA 52 h sz) := by
  refine sg_ofWi (cc := cX3_runs) (maxL := 5) RX3 (by decide) rfl rfl (Nat.le_of_ble_eq_true rfl) ?_
  intro p e s m below meth cd Qz ls hx hb hml hown hts hK hZ hP hS hl hret
  have hA := sgY.self (n := 52) (h := h) (sz := s.heap.size)
  have hl : lv_has ls 5 [(0, .ref (h 36)), (1, .int 41), (2, .int 2), (3, .int x2), (4, .int 2)] := hl
  obtain ⟨H, hH⟩ : ∃ z : Heap, z = s.heap := ⟨_, rfl⟩
  obtain ⟨locs, hlo⟩ : ∃ z : List Loc, z = [] := ⟨_, rfl⟩
  have hP : va_P D vwCl (sgw 52 h (eX ca h) f L Q) H := by rw [hH]; exact hP
  have hS : va_S (sgA 52 h s.heap.size) s.heap H locs := by rw [hH, hlo]; exact hS
  suffices hgo : W p l e ({ frames := 6, cells := 0, slots := 0, locals := 150 }) s m ([.ref (h 36), .int 41, .int 2, .int x2, .int 2] : List Value).toArray below meth cd H locs 0 0 Qz (F0 m 0 ls []) by rw [hH, hlo] at hgo; exact hgo
  clear hH hlo
  obtain ⟨sp, hsp⟩ : ∃ z : Int32 × sg_F, z = sX3_runs_41_2_2_f2_f3 x2 f L := ⟨_, rfl⟩
  have hs : sp = sX3_runs_41_2_2_f2_f3 x2 f L := hsp
  have o_1 : (f 36 3).toInt = 2 := (congrArg Int32.toInt (show f 36 3 = 2 from hf_36_3)).trans (by decide)
  have hF : sgK WkX3_runs_41_2_2_f2_f3 f f := sgK.rf
  refine lv_iload_n hx hb dX3_runs_0 rfl (lv_at hl 1 rfl) ?_
  refine lv_lookup (x := 41) (off := 205) (tgt := 206) hx hb dX3_runs_1 (by decide) (by decide) (by decide) ?_
  refine lv_aload_n hx hb dX3_runs_206 rfl (lv_at hl 0 rfl) ?_
  refine lv_iload_n hx hb dX3_runs_207 rfl (lv_at hl 2 rfl) ?_
  refine lv_iconst (v := 1) hx hb dX3_runs_208 ic_1 ?_
  refine lv_iload_n hx hb dX3_runs_209 rfl (lv_at hl 3 rfl) ?_
  refine lv_iconst (v := 1) hx hb dX3_runs_210 ic_1 ?_
  refine lv_iadd hx hb dX3_runs_211 ?_
  refine lv_topi (fun v_2 ev_2 => ?_)
  refine lv_iload hx hb dX3_runs_212 (lv_at hl 4 rfl) ?_
  have q_3 : (f 36 3).toInt = 2 := (congrArg Int32.toInt (show f 36 3 = 2 from hf_36_3)).trans (by decide)
  refine sg_calli (va_runV (As := [.int 2, .int 1, .int v_2, .int 2]) (rest := []) ⟨hx, hb, hml, hown, hts⟩ (kX3_does_2_1_2_f2_f3 l D ca za h hh f L Q hI v_2 hf_36_3 hf_36_4 (by have k0 : (2 : Int32).toInt = 2 := ti_2; have k1 : (1 : Int32).toInt = 1 := ti_1; have k3 : (2 : Int32).toInt = 2 := ti_2; omega) H.size) (sl_c3_does_5_0_0_124_3 hts ⟨Nat.le_of_ble_eq_true rfl, Nat.le_of_ble_eq_true rfl⟩) (sl_vX_36 hA hK hP hS hZ) rfl rfl hl.1 rfl (lv_room (Nat.le_of_ble_eq_true rfl)) dX3_runs_214 ⟨Nat.le_refl _, Nat.le_refl _⟩) hA hS (fun r_8 f_5 L_6 Q_7 H locs hq hP hS => ?_)
  obtain ⟨⟨hI, hk_f_5, eL9, eQ9⟩, hq, p_9, u_10⟩ := hq
  rw [eL9, eQ9] at hP; clear eL9 eQ9
  have hF : sgK WkX3_runs_41_2_2_f2_f3 f f_5 := sgK.tr hF hk_f_5 (by decide +kernel)
  obtain ⟨v_11, ev_11⟩ : ∃ z : Int32, z = f_5 36 3 := ⟨_, rfl⟩
  have q_12 : 0 ≤ v_11.toInt ∧ v_11.toInt ≤ 19 := by rw [ev_11]; exact hI 36 3
  have q_13 : (f_5 36 3).toInt = v_11.toInt := (congrArg Int32.toInt (show f_5 36 3 = v_11 from ev_11.symm))
  have k_15 : (2 : Int32).toInt = 2 := by decide
  have k_16 : (1 : Int32).toInt = 1 := by decide
  have k_17 : (2 : Int32).toInt = 2 := by decide
  exact hret _ _ _ _ (r_8) f_5 L Q dX3_runs_217 hP hS ⟨⟨hI, hF, rfl, rfl⟩, trivial, ⟨by omega, by omega⟩, (Eq.trans (Eq.symm (hs.trans ((spl_e ev_2 (spl2_e u_10 (spl_e ev_11 rfl)))))) hsp)⟩

abbrev WkX3_does_3_1_1_f1_f3 : List (Nat × Nat × Option Nat) := [(36, 36, some 3), (38, 38, some 1), (38, 38, some 2), (38, 38, some 3), (38, 38, some 4)]
set_option maxHeartbeats 4000000 in
set_option maxRecDepth 100000 in
theorem kX3_does_3_1_1_f1_f3 (l : Launch) (D : va_G) (ca : Nat → ClassId) (za h : Nat → Nat) (hh : sgH 52 h) (f : sg_F) (L : sg_L) (Q : sg_Q) (hI : sgI loX hiX f) (x2 : Int32) (hf_36_3 : f 36 3 = 1) (hf_36_4 : f 36 4 = 3) (p0 : 1 ≤ (f 36 3).toInt ∧ (f 36 3).toInt ≤ 1) (sz : Nat) : Met l yX3_does gwX3_does { frames := 7, cells := 0, slots := 0, locals := 174 } (sgP D vwCl (tyX ca) 52 h (eX ca h) zcX za f L Q sz [.ref (h 36), .int 3, .int 1, .int x2, .int 1]) (sgQi D vwCl 52 h (eX ca h) sz (fun r f1 L1 Q1 => ((sgI loX hiX f1 ∧ sgK WkX3_does_3_1_1_f1_f3 f f1 ∧ L1 = L ∧ Q1 = Q) ∧ True ∧ (5 ≤ (f1 36 3).toInt ∧ (f1 36 3).toInt ≤ 5) ∧ (r, f1) = sX3_does_3_1_1_f1_f3 x2 f L))) 0 0 (sgA 52 h sz) := by
  refine sg_ofWi (cc := cX3_does) (maxL := 7) RX3 (by decide) rfl rfl (Nat.le_of_ble_eq_true rfl) ?_
  intro p e s m below meth cd Qz ls hx hb hml hown hts hK hZ hP hS hl hret
  have hA := sgY.self (n := 52) (h := h) (sz := s.heap.size)
  have hl : lv_has ls 7 [(0, .ref (h 36)), (1, .int 3), (2, .int 1), (3, .int x2), (4, .int 1)] := hl
  obtain ⟨H, hH⟩ : ∃ z : Heap, z = s.heap := ⟨_, rfl⟩
  obtain ⟨locs, hlo⟩ : ∃ z : List Loc, z = [] := ⟨_, rfl⟩
  have hP : va_P D vwCl (sgw 52 h (eX ca h) f L Q) H := by rw [hH]; exact hP
  have hS : va_S (sgA 52 h s.heap.size) s.heap H locs := by rw [hH, hlo]; exact hS
  suffices hgo : W p l e ({ frames := 7, cells := 0, slots := 0, locals := 174 }) s m ([.ref (h 36), .int 3, .int 1, .int x2, .int 1] : List Value).toArray below meth cd H locs 0 0 Qz (F0 m 0 ls []) by rw [hH, hlo] at hgo; exact hgo
  clear hH hlo
  obtain ⟨sp, hsp⟩ : ∃ z : Int32 × sg_F, z = sX3_does_3_1_1_f1_f3 x2 f L := ⟨_, rfl⟩
  have hs : sp = sX3_does_3_1_1_f1_f3 x2 f L := hsp
  have o_1 : (f 36 3).toInt = 1 := (congrArg Int32.toInt (show f 36 3 = 1 from hf_36_3)).trans (by decide)
  have hF : sgK WkX3_does_3_1_1_f1_f3 f f := sgK.rf
  have blk_53 : ∀ (fp_53 : sg_F) (H : Heap) (locs : List Loc) (ls : Array Slot), sp = sX3_does_3_1_1_f1_f3_b53 x2 fp_53 L → 1 ≤ (fp_53 36 3).toInt ∧ (fp_53 36 3).toInt ≤ 1 → 3 ≤ (fp_53 36 4).toInt ∧ (fp_53 36 4).toInt ≤ 3 → sgI loX hiX fp_53 → sgK WkX3_does_3_1_1_f1_f3 f fp_53 → va_P D vwCl (sgw 52 h (eX ca h) fp_53 L Q) H → va_S (sgA 52 h s.heap.size) s.heap H locs → lv_has ls 7 [(0, .ref (h 36)), (3, .int x2), (4, .int 1), (5, .int 3), (6, .int 41)] → W p l e ({ frames := 7, cells := 0, slots := 0, locals := 174 }) s m ([.ref (h 36), .int 3, .int 1, .int x2, .int 1] : List Value).toArray below meth cd H locs 0 0 Qz (F0 m 53 ls []) := by
    intro fp_53 H locs ls hs hy0_53 hy1_53 hI hF hP hS hl
    obtain ⟨v_2, ev_2⟩ : ∃ z : Int32, z = fp_53 36 3 := ⟨_, rfl⟩
    have q_3 : 0 ≤ v_2.toInt ∧ v_2.toInt ≤ 19 := by rw [ev_2]; exact hI 36 3
    have q_4 : (fp_53 36 3).toInt = v_2.toInt := by rw [ev_2]
    obtain ⟨v_5, ev_5⟩ : ∃ z : Int32, z = fp_53 36 4 := ⟨_, rfl⟩
    have q_6 : 0 ≤ v_5.toInt ∧ v_5.toInt ≤ 7 := by rw [ev_5]; exact hI 36 4
    have q_7 : (fp_53 36 4).toInt = v_5.toInt := by rw [ev_5]
    have m_8 : fp_53 36 4 = 3 := (hF 36 4 (by decide)).trans hf_36_4
    refine lv_aload_n hx hb dX3_does_53 rfl (lv_at hl 0 rfl) ?_
    refine lv_dup hx hb dX3_does_54 rfl ?_
    refine sl_gX_36_3_3 (v := v_2) hx hb hts hown hK hP (show fp_53 36 3 = v_2 from ev_2.symm) dX3_does_55 ?_
    refine lv_iconst (v := 1) hx hb dX3_does_58 ic_1 ?_
    refine lv_iadd hx hb dX3_does_59 ?_
    refine lv_topi (fun v_9 ev_9 => ?_)
    have q_10 : v_9.toInt = v_2.toInt + 1 := by rw [ev_9]; first | exact cm_add ti_1 (by omega) (by omega) | (have k1 : (1 : Int32).toInt = 1 := ti_1; exact (bn_addI (by omega) (by omega)).trans (by omega))
    refine sl_pX_36_3_3 (x := v_9) hx hb hts hown hh hA hK hP hS dX3_does_60 (fun f_11 H locs ef_11 hP hS => ?_)
    have hI : sgI loX hiX f_11 := by rw [ef_11]; exact sgI.put hI 36 3 (show 0 ≤ (v_9 : Int32).toInt ∧ (v_9 : Int32).toInt ≤ 19 from ⟨by omega, by omega⟩)
    have hF : sgK WkX3_does_3_1_1_f1_f3 f f_11 := sgK.put hF ef_11 (by rfl)
    refine lv_aload_n hx hb dX3_does_63 rfl (lv_at hl 0 rfl) ?_
    refine lv_iload hx hb dX3_does_64 (lv_at hl 4 rfl) ?_
    refine sg_gets hx hb hZ 2 rfl hS hown (hts _ (List.mem_cons_of_mem _ mw_174)) (fun _ h9 => h9) dX3_does_66 ?_
    refine lv_iload hx hb dX3_does_69 (lv_at hl 3 rfl) ?_
    refine sg_sald hx hb hZ 2 rfl hS (y := 3) (N := 8) (vp_in_iff.mpr (by decide)) dX3_does_71 ?_
    refine W.eq (g2 := F0 m 72 ls [.int 2, .int 41, .ref (h 36)]) (by rfl) ?_
    refine lv_iload_n hx hb dX3_does_72 rfl (lv_at hl 1 rfl) ?_
    refine lv_iload hx hb dX3_does_73 (lv_at hl 2 rfl) ?_
    refine lv_iconst (v := 1) hx hb dX3_does_75 ic_1 ?_
    refine lv_iadd hx hb dX3_does_76 ?_
    refine W.eq (g2 := F0 m 77 ls [.int 2, .int x2, .int 2, .int 41, .ref (h 36)]) (by rw [show (1 + 1 : Int32) = 2 from by decide]) ?_
    have c_12 : v_9 = 2 := Int32.toInt_inj.mp (by have k9 : (2 : Int32).toInt = 2 := ti_2; omega)
    have q_13 : (f_11 36 3).toInt = 2 := (congrArg Int32.toInt (show f_11 36 3 = 2 from (Eq.trans (by rw [ef_11, sg_up_s, sgu_s]) c_12))).trans (by decide)
    refine sg_calli (va_runV (As := [.int 41, .int 2, .int x2, .int 2]) (rest := []) ⟨hx, hb, hml, hown, hts⟩ (kX3_runs_41_2_2_f2_f3 l D ca za h hh f_11 L Q hI x2 (Eq.trans (by rw [ef_11, sg_up_s, sgu_s]) c_12) (by rw [ef_11, sg_up_s, sgu_n (by decide)]; exact m_8) (by have k0 : (41 : Int32).toInt = 41 := ti_41; have k1 : (2 : Int32).toInt = 2 := ti_2; have k3 : (2 : Int32).toInt = 2 := ti_2; omega) H.size) (sl_c3_runs_6_0_0_150_3 hts ⟨Nat.le_of_ble_eq_true rfl, Nat.le_of_ble_eq_true rfl⟩) (sl_vX_36 hA hK hP hS hZ) rfl rfl hl.1 rfl (lv_room (Nat.le_of_ble_eq_true rfl)) dX3_does_77 ⟨Nat.le_refl _, Nat.le_refl _⟩) hA hS (fun r_18 f_15 L_16 Q_17 H locs hq hP hS => ?_)
    obtain ⟨⟨hI, hk_f_15, eL9, eQ9⟩, hq, p_19, u_20⟩ := hq
    rw [eL9, eQ9] at hP; clear eL9 eQ9
    have hF : sgK WkX3_does_3_1_1_f1_f3 f f_15 := sgK.tr hF hk_f_15 (by decide +kernel)
    obtain ⟨v_21, ev_21⟩ : ∃ z : Int32, z = f_15 36 3 := ⟨_, rfl⟩
    have q_22 : 0 ≤ v_21.toInt ∧ v_21.toInt ≤ 19 := by rw [ev_21]; exact hI 36 3
    have q_23 : (f_15 36 3).toInt = v_21.toInt := (congrArg Int32.toInt (show f_15 36 3 = v_21 from ev_21.symm))
    have k_25 : (41 : Int32).toInt = 41 := by decide
    have k_26 : (2 : Int32).toInt = 2 := by decide
    have k_27 : (2 : Int32).toInt = 2 := by decide
    exact hret _ _ _ _ (r_18) f_15 L Q dX3_does_80 hP hS ⟨⟨hI, hF, rfl, rfl⟩, trivial, ⟨by omega, by omega⟩, (Eq.trans (Eq.symm (hs.trans ((spl_e ev_2 (spl_e ev_5 (spl_e ev_9 (spl_e ef_11 (spl2_e u_20 (spl_e ev_21 rfl))))))))) hsp)⟩
  refine lv_iload_n hx hb dX3_does_0 rfl (lv_at hl 1 rfl) ?_
  refine lv_iload_n hx hb dX3_does_1 rfl (lv_at hl 2 rfl) ?_
  refine sg_calli (va_runS (As := [.int 3, .int 1]) (rest := []) ⟨hx, hb, hml, hown, hts⟩ (kX3_ownerOf_3_1 l D ca za h hh f L Q hI H.size) (va_cwS 2 hts (gw_S (fun _ h => List.mem_cons_of_mem _ h) mw_189 mw_190 mw_47 mw_188) rfl rfl rfl hd_yX3_ownerOf.2 ⟨Nat.le_of_ble_eq_true rfl, Nat.le_of_ble_eq_true rfl⟩) (sg_preS hA hK hP hS hZ) rfl rfl hl.1 rfl (lv_room (Nat.le_of_ble_eq_true rfl)) dX3_does_2 ⟨Nat.le_refl _, Nat.le_refl _⟩) hA hS (fun r_33 f_30 L_31 Q_32 H locs hq hP hS => ?_)
  obtain ⟨⟨ef9, eL9, eQ9⟩, hq, u_34⟩ := hq
  rw [ef9, eL9, eQ9] at hP; clear ef9 eL9 eQ9
  obtain rfl : r_33 = 3 := Int32.toInt_inj.mp (by have k9 : (3 : Int32).toInt = 3 := ti_3; omega)
  refine lv_istore (lv' := [(5, .int 3), (0, .ref (h 36)), (1, .int 3), (2, .int 1), (3, .int x2), (4, .int 1)]) hx hb dX3_does_5 hl (by decide) rfl (fun ls hl => ?_)
  refine lv_iload hx hb dX3_does_7 (lv_at hl 0 rfl) ?_
  refine lv_if_lt (tgt := 19) hx hb dX3_does_9 (by decide) (fun c => absurd c (by decide)) (fun c => ?_)
  refine lv_iload hx hb dX3_does_12 (lv_at hl 5 rfl) ?_
  refine lv_bipush (v := 40) hx hb dX3_does_14 bp_40 ?_
  refine lv_icmp_le (tgt := 21) hx hb dX3_does_16 (by decide) (fun c => ?_) (fun c => absurd c (by decide))
  refine sg_gets hx hb hZ 3 rfl hS hown (hts _ (List.mem_cons_of_mem _ mw_173)) (fun _ h9 => h9) dX3_does_21 ?_
  refine lv_iload hx hb dX3_does_24 (lv_at hl 0 rfl) ?_
  refine lv_iconst (v := 4) hx hb dX3_does_26 ic_4 ?_
  refine lv_imul hx hb dX3_does_27 ?_
  refine W.eq (g2 := F0 m 28 ls [.int 12, .ref (za 3)]) (by rw [show (3 * 4 : Int32) = 12 from by decide]) ?_
  refine lv_iload_n hx hb dX3_does_28 rfl (lv_at hl 3 rfl) ?_
  refine lv_iadd hx hb dX3_does_29 ?_
  refine W.eq (g2 := F0 m 30 ls [.int 13, .ref (za 3)]) (by rw [show (12 + 1 : Int32) = 13 from by decide]) ?_
  refine sg_sald hx hb hZ 3 rfl hS (y := 13) (N := 32) (vp_in_iff.mpr (by decide)) dX3_does_30 ?_
  refine W.eq (g2 := F0 m 31 ls [.int 41]) (by rfl) ?_
  refine lv_istore (lv' := [(6, .int 41), (5, .int 3), (0, .ref (h 36)), (1, .int 3), (2, .int 1), (3, .int x2), (4, .int 1)]) hx hb dX3_does_31 hl (by decide) rfl (fun ls hl => ?_)
  refine lv_aload_n hx hb dX3_does_33 rfl (lv_at hl 2 rfl) ?_
  refine sl_gX_36_3_3 (v := 1) hx hb hts hown hK hP (show f 36 3 = 1 from hf_36_3) dX3_does_34 ?_
  refine lv_bipush (v := 24) hx hb dX3_does_37 bp_24 ?_
  refine lv_icmp_ge (tgt := 53) hx hb dX3_does_39 (by decide) (fun c => absurd c (by decide)) (fun c => ?_)
  refine lv_aload_n hx hb dX3_does_42 rfl (lv_at hl 2 rfl) ?_
  refine sl_gX_36_1_3 hx hb hts hown hK hP dX3_does_43 ?_
  refine lv_aload_n hx hb dX3_does_46 rfl (lv_at hl 2 rfl) ?_
  refine sl_gX_36_3_3 (v := 1) hx hb hts hown hK hP (show f 36 3 = 1 from hf_36_3) dX3_does_47 ?_
  refine lv_iload hx hb dX3_does_50 (lv_at hl 0 rfl) ?_
  refine sg_iast hx hb hh hA hK hP hS 38 (by decide) 0 (fun _ => rfl) rfl (i := 1) (x := 41) (vp_in_iff.mpr (by decide)) dX3_does_52 (fun f_35 H locs ef_35 hP hS => ?_)
  have ef_35 : f_35 = sg_up f 38 (sgu (f 38) 1 41) := ef_35
  have hI : sgI loX hiX f_35 := by rw [ef_35]; exact sgI.put hI 38 1 (show 0 ≤ (41 : Int32).toInt ∧ (41 : Int32).toInt ≤ 81 from by decide)
  have hF : sgK WkX3_does_3_1_1_f1_f3 f f_35 := sgK.put hF ef_35 (by rfl)
  exact blk_53 f_35 _ _ _ (hs.trans ((spl_e u_34 (spl_e ef_35 rfl)))) (by have zz36_3 : (f_35 36 3).toInt = 1 := (congrArg Int32.toInt (show f_35 36 3 = 1 from (by rw [ef_35, sg_up_n (by decide)]; exact hf_36_3))).trans (by decide); exact ⟨by omega, by omega⟩) (by have zz36_4 : (f_35 36 4).toInt = 3 := (congrArg Int32.toInt (show f_35 36 4 = 3 from (by rw [ef_35, sg_up_n (by decide)]; exact hf_36_4))).trans (by decide); exact ⟨by omega, by omega⟩) hI hF hP hS (lv_sub hl [2, 5, 6, 1, 0] rfl)

set_option maxHeartbeats 4000000 in
set_option maxRecDepth 100000 in
theorem kX3_runs_11_m1_3_f7_f3 (l : Launch) (D : va_G) (ca : Nat → ClassId) (za h : Nat → Nat) (hh : sgH 52 h) (f : sg_F) (L : sg_L) (Q : sg_Q) (hI : sgI loX hiX f) (x2 : Int32) (hf_36_3 : f 36 3 = 7) (hf_36_4 : f 36 4 = 3) (b2 : 1 ≤ x2.toInt ∧ x2.toInt ≤ 1) (p0 : 7 ≤ (f 36 3).toInt ∧ (f 36 3).toInt ≤ 7) (sz : Nat) : Met l yX3_runs gwX3_runs { frames := 0, cells := 0, slots := 0, locals := 0 } (sgP D vwCl (tyX ca) 52 h (eX ca h) zcX za f L Q sz [.ref (h 36), .int 11, .int (-1), .int x2, .int 3]) (sgQi D vwCl 52 h (eX ca h) sz (fun r f1 L1 Q1 => ((f1 = f ∧ L1 = L ∧ Q1 = Q) ∧ True ∧ (7 ≤ (f1 36 3).toInt ∧ (f1 36 3).toInt ≤ 7) ∧ (r) = sX3_runs_11_m1_3_f7_f3 x2 f L))) 0 0 (sgA 52 h sz) := by
  refine sg_ofWi (cc := cX3_runs) (maxL := 5) RX3 (by decide) rfl rfl (Nat.le_of_ble_eq_true rfl) ?_
  intro p e s m below meth cd Qz ls hx hb hml hown hts hK hZ hP hS hl hret
  have hA := sgY.self (n := 52) (h := h) (sz := s.heap.size)
  have hl : lv_has ls 5 [(0, .ref (h 36)), (1, .int 11), (2, .int (-1)), (3, .int x2), (4, .int 3)] := hl
  obtain ⟨H, hH⟩ : ∃ z : Heap, z = s.heap := ⟨_, rfl⟩
  obtain ⟨locs, hlo⟩ : ∃ z : List Loc, z = [] := ⟨_, rfl⟩
  have hP : va_P D vwCl (sgw 52 h (eX ca h) f L Q) H := by rw [hH]; exact hP
  have hS : va_S (sgA 52 h s.heap.size) s.heap H locs := by rw [hH, hlo]; exact hS
  suffices hgo : W p l e ({ frames := 0, cells := 0, slots := 0, locals := 0 }) s m ([.ref (h 36), .int 11, .int (-1), .int x2, .int 3] : List Value).toArray below meth cd H locs 0 0 Qz (F0 m 0 ls []) by rw [hH, hlo] at hgo; exact hgo
  clear hH hlo
  obtain ⟨sp, hsp⟩ : ∃ z : Int32, z = sX3_runs_11_m1_3_f7_f3 x2 f L := ⟨_, rfl⟩
  have hs : sp = sX3_runs_11_m1_3_f7_f3 x2 f L := hsp
  have o_1 : (f 36 3).toInt = 7 := (congrArg Int32.toInt (show f 36 3 = 7 from hf_36_3)).trans (by decide)
  refine lv_iload_n hx hb dX3_runs_0 rfl (lv_at hl 1 rfl) ?_
  refine lv_lookup (x := 11) (off := 163) (tgt := 164) hx hb dX3_runs_1 (by decide) (by decide) (by decide) ?_
  refine lv_iload_n hx hb dX3_runs_164 rfl (lv_at hl 3 rfl) ?_
  refine lv_aload_n hx hb dX3_runs_165 rfl (lv_at hl 0 rfl) ?_
  refine sl_gX_36_5_3 (v := (f 36 5)) hx hb hts hown hK hP rfl dX3_runs_166 ?_
  refine lv_topi (fun v_2 ev_2 => ?_)
  have q_3 : 0 ≤ v_2.toInt ∧ v_2.toInt ≤ 49 := by rw [ev_2]; exact hI 36 5
  refine lv_ixor hx hb dX3_runs_169 ?_
  refine lv_topi (fun v_4 ev_4 => ?_)
  have q_5 : (f 36 3).toInt = 7 := (congrArg Int32.toInt (show f 36 3 = 7 from hf_36_3)).trans (by decide)
  exact hret _ _ _ _ (v_4) f L Q dX3_runs_170 hP hS ⟨⟨rfl, rfl, rfl⟩, trivial, ⟨by omega, by omega⟩, (Eq.trans (Eq.symm (hs.trans ((spl_e ev_2 (spl_e ev_4 rfl))))) hsp)⟩

abbrev WkX3_does_2_2_2_f6_f3 : List (Nat × Nat × Option Nat) := [(36, 36, some 3), (38, 38, some 6)]
set_option maxHeartbeats 4000000 in
set_option maxRecDepth 100000 in
theorem kX3_does_2_2_2_f6_f3 (l : Launch) (D : va_G) (ca : Nat → ClassId) (za h : Nat → Nat) (hh : sgH 52 h) (f : sg_F) (L : sg_L) (Q : sg_Q) (hI : sgI loX hiX f) (x2 : Int32) (hf_36_3 : f 36 3 = 6) (hf_36_4 : f 36 4 = 3) (b2 : 1 ≤ x2.toInt ∧ x2.toInt ≤ 1) (p0 : 6 ≤ (f 36 3).toInt ∧ (f 36 3).toInt ≤ 6) (sz : Nat) : Met l yX3_does gwX3_does { frames := 1, cells := 0, slots := 0, locals := 24 } (sgP D vwCl (tyX ca) 52 h (eX ca h) zcX za f L Q sz [.ref (h 36), .int 2, .int 2, .int x2, .int 2]) (sgQi D vwCl 52 h (eX ca h) sz (fun r f1 L1 Q1 => ((sgI loX hiX f1 ∧ sgK WkX3_does_2_2_2_f6_f3 f f1 ∧ L1 = L ∧ Q1 = Q) ∧ True ∧ (7 ≤ (f1 36 3).toInt ∧ (f1 36 3).toInt ≤ 7) ∧ (r, f1) = sX3_does_2_2_2_f6_f3 x2 f L))) 0 0 (sgA 52 h sz) := by
  refine sg_ofWi (cc := cX3_does) (maxL := 7) RX3 (by decide) rfl rfl (Nat.le_of_ble_eq_true rfl) ?_
  intro p e s m below meth cd Qz ls hx hb hml hown hts hK hZ hP hS hl hret
  have hA := sgY.self (n := 52) (h := h) (sz := s.heap.size)
  have hl : lv_has ls 7 [(0, .ref (h 36)), (1, .int 2), (2, .int 2), (3, .int x2), (4, .int 2)] := hl
  obtain ⟨H, hH⟩ : ∃ z : Heap, z = s.heap := ⟨_, rfl⟩
  obtain ⟨locs, hlo⟩ : ∃ z : List Loc, z = [] := ⟨_, rfl⟩
  have hP : va_P D vwCl (sgw 52 h (eX ca h) f L Q) H := by rw [hH]; exact hP
  have hS : va_S (sgA 52 h s.heap.size) s.heap H locs := by rw [hH, hlo]; exact hS
  suffices hgo : W p l e ({ frames := 1, cells := 0, slots := 0, locals := 24 }) s m ([.ref (h 36), .int 2, .int 2, .int x2, .int 2] : List Value).toArray below meth cd H locs 0 0 Qz (F0 m 0 ls []) by rw [hH, hlo] at hgo; exact hgo
  clear hH hlo
  obtain ⟨sp, hsp⟩ : ∃ z : Int32 × sg_F, z = sX3_does_2_2_2_f6_f3 x2 f L := ⟨_, rfl⟩
  have hs : sp = sX3_does_2_2_2_f6_f3 x2 f L := hsp
  have o_1 : (f 36 3).toInt = 6 := (congrArg Int32.toInt (show f 36 3 = 6 from hf_36_3)).trans (by decide)
  have hF : sgK WkX3_does_2_2_2_f6_f3 f f := sgK.rf
  have blk_53 : ∀ (fp_53 : sg_F) (H : Heap) (locs : List Loc) (ls : Array Slot), sp = sX3_does_2_2_2_f6_f3_b53 x2 fp_53 L → 6 ≤ (fp_53 36 3).toInt ∧ (fp_53 36 3).toInt ≤ 6 → 3 ≤ (fp_53 36 4).toInt ∧ (fp_53 36 4).toInt ≤ 3 → sgI loX hiX fp_53 → sgK WkX3_does_2_2_2_f6_f3 f fp_53 → va_P D vwCl (sgw 52 h (eX ca h) fp_53 L Q) H → va_S (sgA 52 h s.heap.size) s.heap H locs → lv_has ls 7 [(0, .ref (h 36)), (3, .int x2), (4, .int 2), (5, .int 0), (6, .int 11)] → W p l e ({ frames := 1, cells := 0, slots := 0, locals := 24 }) s m ([.ref (h 36), .int 2, .int 2, .int x2, .int 2] : List Value).toArray below meth cd H locs 0 0 Qz (F0 m 53 ls []) := by
    intro fp_53 H locs ls hs hy0_53 hy1_53 hI hF hP hS hl
    obtain ⟨v_2, ev_2⟩ : ∃ z : Int32, z = fp_53 36 3 := ⟨_, rfl⟩
    have q_3 : 0 ≤ v_2.toInt ∧ v_2.toInt ≤ 19 := by rw [ev_2]; exact hI 36 3
    have q_4 : (fp_53 36 3).toInt = v_2.toInt := by rw [ev_2]
    obtain ⟨v_5, ev_5⟩ : ∃ z : Int32, z = fp_53 36 4 := ⟨_, rfl⟩
    have q_6 : 0 ≤ v_5.toInt ∧ v_5.toInt ≤ 7 := by rw [ev_5]; exact hI 36 4
    have q_7 : (fp_53 36 4).toInt = v_5.toInt := by rw [ev_5]
    have m_8 : fp_53 36 4 = 3 := (hF 36 4 (by decide)).trans hf_36_4
    refine lv_aload_n hx hb dX3_does_53 rfl (lv_at hl 0 rfl) ?_
    refine lv_dup hx hb dX3_does_54 rfl ?_
    refine sl_gX_36_3_3 (v := v_2) hx hb hts hown hK hP (show fp_53 36 3 = v_2 from ev_2.symm) dX3_does_55 ?_
    refine lv_iconst (v := 1) hx hb dX3_does_58 ic_1 ?_
    refine lv_iadd hx hb dX3_does_59 ?_
    refine lv_topi (fun v_9 ev_9 => ?_)
    have q_10 : v_9.toInt = v_2.toInt + 1 := by rw [ev_9]; first | exact cm_add ti_1 (by omega) (by omega) | (have k1 : (1 : Int32).toInt = 1 := ti_1; exact (bn_addI (by omega) (by omega)).trans (by omega))
    refine sl_pX_36_3_3 (x := v_9) hx hb hts hown hh hA hK hP hS dX3_does_60 (fun f_11 H locs ef_11 hP hS => ?_)
    have hI : sgI loX hiX f_11 := by rw [ef_11]; exact sgI.put hI 36 3 (show 0 ≤ (v_9 : Int32).toInt ∧ (v_9 : Int32).toInt ≤ 19 from ⟨by omega, by omega⟩)
    have hF : sgK WkX3_does_2_2_2_f6_f3 f f_11 := sgK.put hF ef_11 (by rfl)
    refine lv_aload_n hx hb dX3_does_63 rfl (lv_at hl 0 rfl) ?_
    refine lv_iload hx hb dX3_does_64 (lv_at hl 4 rfl) ?_
    refine sg_gets hx hb hZ 2 rfl hS hown (hts _ (List.mem_cons_of_mem _ mw_174)) (fun _ h9 => h9) dX3_does_66 ?_
    refine lv_iload hx hb dX3_does_69 (lv_at hl 3 rfl) ?_
    refine sg_sald hx hb hZ 2 rfl hS (y := 0) (N := 8) (vp_in_iff.mpr (by decide)) dX3_does_71 ?_
    refine W.eq (g2 := F0 m 72 ls [.int (-1), .int 11, .ref (h 36)]) (by rfl) ?_
    refine lv_iload_n hx hb dX3_does_72 rfl (lv_at hl 1 rfl) ?_
    refine lv_iload hx hb dX3_does_73 (lv_at hl 2 rfl) ?_
    refine lv_iconst (v := 1) hx hb dX3_does_75 ic_1 ?_
    refine lv_iadd hx hb dX3_does_76 ?_
    refine W.eq (g2 := F0 m 77 ls [.int 3, .int x2, .int (-1), .int 11, .ref (h 36)]) (by rw [show (2 + 1 : Int32) = 3 from by decide]) ?_
    have c_12 : v_9 = 7 := Int32.toInt_inj.mp (by have k9 : (7 : Int32).toInt = 7 := ti_7; omega)
    have q_13 : (f_11 36 3).toInt = 7 := (congrArg Int32.toInt (show f_11 36 3 = 7 from (Eq.trans (by rw [ef_11, sg_up_s, sgu_s]) c_12))).trans (by decide)
    refine sg_calli (va_runV (As := [.int 11, .int (-1), .int x2, .int 3]) (rest := []) ⟨hx, hb, hml, hown, hts⟩ (kX3_runs_11_m1_3_f7_f3 l D ca za h hh f_11 L Q hI x2 (Eq.trans (by rw [ef_11, sg_up_s, sgu_s]) c_12) (by rw [ef_11, sg_up_s, sgu_n (by decide)]; exact m_8) b2 (by have k0 : (11 : Int32).toInt = 11 := ti_11; have k1 : ((-1) : Int32).toInt = (-1) := ti_m1; have k3 : (3 : Int32).toInt = 3 := ti_3; omega) H.size) (sl_c3_runs_0_0_0_0_3 hts ⟨Nat.le_of_ble_eq_true rfl, Nat.le_of_ble_eq_true rfl⟩) (sl_vX_36 hA hK hP hS hZ) rfl rfl hl.1 rfl (lv_room (Nat.le_of_ble_eq_true rfl)) dX3_does_77 ⟨Nat.le_refl _, Nat.le_refl _⟩) hA hS (fun r_18 f_15 L_16 Q_17 H locs hq hP hS => ?_)
    obtain ⟨⟨ef9, eL9, eQ9⟩, hq, p_19, u_20⟩ := hq
    rw [ef9, eL9, eQ9] at hP; clear ef9 eL9 eQ9
    have k_23 : (11 : Int32).toInt = 11 := by decide
    have k_24 : ((-1) : Int32).toInt = (-1) := by decide
    have k_25 : (3 : Int32).toInt = 3 := by decide
    exact hret _ _ _ _ (r_18) f_11 L Q dX3_does_80 hP hS ⟨⟨hI, hF, rfl, rfl⟩, trivial, ⟨by omega, by omega⟩, (Eq.trans (Eq.symm (hs.trans ((spl_e ev_2 (spl_e ev_5 (spl_e ev_9 (spl_e ef_11 (spl_e u_20 rfl)))))))) hsp)⟩
  refine lv_iload_n hx hb dX3_does_0 rfl (lv_at hl 1 rfl) ?_
  refine lv_iload_n hx hb dX3_does_1 rfl (lv_at hl 2 rfl) ?_
  refine sg_calli (va_runS (As := [.int 2, .int 2]) (rest := []) ⟨hx, hb, hml, hown, hts⟩ (kX3_ownerOf_2_2 l D ca za h hh f L Q hI H.size) (va_cwS 2 hts (gw_S (fun _ h => List.mem_cons_of_mem _ h) mw_189 mw_190 mw_47 mw_188) rfl rfl rfl hd_yX3_ownerOf.2 ⟨Nat.le_of_ble_eq_true rfl, Nat.le_of_ble_eq_true rfl⟩) (sg_preS hA hK hP hS hZ) rfl rfl hl.1 rfl (lv_room (Nat.le_of_ble_eq_true rfl)) dX3_does_2 ⟨Nat.le_refl _, Nat.le_refl _⟩) hA hS (fun r_31 f_28 L_29 Q_30 H locs hq hP hS => ?_)
  obtain ⟨⟨ef9, eL9, eQ9⟩, hq, u_32⟩ := hq
  rw [ef9, eL9, eQ9] at hP; clear ef9 eL9 eQ9
  obtain rfl : r_31 = 0 := Int32.toInt_inj.mp (by have k9 : (0 : Int32).toInt = 0 := ti_0; omega)
  refine lv_istore (lv' := [(5, .int 0), (0, .ref (h 36)), (1, .int 2), (2, .int 2), (3, .int x2), (4, .int 2)]) hx hb dX3_does_5 hl (by decide) rfl (fun ls hl => ?_)
  refine lv_iload hx hb dX3_does_7 (lv_at hl 0 rfl) ?_
  refine lv_if_lt (tgt := 19) hx hb dX3_does_9 (by decide) (fun c => absurd c (by decide)) (fun c => ?_)
  refine lv_iload hx hb dX3_does_12 (lv_at hl 5 rfl) ?_
  refine lv_bipush (v := 40) hx hb dX3_does_14 bp_40 ?_
  refine lv_icmp_le (tgt := 21) hx hb dX3_does_16 (by decide) (fun c => ?_) (fun c => absurd c (by decide))
  refine sg_gets hx hb hZ 3 rfl hS hown (hts _ (List.mem_cons_of_mem _ mw_173)) (fun _ h9 => h9) dX3_does_21 ?_
  refine lv_iload hx hb dX3_does_24 (lv_at hl 0 rfl) ?_
  refine lv_iconst (v := 4) hx hb dX3_does_26 ic_4 ?_
  refine lv_imul hx hb dX3_does_27 ?_
  refine W.eq (g2 := F0 m 28 ls [.int 0, .ref (za 3)]) (by rw [show (0 * 4 : Int32) = 0 from by decide]) ?_
  refine lv_iload_n hx hb dX3_does_28 rfl (lv_at hl 3 rfl) ?_
  refine lv_iadd hx hb dX3_does_29 ?_
  refine W.eq (g2 := F0 m 30 ls [.int 2, .ref (za 3)]) (by rw [show (0 + 2 : Int32) = 2 from by decide]) ?_
  refine sg_sald hx hb hZ 3 rfl hS (y := 2) (N := 32) (vp_in_iff.mpr (by decide)) dX3_does_30 ?_
  refine W.eq (g2 := F0 m 31 ls [.int 11]) (by rfl) ?_
  refine lv_istore (lv' := [(6, .int 11), (5, .int 0), (0, .ref (h 36)), (1, .int 2), (2, .int 2), (3, .int x2), (4, .int 2)]) hx hb dX3_does_31 hl (by decide) rfl (fun ls hl => ?_)
  refine lv_aload_n hx hb dX3_does_33 rfl (lv_at hl 2 rfl) ?_
  refine sl_gX_36_3_3 (v := 6) hx hb hts hown hK hP (show f 36 3 = 6 from hf_36_3) dX3_does_34 ?_
  refine lv_bipush (v := 24) hx hb dX3_does_37 bp_24 ?_
  refine lv_icmp_ge (tgt := 53) hx hb dX3_does_39 (by decide) (fun c => absurd c (by decide)) (fun c => ?_)
  refine lv_aload_n hx hb dX3_does_42 rfl (lv_at hl 2 rfl) ?_
  refine sl_gX_36_1_3 hx hb hts hown hK hP dX3_does_43 ?_
  refine lv_aload_n hx hb dX3_does_46 rfl (lv_at hl 2 rfl) ?_
  refine sl_gX_36_3_3 (v := 6) hx hb hts hown hK hP (show f 36 3 = 6 from hf_36_3) dX3_does_47 ?_
  refine lv_iload hx hb dX3_does_50 (lv_at hl 0 rfl) ?_
  refine sg_iast hx hb hh hA hK hP hS 38 (by decide) 0 (fun _ => rfl) rfl (i := 6) (x := 11) (vp_in_iff.mpr (by decide)) dX3_does_52 (fun f_33 H locs ef_33 hP hS => ?_)
  have ef_33 : f_33 = sg_up f 38 (sgu (f 38) 6 11) := ef_33
  have hI : sgI loX hiX f_33 := by rw [ef_33]; exact sgI.put hI 38 6 (show 0 ≤ (11 : Int32).toInt ∧ (11 : Int32).toInt ≤ 81 from by decide)
  have hF : sgK WkX3_does_2_2_2_f6_f3 f f_33 := sgK.put hF ef_33 (by rfl)
  exact blk_53 f_33 _ _ _ (hs.trans ((spl_e u_32 (spl_e ef_33 rfl)))) (by have zz36_3 : (f_33 36 3).toInt = 6 := (congrArg Int32.toInt (show f_33 36 3 = 6 from (by rw [ef_33, sg_up_n (by decide)]; exact hf_36_3))).trans (by decide); exact ⟨by omega, by omega⟩) (by have zz36_4 : (f_33 36 4).toInt = 3 := (congrArg Int32.toInt (show f_33 36 4 = 3 from (by rw [ef_33, sg_up_n (by decide)]; exact hf_36_4))).trans (by decide); exact ⟨by omega, by omega⟩) hI hF hP hS (lv_sub hl [2, 5, 6, 1, 0] rfl)

abbrev WkX3_runs_40_2_2_f6_f3 : List (Nat × Nat × Option Nat) := [(36, 36, some 3), (38, 38, some 6)]
set_option maxHeartbeats 4000000 in
set_option maxRecDepth 100000 in
theorem kX3_runs_40_2_2_f6_f3 (l : Launch) (D : va_G) (ca : Nat → ClassId) (za h : Nat → Nat) (hh : sgH 52 h) (f : sg_F) (L : sg_L) (Q : sg_Q) (hI : sgI loX hiX f) (x2 : Int32) (hf_36_3 : f 36 3 = 6) (hf_36_4 : f 36 4 = 3) (b2 : 1 ≤ x2.toInt ∧ x2.toInt ≤ 1) (p0 : 6 ≤ (f 36 3).toInt ∧ (f 36 3).toInt ≤ 6) (sz : Nat) : Met l yX3_runs gwX3_runs { frames := 2, cells := 0, slots := 0, locals := 50 } (sgP D vwCl (tyX ca) 52 h (eX ca h) zcX za f L Q sz [.ref (h 36), .int 40, .int 2, .int x2, .int 2]) (sgQi D vwCl 52 h (eX ca h) sz (fun r f1 L1 Q1 => ((sgI loX hiX f1 ∧ sgK WkX3_runs_40_2_2_f6_f3 f f1 ∧ L1 = L ∧ Q1 = Q) ∧ True ∧ (7 ≤ (f1 36 3).toInt ∧ (f1 36 3).toInt ≤ 7) ∧ (r, f1) = sX3_runs_40_2_2_f6_f3 x2 f L))) 0 0 (sgA 52 h sz) := by
  refine sg_ofWi (cc := cX3_runs) (maxL := 5) RX3 (by decide) rfl rfl (Nat.le_of_ble_eq_true rfl) ?_
  intro p e s m below meth cd Qz ls hx hb hml hown hts hK hZ hP hS hl hret
  have hA := sgY.self (n := 52) (h := h) (sz := s.heap.size)
  have hl : lv_has ls 5 [(0, .ref (h 36)), (1, .int 40), (2, .int 2), (3, .int x2), (4, .int 2)] := hl
  obtain ⟨H, hH⟩ : ∃ z : Heap, z = s.heap := ⟨_, rfl⟩
  obtain ⟨locs, hlo⟩ : ∃ z : List Loc, z = [] := ⟨_, rfl⟩
  have hP : va_P D vwCl (sgw 52 h (eX ca h) f L Q) H := by rw [hH]; exact hP
  have hS : va_S (sgA 52 h s.heap.size) s.heap H locs := by rw [hH, hlo]; exact hS
  suffices hgo : W p l e ({ frames := 2, cells := 0, slots := 0, locals := 50 }) s m ([.ref (h 36), .int 40, .int 2, .int x2, .int 2] : List Value).toArray below meth cd H locs 0 0 Qz (F0 m 0 ls []) by rw [hH, hlo] at hgo; exact hgo
  clear hH hlo
  obtain ⟨sp, hsp⟩ : ∃ z : Int32 × sg_F, z = sX3_runs_40_2_2_f6_f3 x2 f L := ⟨_, rfl⟩
  have hs : sp = sX3_runs_40_2_2_f6_f3 x2 f L := hsp
  have o_1 : (f 36 3).toInt = 6 := (congrArg Int32.toInt (show f 36 3 = 6 from hf_36_3)).trans (by decide)
  have hF : sgK WkX3_runs_40_2_2_f6_f3 f f := sgK.rf
  refine lv_iload_n hx hb dX3_runs_0 rfl (lv_at hl 1 rfl) ?_
  refine lv_lookup (x := 40) (off := 193) (tgt := 194) hx hb dX3_runs_1 (by decide) (by decide) (by decide) ?_
  refine lv_aload_n hx hb dX3_runs_194 rfl (lv_at hl 0 rfl) ?_
  refine lv_iload_n hx hb dX3_runs_195 rfl (lv_at hl 2 rfl) ?_
  refine lv_iconst (v := 2) hx hb dX3_runs_196 ic_2 ?_
  refine lv_iload_n hx hb dX3_runs_197 rfl (lv_at hl 3 rfl) ?_
  refine lv_iload hx hb dX3_runs_198 (lv_at hl 4 rfl) ?_
  have q_2 : (f 36 3).toInt = 6 := (congrArg Int32.toInt (show f 36 3 = 6 from hf_36_3)).trans (by decide)
  refine sg_calli (va_runV (As := [.int 2, .int 2, .int x2, .int 2]) (rest := []) ⟨hx, hb, hml, hown, hts⟩ (kX3_does_2_2_2_f6_f3 l D ca za h hh f L Q hI x2 hf_36_3 hf_36_4 b2 (by have k0 : (2 : Int32).toInt = 2 := ti_2; have k1 : (2 : Int32).toInt = 2 := ti_2; have k3 : (2 : Int32).toInt = 2 := ti_2; omega) H.size) (sl_c3_does_1_0_0_24_3 hts ⟨Nat.le_of_ble_eq_true rfl, Nat.le_of_ble_eq_true rfl⟩) (sl_vX_36 hA hK hP hS hZ) rfl rfl hl.1 rfl (lv_room (Nat.le_of_ble_eq_true rfl)) dX3_runs_200 ⟨Nat.le_refl _, Nat.le_refl _⟩) hA hS (fun r_7 f_4 L_5 Q_6 H locs hq hP hS => ?_)
  obtain ⟨⟨hI, hk_f_4, eL9, eQ9⟩, hq, p_8, u_9⟩ := hq
  rw [eL9, eQ9] at hP; clear eL9 eQ9
  have hF : sgK WkX3_runs_40_2_2_f6_f3 f f_4 := sgK.tr hF hk_f_4 (by decide +kernel)
  obtain ⟨v_10, ev_10⟩ : ∃ z : Int32, z = f_4 36 3 := ⟨_, rfl⟩
  have q_11 : 0 ≤ v_10.toInt ∧ v_10.toInt ≤ 19 := by rw [ev_10]; exact hI 36 3
  have q_12 : (f_4 36 3).toInt = v_10.toInt := (congrArg Int32.toInt (show f_4 36 3 = v_10 from ev_10.symm))
  have k_14 : (2 : Int32).toInt = 2 := by decide
  have k_15 : (2 : Int32).toInt = 2 := by decide
  have k_16 : (2 : Int32).toInt = 2 := by decide
  refine lv_iconst (v := 3) hx hb dX3_runs_203 ic_3 ?_
  refine lv_imul hx hb dX3_runs_204 ?_
  refine lv_topi (fun v_17 ev_17 => ?_)
  exact hret _ _ _ _ (v_17) f_4 L Q dX3_runs_205 hP hS ⟨⟨hI, hF, rfl, rfl⟩, trivial, ⟨by omega, by omega⟩, (Eq.trans (Eq.symm (hs.trans ((spl2_e u_9 (spl_e ev_10 (spl_e ev_17 rfl)))))) hsp)⟩

abbrev WkX3_does_3_2_1_f5_f3 : List (Nat × Nat × Option Nat) := [(36, 36, some 3), (38, 38, some 5), (38, 38, some 6)]
set_option maxHeartbeats 4000000 in
set_option maxRecDepth 100000 in
theorem kX3_does_3_2_1_f5_f3 (l : Launch) (D : va_G) (ca : Nat → ClassId) (za h : Nat → Nat) (hh : sgH 52 h) (f : sg_F) (L : sg_L) (Q : sg_Q) (hI : sgI loX hiX f) (x2 : Int32) (hf_36_3 : f 36 3 = 5) (hf_36_4 : f 36 4 = 3) (b2 : 1 ≤ x2.toInt ∧ x2.toInt ≤ 1) (p0 : 5 ≤ (f 36 3).toInt ∧ (f 36 3).toInt ≤ 5) (sz : Nat) : Met l yX3_does gwX3_does { frames := 3, cells := 0, slots := 0, locals := 74 } (sgP D vwCl (tyX ca) 52 h (eX ca h) zcX za f L Q sz [.ref (h 36), .int 3, .int 2, .int x2, .int 1]) (sgQi D vwCl 52 h (eX ca h) sz (fun r f1 L1 Q1 => ((sgI loX hiX f1 ∧ sgK WkX3_does_3_2_1_f5_f3 f f1 ∧ L1 = L ∧ Q1 = Q) ∧ True ∧ (7 ≤ (f1 36 3).toInt ∧ (f1 36 3).toInt ≤ 7) ∧ (r, f1) = sX3_does_3_2_1_f5_f3 x2 f L))) 0 0 (sgA 52 h sz) := by
  refine sg_ofWi (cc := cX3_does) (maxL := 7) RX3 (by decide) rfl rfl (Nat.le_of_ble_eq_true rfl) ?_
  intro p e s m below meth cd Qz ls hx hb hml hown hts hK hZ hP hS hl hret
  have hA := sgY.self (n := 52) (h := h) (sz := s.heap.size)
  have hl : lv_has ls 7 [(0, .ref (h 36)), (1, .int 3), (2, .int 2), (3, .int x2), (4, .int 1)] := hl
  obtain ⟨H, hH⟩ : ∃ z : Heap, z = s.heap := ⟨_, rfl⟩
  obtain ⟨locs, hlo⟩ : ∃ z : List Loc, z = [] := ⟨_, rfl⟩
  have hP : va_P D vwCl (sgw 52 h (eX ca h) f L Q) H := by rw [hH]; exact hP
  have hS : va_S (sgA 52 h s.heap.size) s.heap H locs := by rw [hH, hlo]; exact hS
  suffices hgo : W p l e ({ frames := 3, cells := 0, slots := 0, locals := 74 }) s m ([.ref (h 36), .int 3, .int 2, .int x2, .int 1] : List Value).toArray below meth cd H locs 0 0 Qz (F0 m 0 ls []) by rw [hH, hlo] at hgo; exact hgo
  clear hH hlo
  obtain ⟨sp, hsp⟩ : ∃ z : Int32 × sg_F, z = sX3_does_3_2_1_f5_f3 x2 f L := ⟨_, rfl⟩
  have hs : sp = sX3_does_3_2_1_f5_f3 x2 f L := hsp
  have o_1 : (f 36 3).toInt = 5 := (congrArg Int32.toInt (show f 36 3 = 5 from hf_36_3)).trans (by decide)
  have hF : sgK WkX3_does_3_2_1_f5_f3 f f := sgK.rf
  have blk_53 : ∀ (fp_53 : sg_F) (H : Heap) (locs : List Loc) (ls : Array Slot), sp = sX3_does_3_2_1_f5_f3_b53 x2 fp_53 L → 5 ≤ (fp_53 36 3).toInt ∧ (fp_53 36 3).toInt ≤ 5 → 3 ≤ (fp_53 36 4).toInt ∧ (fp_53 36 4).toInt ≤ 3 → sgI loX hiX fp_53 → sgK WkX3_does_3_2_1_f5_f3 f fp_53 → va_P D vwCl (sgw 52 h (eX ca h) fp_53 L Q) H → va_S (sgA 52 h s.heap.size) s.heap H locs → lv_has ls 7 [(0, .ref (h 36)), (3, .int x2), (4, .int 1), (5, .int 3), (6, .int 40)] → W p l e ({ frames := 3, cells := 0, slots := 0, locals := 74 }) s m ([.ref (h 36), .int 3, .int 2, .int x2, .int 1] : List Value).toArray below meth cd H locs 0 0 Qz (F0 m 53 ls []) := by
    intro fp_53 H locs ls hs hy0_53 hy1_53 hI hF hP hS hl
    obtain ⟨v_2, ev_2⟩ : ∃ z : Int32, z = fp_53 36 3 := ⟨_, rfl⟩
    have q_3 : 0 ≤ v_2.toInt ∧ v_2.toInt ≤ 19 := by rw [ev_2]; exact hI 36 3
    have q_4 : (fp_53 36 3).toInt = v_2.toInt := by rw [ev_2]
    obtain ⟨v_5, ev_5⟩ : ∃ z : Int32, z = fp_53 36 4 := ⟨_, rfl⟩
    have q_6 : 0 ≤ v_5.toInt ∧ v_5.toInt ≤ 7 := by rw [ev_5]; exact hI 36 4
    have q_7 : (fp_53 36 4).toInt = v_5.toInt := by rw [ev_5]
    have m_8 : fp_53 36 4 = 3 := (hF 36 4 (by decide)).trans hf_36_4
    refine lv_aload_n hx hb dX3_does_53 rfl (lv_at hl 0 rfl) ?_
    refine lv_dup hx hb dX3_does_54 rfl ?_
    refine sl_gX_36_3_3 (v := v_2) hx hb hts hown hK hP (show fp_53 36 3 = v_2 from ev_2.symm) dX3_does_55 ?_
    refine lv_iconst (v := 1) hx hb dX3_does_58 ic_1 ?_
    refine lv_iadd hx hb dX3_does_59 ?_
    refine lv_topi (fun v_9 ev_9 => ?_)
    have q_10 : v_9.toInt = v_2.toInt + 1 := by rw [ev_9]; first | exact cm_add ti_1 (by omega) (by omega) | (have k1 : (1 : Int32).toInt = 1 := ti_1; exact (bn_addI (by omega) (by omega)).trans (by omega))
    refine sl_pX_36_3_3 (x := v_9) hx hb hts hown hh hA hK hP hS dX3_does_60 (fun f_11 H locs ef_11 hP hS => ?_)
    have hI : sgI loX hiX f_11 := by rw [ef_11]; exact sgI.put hI 36 3 (show 0 ≤ (v_9 : Int32).toInt ∧ (v_9 : Int32).toInt ≤ 19 from ⟨by omega, by omega⟩)
    have hF : sgK WkX3_does_3_2_1_f5_f3 f f_11 := sgK.put hF ef_11 (by rfl)
    refine lv_aload_n hx hb dX3_does_63 rfl (lv_at hl 0 rfl) ?_
    refine lv_iload hx hb dX3_does_64 (lv_at hl 4 rfl) ?_
    refine sg_gets hx hb hZ 2 rfl hS hown (hts _ (List.mem_cons_of_mem _ mw_174)) (fun _ h9 => h9) dX3_does_66 ?_
    refine lv_iload hx hb dX3_does_69 (lv_at hl 3 rfl) ?_
    refine sg_sald hx hb hZ 2 rfl hS (y := 3) (N := 8) (vp_in_iff.mpr (by decide)) dX3_does_71 ?_
    refine W.eq (g2 := F0 m 72 ls [.int 2, .int 40, .ref (h 36)]) (by rfl) ?_
    refine lv_iload_n hx hb dX3_does_72 rfl (lv_at hl 1 rfl) ?_
    refine lv_iload hx hb dX3_does_73 (lv_at hl 2 rfl) ?_
    refine lv_iconst (v := 1) hx hb dX3_does_75 ic_1 ?_
    refine lv_iadd hx hb dX3_does_76 ?_
    refine W.eq (g2 := F0 m 77 ls [.int 2, .int x2, .int 2, .int 40, .ref (h 36)]) (by rw [show (1 + 1 : Int32) = 2 from by decide]) ?_
    have c_12 : v_9 = 6 := Int32.toInt_inj.mp (by have k9 : (6 : Int32).toInt = 6 := ti_6; omega)
    have q_13 : (f_11 36 3).toInt = 6 := (congrArg Int32.toInt (show f_11 36 3 = 6 from (Eq.trans (by rw [ef_11, sg_up_s, sgu_s]) c_12))).trans (by decide)
    refine sg_calli (va_runV (As := [.int 40, .int 2, .int x2, .int 2]) (rest := []) ⟨hx, hb, hml, hown, hts⟩ (kX3_runs_40_2_2_f6_f3 l D ca za h hh f_11 L Q hI x2 (Eq.trans (by rw [ef_11, sg_up_s, sgu_s]) c_12) (by rw [ef_11, sg_up_s, sgu_n (by decide)]; exact m_8) b2 (by have k0 : (40 : Int32).toInt = 40 := ti_40; have k1 : (2 : Int32).toInt = 2 := ti_2; have k3 : (2 : Int32).toInt = 2 := ti_2; omega) H.size) (sl_c3_runs_2_0_0_50_3 hts ⟨Nat.le_of_ble_eq_true rfl, Nat.le_of_ble_eq_true rfl⟩) (sl_vX_36 hA hK hP hS hZ) rfl rfl hl.1 rfl (lv_room (Nat.le_of_ble_eq_true rfl)) dX3_does_77 ⟨Nat.le_refl _, Nat.le_refl _⟩) hA hS (fun r_18 f_15 L_16 Q_17 H locs hq hP hS => ?_)
    obtain ⟨⟨hI, hk_f_15, eL9, eQ9⟩, hq, p_19, u_20⟩ := hq
    rw [eL9, eQ9] at hP; clear eL9 eQ9
    have hF : sgK WkX3_does_3_2_1_f5_f3 f f_15 := sgK.tr hF hk_f_15 (by decide +kernel)
    obtain ⟨v_21, ev_21⟩ : ∃ z : Int32, z = f_15 36 3 := ⟨_, rfl⟩
    have q_22 : 0 ≤ v_21.toInt ∧ v_21.toInt ≤ 19 := by rw [ev_21]; exact hI 36 3
    have q_23 : (f_15 36 3).toInt = v_21.toInt := (congrArg Int32.toInt (show f_15 36 3 = v_21 from ev_21.symm))
    have k_25 : (40 : Int32).toInt = 40 := by decide
    have k_26 : (2 : Int32).toInt = 2 := by decide
    have k_27 : (2 : Int32).toInt = 2 := by decide
    exact hret _ _ _ _ (r_18) f_15 L Q dX3_does_80 hP hS ⟨⟨hI, hF, rfl, rfl⟩, trivial, ⟨by omega, by omega⟩, (Eq.trans (Eq.symm (hs.trans ((spl_e ev_2 (spl_e ev_5 (spl_e ev_9 (spl_e ef_11 (spl2_e u_20 (spl_e ev_21 rfl))))))))) hsp)⟩
  refine lv_iload_n hx hb dX3_does_0 rfl (lv_at hl 1 rfl) ?_
  refine lv_iload_n hx hb dX3_does_1 rfl (lv_at hl 2 rfl) ?_
  refine sg_calli (va_runS (As := [.int 3, .int 2]) (rest := []) ⟨hx, hb, hml, hown, hts⟩ (kX3_ownerOf_3_2 l D ca za h hh f L Q hI H.size) (va_cwS 2 hts (gw_S (fun _ h => List.mem_cons_of_mem _ h) mw_189 mw_190 mw_47 mw_188) rfl rfl rfl hd_yX3_ownerOf.2 ⟨Nat.le_of_ble_eq_true rfl, Nat.le_of_ble_eq_true rfl⟩) (sg_preS hA hK hP hS hZ) rfl rfl hl.1 rfl (lv_room (Nat.le_of_ble_eq_true rfl)) dX3_does_2 ⟨Nat.le_refl _, Nat.le_refl _⟩) hA hS (fun r_33 f_30 L_31 Q_32 H locs hq hP hS => ?_)
  obtain ⟨⟨ef9, eL9, eQ9⟩, hq, u_34⟩ := hq
  rw [ef9, eL9, eQ9] at hP; clear ef9 eL9 eQ9
  obtain rfl : r_33 = 3 := Int32.toInt_inj.mp (by have k9 : (3 : Int32).toInt = 3 := ti_3; omega)
  refine lv_istore (lv' := [(5, .int 3), (0, .ref (h 36)), (1, .int 3), (2, .int 2), (3, .int x2), (4, .int 1)]) hx hb dX3_does_5 hl (by decide) rfl (fun ls hl => ?_)
  refine lv_iload hx hb dX3_does_7 (lv_at hl 0 rfl) ?_
  refine lv_if_lt (tgt := 19) hx hb dX3_does_9 (by decide) (fun c => absurd c (by decide)) (fun c => ?_)
  refine lv_iload hx hb dX3_does_12 (lv_at hl 5 rfl) ?_
  refine lv_bipush (v := 40) hx hb dX3_does_14 bp_40 ?_
  refine lv_icmp_le (tgt := 21) hx hb dX3_does_16 (by decide) (fun c => ?_) (fun c => absurd c (by decide))
  refine sg_gets hx hb hZ 3 rfl hS hown (hts _ (List.mem_cons_of_mem _ mw_173)) (fun _ h9 => h9) dX3_does_21 ?_
  refine lv_iload hx hb dX3_does_24 (lv_at hl 0 rfl) ?_
  refine lv_iconst (v := 4) hx hb dX3_does_26 ic_4 ?_
  refine lv_imul hx hb dX3_does_27 ?_
  refine W.eq (g2 := F0 m 28 ls [.int 12, .ref (za 3)]) (by rw [show (3 * 4 : Int32) = 12 from by decide]) ?_
  refine lv_iload_n hx hb dX3_does_28 rfl (lv_at hl 3 rfl) ?_
  refine lv_iadd hx hb dX3_does_29 ?_
  refine W.eq (g2 := F0 m 30 ls [.int 14, .ref (za 3)]) (by rw [show (12 + 2 : Int32) = 14 from by decide]) ?_
  refine sg_sald hx hb hZ 3 rfl hS (y := 14) (N := 32) (vp_in_iff.mpr (by decide)) dX3_does_30 ?_
  refine W.eq (g2 := F0 m 31 ls [.int 40]) (by rfl) ?_
  refine lv_istore (lv' := [(6, .int 40), (5, .int 3), (0, .ref (h 36)), (1, .int 3), (2, .int 2), (3, .int x2), (4, .int 1)]) hx hb dX3_does_31 hl (by decide) rfl (fun ls hl => ?_)
  refine lv_aload_n hx hb dX3_does_33 rfl (lv_at hl 2 rfl) ?_
  refine sl_gX_36_3_3 (v := 5) hx hb hts hown hK hP (show f 36 3 = 5 from hf_36_3) dX3_does_34 ?_
  refine lv_bipush (v := 24) hx hb dX3_does_37 bp_24 ?_
  refine lv_icmp_ge (tgt := 53) hx hb dX3_does_39 (by decide) (fun c => absurd c (by decide)) (fun c => ?_)
  refine lv_aload_n hx hb dX3_does_42 rfl (lv_at hl 2 rfl) ?_
  refine sl_gX_36_1_3 hx hb hts hown hK hP dX3_does_43 ?_
  refine lv_aload_n hx hb dX3_does_46 rfl (lv_at hl 2 rfl) ?_
  refine sl_gX_36_3_3 (v := 5) hx hb hts hown hK hP (show f 36 3 = 5 from hf_36_3) dX3_does_47 ?_
  refine lv_iload hx hb dX3_does_50 (lv_at hl 0 rfl) ?_
  refine sg_iast hx hb hh hA hK hP hS 38 (by decide) 0 (fun _ => rfl) rfl (i := 5) (x := 40) (vp_in_iff.mpr (by decide)) dX3_does_52 (fun f_35 H locs ef_35 hP hS => ?_)
  have ef_35 : f_35 = sg_up f 38 (sgu (f 38) 5 40) := ef_35
  have hI : sgI loX hiX f_35 := by rw [ef_35]; exact sgI.put hI 38 5 (show 0 ≤ (40 : Int32).toInt ∧ (40 : Int32).toInt ≤ 81 from by decide)
  have hF : sgK WkX3_does_3_2_1_f5_f3 f f_35 := sgK.put hF ef_35 (by rfl)
  exact blk_53 f_35 _ _ _ (hs.trans ((spl_e u_34 (spl_e ef_35 rfl)))) (by have zz36_3 : (f_35 36 3).toInt = 5 := (congrArg Int32.toInt (show f_35 36 3 = 5 from (by rw [ef_35, sg_up_n (by decide)]; exact hf_36_3))).trans (by decide); exact ⟨by omega, by omega⟩) (by have zz36_4 : (f_35 36 4).toInt = 3 := (congrArg Int32.toInt (show f_35 36 4 = 3 from (by rw [ef_35, sg_up_n (by decide)]; exact hf_36_4))).trans (by decide); exact ⟨by omega, by omega⟩) hI hF hP hS (lv_sub hl [2, 5, 6, 1, 0] rfl)

abbrev WkX3_runs_2_m1_1_f1_f3 : List (Nat × Nat × Option Nat) := [(36, 36, some 3), (38, 38, some 1), (38, 38, some 2), (38, 38, some 3), (38, 38, some 4), (38, 38, some 5), (38, 38, some 6)]
set_option maxHeartbeats 4000000 in
set_option maxRecDepth 100000 in
theorem kX3_runs_2_m1_1_f1_f3 (l : Launch) (D : va_G) (ca : Nat → ClassId) (za h : Nat → Nat) (hh : sgH 52 h) (f : sg_F) (L : sg_L) (Q : sg_Q) (hI : sgI loX hiX f) (x2 : Int32) (hf_36_3 : f 36 3 = 1) (hf_36_4 : f 36 4 = 3) (p0 : 1 ≤ (f 36 3).toInt ∧ (f 36 3).toInt ≤ 1) (sz : Nat) : Met l yX3_runs gwX3_runs { frames := 8, cells := 0, slots := 0, locals := 200 } (sgP D vwCl (tyX ca) 52 h (eX ca h) zcX za f L Q sz [.ref (h 36), .int 2, .int (-1), .int x2, .int 1]) (sgQi D vwCl 52 h (eX ca h) sz (fun r f1 L1 Q1 => ((sgI loX hiX f1 ∧ sgK WkX3_runs_2_m1_1_f1_f3 f f1 ∧ L1 = L ∧ Q1 = Q) ∧ True ∧ (7 ≤ (f1 36 3).toInt ∧ (f1 36 3).toInt ≤ 7) ∧ (r, f1) = sX3_runs_2_m1_1_f1_f3 x2 f L))) 0 0 (sgA 52 h sz) := by
  refine sg_ofWi (cc := cX3_runs) (maxL := 5) RX3 (by decide) rfl rfl (Nat.le_of_ble_eq_true rfl) ?_
  intro p e s m below meth cd Qz ls hx hb hml hown hts hK hZ hP hS hl hret
  have hA := sgY.self (n := 52) (h := h) (sz := s.heap.size)
  have hl : lv_has ls 5 [(0, .ref (h 36)), (1, .int 2), (2, .int (-1)), (3, .int x2), (4, .int 1)] := hl
  obtain ⟨H, hH⟩ : ∃ z : Heap, z = s.heap := ⟨_, rfl⟩
  obtain ⟨locs, hlo⟩ : ∃ z : List Loc, z = [] := ⟨_, rfl⟩
  have hP : va_P D vwCl (sgw 52 h (eX ca h) f L Q) H := by rw [hH]; exact hP
  have hS : va_S (sgA 52 h s.heap.size) s.heap H locs := by rw [hH, hlo]; exact hS
  suffices hgo : W p l e ({ frames := 8, cells := 0, slots := 0, locals := 200 }) s m ([.ref (h 36), .int 2, .int (-1), .int x2, .int 1] : List Value).toArray below meth cd H locs 0 0 Qz (F0 m 0 ls []) by rw [hH, hlo] at hgo; exact hgo
  clear hH hlo
  obtain ⟨sp, hsp⟩ : ∃ z : Int32 × sg_F, z = sX3_runs_2_m1_1_f1_f3 x2 f L := ⟨_, rfl⟩
  have hs : sp = sX3_runs_2_m1_1_f1_f3 x2 f L := hsp
  have o_1 : (f 36 3).toInt = 1 := (congrArg Int32.toInt (show f 36 3 = 1 from hf_36_3)).trans (by decide)
  have hF : sgK WkX3_runs_2_m1_1_f1_f3 f f := sgK.rf
  refine lv_iload_n hx hb dX3_runs_0 rfl (lv_at hl 1 rfl) ?_
  refine lv_lookup (x := 2) (off := 122) (tgt := 123) hx hb dX3_runs_1 (by decide) (by decide) (by decide) ?_
  refine lv_aload_n hx hb dX3_runs_123 rfl (lv_at hl 0 rfl) ?_
  refine lv_aload_n hx hb dX3_runs_124 rfl (lv_at hl 0 rfl) ?_
  refine sl_gX_36_4_3 (v := 3) hx hb hts hown hK hP (show f 36 4 = 3 from hf_36_4) dX3_runs_125 ?_
  refine lv_iconst (v := 1) hx hb dX3_runs_128 ic_1 ?_
  refine lv_iload_n hx hb dX3_runs_129 rfl (lv_at hl 3 rfl) ?_
  refine lv_iload hx hb dX3_runs_130 (lv_at hl 4 rfl) ?_
  have q_2 : (f 36 3).toInt = 1 := (congrArg Int32.toInt (show f 36 3 = 1 from hf_36_3)).trans (by decide)
  refine sg_calli (va_runV (As := [.int 3, .int 1, .int x2, .int 1]) (rest := []) ⟨hx, hb, hml, hown, hts⟩ (kX3_does_3_1_1_f1_f3 l D ca za h hh f L Q hI x2 hf_36_3 hf_36_4 (by have k0 : (3 : Int32).toInt = 3 := ti_3; have k1 : (1 : Int32).toInt = 1 := ti_1; have k3 : (1 : Int32).toInt = 1 := ti_1; omega) H.size) (sl_c3_does_7_0_0_174_3 hts ⟨Nat.le_of_ble_eq_true rfl, Nat.le_of_ble_eq_true rfl⟩) (sl_vX_36 hA hK hP hS hZ) rfl rfl hl.1 rfl (lv_room (Nat.le_of_ble_eq_true rfl)) dX3_runs_132 ⟨Nat.le_refl _, Nat.le_refl _⟩) hA hS (fun r_7 f_4 L_5 Q_6 H locs hq hP hS => ?_)
  obtain ⟨⟨hI, hk_f_4, eL9, eQ9⟩, hq, p_8, u_9⟩ := hq
  rw [eL9, eQ9] at hP; clear eL9 eQ9
  have hF : sgK WkX3_runs_2_m1_1_f1_f3 f f_4 := sgK.tr hF hk_f_4 (by decide +kernel)
  obtain ⟨v_10, ev_10⟩ : ∃ z : Int32, z = f_4 36 3 := ⟨_, rfl⟩
  have q_11 : 0 ≤ v_10.toInt ∧ v_10.toInt ≤ 19 := by rw [ev_10]; exact hI 36 3
  have q_12 : (f_4 36 3).toInt = v_10.toInt := (congrArg Int32.toInt (show f_4 36 3 = v_10 from ev_10.symm))
  have k_14 : (3 : Int32).toInt = 3 := by decide
  have k_15 : (1 : Int32).toInt = 1 := by decide
  have k_16 : (1 : Int32).toInt = 1 := by decide
  refine lv_aload_n hx hb dX3_runs_135 rfl (lv_at hl 0 rfl) ?_
  refine lv_aload_n hx hb dX3_runs_136 rfl (lv_at hl 0 rfl) ?_
  refine sl_gX_36_4_3 (v := 3) hx hb hts hown hK hP (show f_4 36 4 = 3 from ((hk_f_4 36 4 (by decide)).trans hf_36_4)) dX3_runs_137 ?_
  refine lv_iconst (v := 2) hx hb dX3_runs_140 ic_2 ?_
  refine lv_iconst (v := 1) hx hb dX3_runs_141 ic_1 ?_
  refine lv_iload hx hb dX3_runs_142 (lv_at hl 4 rfl) ?_
  have c_17 : v_10 = 5 := Int32.toInt_inj.mp (by have k9 : (5 : Int32).toInt = 5 := ti_5; omega)
  have q_18 : (f_4 36 3).toInt = 5 := (congrArg Int32.toInt (show f_4 36 3 = 5 from (Eq.trans ev_10.symm c_17))).trans (by decide)
  refine sg_calli (va_runV (As := [.int 3, .int 2, .int 1, .int 1]) (rest := [.int r_7]) ⟨hx, hb, hml, hown, hts⟩ (kX3_does_3_2_1_f5_f3 l D ca za h hh f_4 L Q hI 1 (Eq.trans ev_10.symm c_17) ((hk_f_4 36 4 (by decide)).trans hf_36_4) (by decide) (by have k0 : (3 : Int32).toInt = 3 := ti_3; have k1 : (2 : Int32).toInt = 2 := ti_2; have k2 : (1 : Int32).toInt = 1 := ti_1; have k3 : (1 : Int32).toInt = 1 := ti_1; omega) H.size) (sl_c3_does_3_0_0_74_3 hts ⟨Nat.le_of_ble_eq_true rfl, Nat.le_of_ble_eq_true rfl⟩) (sl_vX_36 hA hK hP hS hZ) rfl rfl hl.1 rfl (lv_room (Nat.le_of_ble_eq_true rfl)) dX3_runs_144 ⟨Nat.le_refl _, Nat.le_refl _⟩) hA hS (fun r_23 f_20 L_21 Q_22 H locs hq hP hS => ?_)
  obtain ⟨⟨hI, hk_f_20, eL9, eQ9⟩, hq, p_24, u_25⟩ := hq
  rw [eL9, eQ9] at hP; clear eL9 eQ9
  have hF : sgK WkX3_runs_2_m1_1_f1_f3 f f_20 := sgK.tr hF hk_f_20 (by decide +kernel)
  obtain ⟨v_26, ev_26⟩ : ∃ z : Int32, z = f_20 36 3 := ⟨_, rfl⟩
  have q_27 : 0 ≤ v_26.toInt ∧ v_26.toInt ≤ 19 := by rw [ev_26]; exact hI 36 3
  have q_28 : (f_20 36 3).toInt = v_26.toInt := (congrArg Int32.toInt (show f_20 36 3 = v_26 from ev_26.symm))
  have k_30 : (3 : Int32).toInt = 3 := by decide
  have k_31 : (2 : Int32).toInt = 2 := by decide
  have k_32 : (1 : Int32).toInt = 1 := by decide
  have k_33 : (1 : Int32).toInt = 1 := by decide
  refine lv_isub hx hb dX3_runs_147 ?_
  refine lv_topi (fun v_34 ev_34 => ?_)
  exact hret _ _ _ _ (v_34) f_20 L Q dX3_runs_148 hP hS ⟨⟨hI, hF, rfl, rfl⟩, trivial, ⟨by omega, by omega⟩, (Eq.trans (Eq.symm (hs.trans ((spl2_e u_9 (spl_e ev_10 (spl2_e u_25 (spl_e ev_26 (spl_e ev_34 rfl)))))))) hsp)⟩

abbrev WkX3_does_3_3_0_f0_f3 : List (Nat × Nat × Option Nat) := [(36, 36, some 3), (38, 38, some 0), (38, 38, some 1), (38, 38, some 2), (38, 38, some 3), (38, 38, some 4), (38, 38, some 5), (38, 38, some 6)]
set_option maxHeartbeats 4000000 in
set_option maxRecDepth 100000 in
theorem kX3_does_3_3_0_f0_f3 (l : Launch) (D : va_G) (ca : Nat → ClassId) (za h : Nat → Nat) (hh : sgH 52 h) (f : sg_F) (L : sg_L) (Q : sg_Q) (hI : sgI loX hiX f) (x2 : Int32) (hf_36_3 : f 36 3 = 0) (hf_36_4 : f 36 4 = 3) (p0 : 0 ≤ (f 36 3).toInt ∧ (f 36 3).toInt ≤ 0) (sz : Nat) : Met l yX3_does gwX3_does { frames := 9, cells := 0, slots := 0, locals := 224 } (sgP D vwCl (tyX ca) 52 h (eX ca h) zcX za f L Q sz [.ref (h 36), .int 3, .int 3, .int x2, .int 0]) (sgQi D vwCl 52 h (eX ca h) sz (fun r f1 L1 Q1 => ((sgI loX hiX f1 ∧ sgK WkX3_does_3_3_0_f0_f3 f f1 ∧ L1 = L ∧ Q1 = Q) ∧ True ∧ (7 ≤ (f1 36 3).toInt ∧ (f1 36 3).toInt ≤ 7) ∧ (r, f1) = sX3_does_3_3_0_f0_f3 x2 f L))) 0 0 (sgA 52 h sz) := by
  refine sg_ofWi (cc := cX3_does) (maxL := 7) RX3 (by decide) rfl rfl (Nat.le_of_ble_eq_true rfl) ?_
  intro p e s m below meth cd Qz ls hx hb hml hown hts hK hZ hP hS hl hret
  have hA := sgY.self (n := 52) (h := h) (sz := s.heap.size)
  have hl : lv_has ls 7 [(0, .ref (h 36)), (1, .int 3), (2, .int 3), (3, .int x2), (4, .int 0)] := hl
  obtain ⟨H, hH⟩ : ∃ z : Heap, z = s.heap := ⟨_, rfl⟩
  obtain ⟨locs, hlo⟩ : ∃ z : List Loc, z = [] := ⟨_, rfl⟩
  have hP : va_P D vwCl (sgw 52 h (eX ca h) f L Q) H := by rw [hH]; exact hP
  have hS : va_S (sgA 52 h s.heap.size) s.heap H locs := by rw [hH, hlo]; exact hS
  suffices hgo : W p l e ({ frames := 9, cells := 0, slots := 0, locals := 224 }) s m ([.ref (h 36), .int 3, .int 3, .int x2, .int 0] : List Value).toArray below meth cd H locs 0 0 Qz (F0 m 0 ls []) by rw [hH, hlo] at hgo; exact hgo
  clear hH hlo
  obtain ⟨sp, hsp⟩ : ∃ z : Int32 × sg_F, z = sX3_does_3_3_0_f0_f3 x2 f L := ⟨_, rfl⟩
  have hs : sp = sX3_does_3_3_0_f0_f3 x2 f L := hsp
  have o_1 : (f 36 3).toInt = 0 := (congrArg Int32.toInt (show f 36 3 = 0 from hf_36_3)).trans (by decide)
  have hF : sgK WkX3_does_3_3_0_f0_f3 f f := sgK.rf
  have blk_53 : ∀ (fp_53 : sg_F) (H : Heap) (locs : List Loc) (ls : Array Slot), sp = sX3_does_3_3_0_f0_f3_b53 x2 fp_53 L → 0 ≤ (fp_53 36 3).toInt ∧ (fp_53 36 3).toInt ≤ 0 → 3 ≤ (fp_53 36 4).toInt ∧ (fp_53 36 4).toInt ≤ 3 → sgI loX hiX fp_53 → sgK WkX3_does_3_3_0_f0_f3 f fp_53 → va_P D vwCl (sgw 52 h (eX ca h) fp_53 L Q) H → va_S (sgA 52 h s.heap.size) s.heap H locs → lv_has ls 7 [(0, .ref (h 36)), (3, .int x2), (4, .int 0), (5, .int 0), (6, .int 2)] → W p l e ({ frames := 9, cells := 0, slots := 0, locals := 224 }) s m ([.ref (h 36), .int 3, .int 3, .int x2, .int 0] : List Value).toArray below meth cd H locs 0 0 Qz (F0 m 53 ls []) := by
    intro fp_53 H locs ls hs hy0_53 hy1_53 hI hF hP hS hl
    obtain ⟨v_2, ev_2⟩ : ∃ z : Int32, z = fp_53 36 3 := ⟨_, rfl⟩
    have q_3 : 0 ≤ v_2.toInt ∧ v_2.toInt ≤ 19 := by rw [ev_2]; exact hI 36 3
    have q_4 : (fp_53 36 3).toInt = v_2.toInt := by rw [ev_2]
    obtain ⟨v_5, ev_5⟩ : ∃ z : Int32, z = fp_53 36 4 := ⟨_, rfl⟩
    have q_6 : 0 ≤ v_5.toInt ∧ v_5.toInt ≤ 7 := by rw [ev_5]; exact hI 36 4
    have q_7 : (fp_53 36 4).toInt = v_5.toInt := by rw [ev_5]
    have m_8 : fp_53 36 4 = 3 := (hF 36 4 (by decide)).trans hf_36_4
    refine lv_aload_n hx hb dX3_does_53 rfl (lv_at hl 0 rfl) ?_
    refine lv_dup hx hb dX3_does_54 rfl ?_
    refine sl_gX_36_3_3 (v := v_2) hx hb hts hown hK hP (show fp_53 36 3 = v_2 from ev_2.symm) dX3_does_55 ?_
    refine lv_iconst (v := 1) hx hb dX3_does_58 ic_1 ?_
    refine lv_iadd hx hb dX3_does_59 ?_
    refine lv_topi (fun v_9 ev_9 => ?_)
    have q_10 : v_9.toInt = v_2.toInt + 1 := by rw [ev_9]; first | exact cm_add ti_1 (by omega) (by omega) | (have k1 : (1 : Int32).toInt = 1 := ti_1; exact (bn_addI (by omega) (by omega)).trans (by omega))
    refine sl_pX_36_3_3 (x := v_9) hx hb hts hown hh hA hK hP hS dX3_does_60 (fun f_11 H locs ef_11 hP hS => ?_)
    have hI : sgI loX hiX f_11 := by rw [ef_11]; exact sgI.put hI 36 3 (show 0 ≤ (v_9 : Int32).toInt ∧ (v_9 : Int32).toInt ≤ 19 from ⟨by omega, by omega⟩)
    have hF : sgK WkX3_does_3_3_0_f0_f3 f f_11 := sgK.put hF ef_11 (by rfl)
    refine lv_aload_n hx hb dX3_does_63 rfl (lv_at hl 0 rfl) ?_
    refine lv_iload hx hb dX3_does_64 (lv_at hl 4 rfl) ?_
    refine sg_gets hx hb hZ 2 rfl hS hown (hts _ (List.mem_cons_of_mem _ mw_174)) (fun _ h9 => h9) dX3_does_66 ?_
    refine lv_iload hx hb dX3_does_69 (lv_at hl 3 rfl) ?_
    refine sg_sald hx hb hZ 2 rfl hS (y := 0) (N := 8) (vp_in_iff.mpr (by decide)) dX3_does_71 ?_
    refine W.eq (g2 := F0 m 72 ls [.int (-1), .int 2, .ref (h 36)]) (by rfl) ?_
    refine lv_iload_n hx hb dX3_does_72 rfl (lv_at hl 1 rfl) ?_
    refine lv_iload hx hb dX3_does_73 (lv_at hl 2 rfl) ?_
    refine lv_iconst (v := 1) hx hb dX3_does_75 ic_1 ?_
    refine lv_iadd hx hb dX3_does_76 ?_
    refine W.eq (g2 := F0 m 77 ls [.int 1, .int x2, .int (-1), .int 2, .ref (h 36)]) (by rw [show (0 + 1 : Int32) = 1 from by decide]) ?_
    have c_12 : v_9 = 1 := Int32.toInt_inj.mp (by have k9 : (1 : Int32).toInt = 1 := ti_1; omega)
    have q_13 : (f_11 36 3).toInt = 1 := (congrArg Int32.toInt (show f_11 36 3 = 1 from (Eq.trans (by rw [ef_11, sg_up_s, sgu_s]) c_12))).trans (by decide)
    refine sg_calli (va_runV (As := [.int 2, .int (-1), .int x2, .int 1]) (rest := []) ⟨hx, hb, hml, hown, hts⟩ (kX3_runs_2_m1_1_f1_f3 l D ca za h hh f_11 L Q hI x2 (Eq.trans (by rw [ef_11, sg_up_s, sgu_s]) c_12) (by rw [ef_11, sg_up_s, sgu_n (by decide)]; exact m_8) (by have k0 : (2 : Int32).toInt = 2 := ti_2; have k1 : ((-1) : Int32).toInt = (-1) := ti_m1; have k3 : (1 : Int32).toInt = 1 := ti_1; omega) H.size) (sl_c3_runs_8_0_0_200_3 hts ⟨Nat.le_of_ble_eq_true rfl, Nat.le_of_ble_eq_true rfl⟩) (sl_vX_36 hA hK hP hS hZ) rfl rfl hl.1 rfl (lv_room (Nat.le_of_ble_eq_true rfl)) dX3_does_77 ⟨Nat.le_refl _, Nat.le_refl _⟩) hA hS (fun r_18 f_15 L_16 Q_17 H locs hq hP hS => ?_)
    obtain ⟨⟨hI, hk_f_15, eL9, eQ9⟩, hq, p_19, u_20⟩ := hq
    rw [eL9, eQ9] at hP; clear eL9 eQ9
    have hF : sgK WkX3_does_3_3_0_f0_f3 f f_15 := sgK.tr hF hk_f_15 (by decide +kernel)
    obtain ⟨v_21, ev_21⟩ : ∃ z : Int32, z = f_15 36 3 := ⟨_, rfl⟩
    have q_22 : 0 ≤ v_21.toInt ∧ v_21.toInt ≤ 19 := by rw [ev_21]; exact hI 36 3
    have q_23 : (f_15 36 3).toInt = v_21.toInt := (congrArg Int32.toInt (show f_15 36 3 = v_21 from ev_21.symm))
    have k_25 : (2 : Int32).toInt = 2 := by decide
    have k_26 : ((-1) : Int32).toInt = (-1) := by decide
    have k_27 : (1 : Int32).toInt = 1 := by decide
    exact hret _ _ _ _ (r_18) f_15 L Q dX3_does_80 hP hS ⟨⟨hI, hF, rfl, rfl⟩, trivial, ⟨by omega, by omega⟩, (Eq.trans (Eq.symm (hs.trans ((spl_e ev_2 (spl_e ev_5 (spl_e ev_9 (spl_e ef_11 (spl2_e u_20 (spl_e ev_21 rfl))))))))) hsp)⟩
  refine lv_iload_n hx hb dX3_does_0 rfl (lv_at hl 1 rfl) ?_
  refine lv_iload_n hx hb dX3_does_1 rfl (lv_at hl 2 rfl) ?_
  refine sg_calli (va_runS (As := [.int 3, .int 3]) (rest := []) ⟨hx, hb, hml, hown, hts⟩ (kX3_ownerOf_3_3 l D ca za h hh f L Q hI H.size) (va_cwS 2 hts (gw_S (fun _ h => List.mem_cons_of_mem _ h) mw_189 mw_190 mw_47 mw_188) rfl rfl rfl hd_yX3_ownerOf.2 ⟨Nat.le_of_ble_eq_true rfl, Nat.le_of_ble_eq_true rfl⟩) (sg_preS hA hK hP hS hZ) rfl rfl hl.1 rfl (lv_room (Nat.le_of_ble_eq_true rfl)) dX3_does_2 ⟨Nat.le_refl _, Nat.le_refl _⟩) hA hS (fun r_33 f_30 L_31 Q_32 H locs hq hP hS => ?_)
  obtain ⟨⟨ef9, eL9, eQ9⟩, hq, u_34⟩ := hq
  rw [ef9, eL9, eQ9] at hP; clear ef9 eL9 eQ9
  obtain rfl : r_33 = 0 := Int32.toInt_inj.mp (by have k9 : (0 : Int32).toInt = 0 := ti_0; omega)
  refine lv_istore (lv' := [(5, .int 0), (0, .ref (h 36)), (1, .int 3), (2, .int 3), (3, .int x2), (4, .int 0)]) hx hb dX3_does_5 hl (by decide) rfl (fun ls hl => ?_)
  refine lv_iload hx hb dX3_does_7 (lv_at hl 0 rfl) ?_
  refine lv_if_lt (tgt := 19) hx hb dX3_does_9 (by decide) (fun c => absurd c (by decide)) (fun c => ?_)
  refine lv_iload hx hb dX3_does_12 (lv_at hl 5 rfl) ?_
  refine lv_bipush (v := 40) hx hb dX3_does_14 bp_40 ?_
  refine lv_icmp_le (tgt := 21) hx hb dX3_does_16 (by decide) (fun c => ?_) (fun c => absurd c (by decide))
  refine sg_gets hx hb hZ 3 rfl hS hown (hts _ (List.mem_cons_of_mem _ mw_173)) (fun _ h9 => h9) dX3_does_21 ?_
  refine lv_iload hx hb dX3_does_24 (lv_at hl 0 rfl) ?_
  refine lv_iconst (v := 4) hx hb dX3_does_26 ic_4 ?_
  refine lv_imul hx hb dX3_does_27 ?_
  refine W.eq (g2 := F0 m 28 ls [.int 0, .ref (za 3)]) (by rw [show (0 * 4 : Int32) = 0 from by decide]) ?_
  refine lv_iload_n hx hb dX3_does_28 rfl (lv_at hl 3 rfl) ?_
  refine lv_iadd hx hb dX3_does_29 ?_
  refine W.eq (g2 := F0 m 30 ls [.int 3, .ref (za 3)]) (by rw [show (0 + 3 : Int32) = 3 from by decide]) ?_
  refine sg_sald hx hb hZ 3 rfl hS (y := 3) (N := 32) (vp_in_iff.mpr (by decide)) dX3_does_30 ?_
  refine W.eq (g2 := F0 m 31 ls [.int 2]) (by rfl) ?_
  refine lv_istore (lv' := [(6, .int 2), (5, .int 0), (0, .ref (h 36)), (1, .int 3), (2, .int 3), (3, .int x2), (4, .int 0)]) hx hb dX3_does_31 hl (by decide) rfl (fun ls hl => ?_)
  refine lv_aload_n hx hb dX3_does_33 rfl (lv_at hl 2 rfl) ?_
  refine sl_gX_36_3_3 (v := 0) hx hb hts hown hK hP (show f 36 3 = 0 from hf_36_3) dX3_does_34 ?_
  refine lv_bipush (v := 24) hx hb dX3_does_37 bp_24 ?_
  refine lv_icmp_ge (tgt := 53) hx hb dX3_does_39 (by decide) (fun c => absurd c (by decide)) (fun c => ?_)
  refine lv_aload_n hx hb dX3_does_42 rfl (lv_at hl 2 rfl) ?_
  refine sl_gX_36_1_3 hx hb hts hown hK hP dX3_does_43 ?_
  refine lv_aload_n hx hb dX3_does_46 rfl (lv_at hl 2 rfl) ?_
  refine sl_gX_36_3_3 (v := 0) hx hb hts hown hK hP (show f 36 3 = 0 from hf_36_3) dX3_does_47 ?_
  refine lv_iload hx hb dX3_does_50 (lv_at hl 0 rfl) ?_
  refine sg_iast hx hb hh hA hK hP hS 38 (by decide) 0 (fun _ => rfl) rfl (i := 0) (x := 2) (vp_in_iff.mpr (by decide)) dX3_does_52 (fun f_35 H locs ef_35 hP hS => ?_)
  have ef_35 : f_35 = sg_up f 38 (sgu (f 38) 0 2) := ef_35
  have hI : sgI loX hiX f_35 := by rw [ef_35]; exact sgI.put hI 38 0 (show 0 ≤ (2 : Int32).toInt ∧ (2 : Int32).toInt ≤ 81 from by decide)
  have hF : sgK WkX3_does_3_3_0_f0_f3 f f_35 := sgK.put hF ef_35 (by rfl)
  exact blk_53 f_35 _ _ _ (hs.trans ((spl_e u_34 (spl_e ef_35 rfl)))) (by have zz36_3 : (f_35 36 3).toInt = 0 := (congrArg Int32.toInt (show f_35 36 3 = 0 from (by rw [ef_35, sg_up_n (by decide)]; exact hf_36_3))).trans (by decide); exact ⟨by omega, by omega⟩) (by have zz36_4 : (f_35 36 4).toInt = 3 := (congrArg Int32.toInt (show f_35 36 4 = 3 from (by rw [ef_35, sg_up_n (by decide)]; exact hf_36_4))).trans (by decide); exact ⟨by omega, by omega⟩) hI hF hP hS (lv_sub hl [2, 5, 6, 1, 0] rfl)

set_option maxHeartbeats 4000000 in
set_option maxRecDepth 100000 in
theorem kX3_ownerOf_4_3 (l : Launch) (D : va_G) (ca : Nat → ClassId) (za h : Nat → Nat) (hh : sgH 52 h) (f : sg_F) (L : sg_L) (Q : sg_Q) (hI : sgI loX hiX f) (sz : Nat) : Met l yX3_ownerOf gwX3_ownerOf { frames := 0, cells := 0, slots := 0, locals := 0 } (sgP D vwCl (tyX ca) 52 h (eX ca h) zcX za f L Q sz [.int 4, .int 3]) (sgQi D vwCl 52 h (eX ca h) sz (fun r f1 L1 Q1 => ((f1 = f ∧ L1 = L ∧ Q1 = Q) ∧ (0 ≤ r.toInt ∧ r.toInt ≤ 0) ∧ (r) = sX3_ownerOf_4_3 f L))) 0 0 (sgA 52 h sz) := by
  refine sg_ofWi (cc := cX3_ownerOf) (maxL := 4) RX3 (by decide) rfl rfl (Nat.le_of_ble_eq_true rfl) ?_
  intro p e s m below meth cd Qz ls hx hb hml hown hts hK hZ hP hS hl hret
  have hA := sgY.self (n := 52) (h := h) (sz := s.heap.size)
  have hl : lv_has ls 4 [(0, .int 4), (1, .int 3)] := hl
  obtain ⟨H, hH⟩ : ∃ z : Heap, z = s.heap := ⟨_, rfl⟩
  obtain ⟨locs, hlo⟩ : ∃ z : List Loc, z = [] := ⟨_, rfl⟩
  have hP : va_P D vwCl (sgw 52 h (eX ca h) f L Q) H := by rw [hH]; exact hP
  have hS : va_S (sgA 52 h s.heap.size) s.heap H locs := by rw [hH, hlo]; exact hS
  suffices hgo : W p l e ({ frames := 0, cells := 0, slots := 0, locals := 0 }) s m ([.int 4, .int 3] : List Value).toArray below meth cd H locs 0 0 Qz (F0 m 0 ls []) by rw [hH, hlo] at hgo; exact hgo
  clear hH hlo
  obtain ⟨sp, hsp⟩ : ∃ z : Int32, z = sX3_ownerOf_4_3 f L := ⟨_, rfl⟩
  have hs : sp = sX3_ownerOf_4_3 f L := hsp
  refine lv_iload_n hx hb dX3_ownerOf_0 rfl (lv_at hl 0 rfl) ?_
  refine lv_istore_n (lv' := [(2, .int 4), (0, .int 4), (1, .int 3)]) hx hb dX3_ownerOf_1 rfl hl (by decide) rfl (fun ls hl => ?_)
  refine lv_iconst (v := 0) hx hb dX3_ownerOf_2 ic_0 ?_
  refine lv_istore_n (lv' := [(3, .int 0), (2, .int 4), (0, .int 4), (1, .int 3)]) hx hb dX3_ownerOf_3 rfl hl (by decide) rfl (fun ls hl => ?_)
  refine lv_iload_n hx hb dX3_ownerOf_4 rfl (lv_at hl 0 rfl) ?_
  refine lv_bipush (v := 8) hx hb dX3_ownerOf_5 bp_8 ?_
  refine lv_icmp_ge (tgt := 40) hx hb dX3_ownerOf_7 (by decide) (fun c => absurd c (by decide)) (fun c => ?_)
  refine lv_iload_n hx hb dX3_ownerOf_10 rfl (lv_at hl 1 rfl) ?_
  refine lv_if_lt (tgt := 40) hx hb dX3_ownerOf_11 (by decide) (fun c => absurd c (by decide)) (fun c => ?_)
  refine sg_gets hx hb hZ 3 rfl hS hown (hts _ (List.mem_cons_of_mem _ mw_173)) (fun _ h9 => h9) dX3_ownerOf_14 ?_
  refine lv_iload_n hx hb dX3_ownerOf_17 rfl (lv_at hl 1 rfl) ?_
  refine lv_iconst (v := 4) hx hb dX3_ownerOf_18 ic_4 ?_
  refine lv_imul hx hb dX3_ownerOf_19 ?_
  refine W.eq (g2 := F0 m 20 ls [.int 16, .ref (za 3)]) (by rw [show (4 * 4 : Int32) = 16 from by decide]) ?_
  refine lv_iload_n hx hb dX3_ownerOf_20 rfl (lv_at hl 3 rfl) ?_
  refine lv_iadd hx hb dX3_ownerOf_21 ?_
  refine W.eq (g2 := F0 m 22 ls [.int 19, .ref (za 3)]) (by rw [show (16 + 3 : Int32) = 19 from by decide]) ?_
  refine sg_sald hx hb hZ 3 rfl hS (y := 19) (N := 32) (vp_in_iff.mpr (by decide)) dX3_ownerOf_22 ?_
  refine W.eq (g2 := F0 m 23 ls [.int 0]) (by rfl) ?_
  refine lv_if_eq (tgt := 28) hx hb dX3_ownerOf_23 (by decide) (fun c => ?_) (fun c => absurd c (by decide))
  refine sg_gets hx hb hZ 2 rfl hS hown (hts _ (List.mem_cons_of_mem _ mw_174)) (fun _ h9 => h9) dX3_ownerOf_28 ?_
  refine lv_iload_n hx hb dX3_ownerOf_31 rfl (lv_at hl 1 rfl) ?_
  refine sg_sald hx hb hZ 2 rfl hS (y := 4) (N := 8) (vp_in_iff.mpr (by decide)) dX3_ownerOf_32 ?_
  refine W.eq (g2 := F0 m 33 ls [.int 1]) (by rfl) ?_
  refine lv_istore_n (lv' := [(2, .int 1), (3, .int 0), (0, .int 4), (1, .int 3)]) hx hb dX3_ownerOf_33 rfl hl (by decide) rfl (fun ls hl => ?_)
  refine lv_iinc (v := 1) (lv' := [(3, .int 1), (2, .int 1), (0, .int 4), (1, .int 3)]) hx hb dX3_ownerOf_34 hl (k := 1) rfl (by decide) (by decide) rfl (fun ls hl => ?_)
  refine lv_goto (tgt := 4) hx hb dX3_ownerOf_37 (by decide) ?_
  refine lv_iload_n hx hb dX3_ownerOf_4 rfl (lv_at hl 0 rfl) ?_
  refine lv_bipush (v := 8) hx hb dX3_ownerOf_5 bp_8 ?_
  refine lv_icmp_ge (tgt := 40) hx hb dX3_ownerOf_7 (by decide) (fun c => absurd c (by decide)) (fun c => ?_)
  refine lv_iload_n hx hb dX3_ownerOf_10 rfl (lv_at hl 1 rfl) ?_
  refine lv_if_lt (tgt := 40) hx hb dX3_ownerOf_11 (by decide) (fun c => absurd c (by decide)) (fun c => ?_)
  refine sg_gets hx hb hZ 3 rfl hS hown (hts _ (List.mem_cons_of_mem _ mw_173)) (fun _ h9 => h9) dX3_ownerOf_14 ?_
  refine lv_iload_n hx hb dX3_ownerOf_17 rfl (lv_at hl 1 rfl) ?_
  refine lv_iconst (v := 4) hx hb dX3_ownerOf_18 ic_4 ?_
  refine lv_imul hx hb dX3_ownerOf_19 ?_
  refine W.eq (g2 := F0 m 20 ls [.int 4, .ref (za 3)]) (by rw [show (1 * 4 : Int32) = 4 from by decide]) ?_
  refine lv_iload_n hx hb dX3_ownerOf_20 rfl (lv_at hl 3 rfl) ?_
  refine lv_iadd hx hb dX3_ownerOf_21 ?_
  refine W.eq (g2 := F0 m 22 ls [.int 7, .ref (za 3)]) (by rw [show (4 + 3 : Int32) = 7 from by decide]) ?_
  refine sg_sald hx hb hZ 3 rfl hS (y := 7) (N := 32) (vp_in_iff.mpr (by decide)) dX3_ownerOf_22 ?_
  refine W.eq (g2 := F0 m 23 ls [.int 0]) (by rfl) ?_
  refine lv_if_eq (tgt := 28) hx hb dX3_ownerOf_23 (by decide) (fun c => ?_) (fun c => absurd c (by decide))
  refine sg_gets hx hb hZ 2 rfl hS hown (hts _ (List.mem_cons_of_mem _ mw_174)) (fun _ h9 => h9) dX3_ownerOf_28 ?_
  refine lv_iload_n hx hb dX3_ownerOf_31 rfl (lv_at hl 1 rfl) ?_
  refine sg_sald hx hb hZ 2 rfl hS (y := 1) (N := 8) (vp_in_iff.mpr (by decide)) dX3_ownerOf_32 ?_
  refine W.eq (g2 := F0 m 33 ls [.int 0]) (by rfl) ?_
  refine lv_istore_n (lv' := [(2, .int 0), (3, .int 1), (0, .int 4), (1, .int 3)]) hx hb dX3_ownerOf_33 rfl hl (by decide) rfl (fun ls hl => ?_)
  refine lv_iinc (v := 2) (lv' := [(3, .int 2), (2, .int 0), (0, .int 4), (1, .int 3)]) hx hb dX3_ownerOf_34 hl (k := 1) rfl (by decide) (by decide) rfl (fun ls hl => ?_)
  refine lv_goto (tgt := 4) hx hb dX3_ownerOf_37 (by decide) ?_
  refine lv_iload_n hx hb dX3_ownerOf_4 rfl (lv_at hl 0 rfl) ?_
  refine lv_bipush (v := 8) hx hb dX3_ownerOf_5 bp_8 ?_
  refine lv_icmp_ge (tgt := 40) hx hb dX3_ownerOf_7 (by decide) (fun c => absurd c (by decide)) (fun c => ?_)
  refine lv_iload_n hx hb dX3_ownerOf_10 rfl (lv_at hl 1 rfl) ?_
  refine lv_if_lt (tgt := 40) hx hb dX3_ownerOf_11 (by decide) (fun c => absurd c (by decide)) (fun c => ?_)
  refine sg_gets hx hb hZ 3 rfl hS hown (hts _ (List.mem_cons_of_mem _ mw_173)) (fun _ h9 => h9) dX3_ownerOf_14 ?_
  refine lv_iload_n hx hb dX3_ownerOf_17 rfl (lv_at hl 1 rfl) ?_
  refine lv_iconst (v := 4) hx hb dX3_ownerOf_18 ic_4 ?_
  refine lv_imul hx hb dX3_ownerOf_19 ?_
  refine W.eq (g2 := F0 m 20 ls [.int 0, .ref (za 3)]) (by rw [show (0 * 4 : Int32) = 0 from by decide]) ?_
  refine lv_iload_n hx hb dX3_ownerOf_20 rfl (lv_at hl 3 rfl) ?_
  refine lv_iadd hx hb dX3_ownerOf_21 ?_
  refine W.eq (g2 := F0 m 22 ls [.int 3, .ref (za 3)]) (by rw [show (0 + 3 : Int32) = 3 from by decide]) ?_
  refine sg_sald hx hb hZ 3 rfl hS (y := 3) (N := 32) (vp_in_iff.mpr (by decide)) dX3_ownerOf_22 ?_
  refine W.eq (g2 := F0 m 23 ls [.int 2]) (by rfl) ?_
  refine lv_if_eq (tgt := 28) hx hb dX3_ownerOf_23 (by decide) (fun c => absurd c (by decide)) (fun c => ?_)
  refine lv_iload_n hx hb dX3_ownerOf_26 rfl (lv_at hl 1 rfl) ?_
  have k99 : (0 : Int32).toInt = 0 := ti_0
  exact hret _ _ _ _ (0) f L Q dX3_ownerOf_27 hP hS ⟨⟨rfl, rfl, rfl⟩, (by decide), (Eq.trans (Eq.symm hs) hsp)⟩

set_option maxHeartbeats 4000000 in
set_option maxRecDepth 100000 in
theorem kX3_runs_1_m1_4_f4_f4 (l : Launch) (D : va_G) (ca : Nat → ClassId) (za h : Nat → Nat) (hh : sgH 52 h) (f : sg_F) (L : sg_L) (Q : sg_Q) (hI : sgI loX hiX f) (x2 : Int32) (hf_36_3 : f 36 3 = 4) (hf_36_4 : f 36 4 = 4) (p0 : 4 ≤ (f 36 3).toInt ∧ (f 36 3).toInt ≤ 4) (sz : Nat) : Met l yX3_runs gwX3_runs { frames := 0, cells := 0, slots := 0, locals := 0 } (sgP D vwCl (tyX ca) 52 h (eX ca h) zcX za f L Q sz [.ref (h 36), .int 1, .int (-1), .int x2, .int 4]) (sgQi D vwCl 52 h (eX ca h) sz (fun r f1 L1 Q1 => ((f1 = f ∧ L1 = L ∧ Q1 = Q) ∧ True ∧ (4 ≤ (f1 36 3).toInt ∧ (f1 36 3).toInt ≤ 4) ∧ (r) = sX3_runs_1_m1_4_f4_f4 x2 f L))) 0 0 (sgA 52 h sz) := by
  refine sg_ofWi (cc := cX3_runs) (maxL := 5) RX3 (by decide) rfl rfl (Nat.le_of_ble_eq_true rfl) ?_
  intro p e s m below meth cd Qz ls hx hb hml hown hts hK hZ hP hS hl hret
  have hA := sgY.self (n := 52) (h := h) (sz := s.heap.size)
  have hl : lv_has ls 5 [(0, .ref (h 36)), (1, .int 1), (2, .int (-1)), (3, .int x2), (4, .int 4)] := hl
  obtain ⟨H, hH⟩ : ∃ z : Heap, z = s.heap := ⟨_, rfl⟩
  obtain ⟨locs, hlo⟩ : ∃ z : List Loc, z = [] := ⟨_, rfl⟩
  have hP : va_P D vwCl (sgw 52 h (eX ca h) f L Q) H := by rw [hH]; exact hP
  have hS : va_S (sgA 52 h s.heap.size) s.heap H locs := by rw [hH, hlo]; exact hS
  suffices hgo : W p l e ({ frames := 0, cells := 0, slots := 0, locals := 0 }) s m ([.ref (h 36), .int 1, .int (-1), .int x2, .int 4] : List Value).toArray below meth cd H locs 0 0 Qz (F0 m 0 ls []) by rw [hH, hlo] at hgo; exact hgo
  clear hH hlo
  obtain ⟨sp, hsp⟩ : ∃ z : Int32, z = sX3_runs_1_m1_4_f4_f4 x2 f L := ⟨_, rfl⟩
  have hs : sp = sX3_runs_1_m1_4_f4_f4 x2 f L := hsp
  have o_1 : (f 36 3).toInt = 4 := (congrArg Int32.toInt (show f 36 3 = 4 from hf_36_3)).trans (by decide)
  refine lv_iload_n hx hb dX3_runs_0 rfl (lv_at hl 1 rfl) ?_
  refine lv_lookup (x := 1) (off := 115) (tgt := 116) hx hb dX3_runs_1 (by decide) (by decide) (by decide) ?_
  refine lv_iload_n hx hb dX3_runs_116 rfl (lv_at hl 3 rfl) ?_
  refine lv_aload_n hx hb dX3_runs_117 rfl (lv_at hl 0 rfl) ?_
  refine sl_gX_36_5_3 (v := (f 36 5)) hx hb hts hown hK hP rfl dX3_runs_118 ?_
  refine lv_topi (fun v_2 ev_2 => ?_)
  have q_3 : 0 ≤ v_2.toInt ∧ v_2.toInt ≤ 49 := by rw [ev_2]; exact hI 36 5
  refine lv_iadd hx hb dX3_runs_121 ?_
  refine lv_topi (fun v_4 ev_4 => ?_)
  have q_5 : (f 36 3).toInt = 4 := (congrArg Int32.toInt (show f 36 3 = 4 from hf_36_3)).trans (by decide)
  exact hret _ _ _ _ (v_4) f L Q dX3_runs_122 hP hS ⟨⟨rfl, rfl, rfl⟩, trivial, ⟨by omega, by omega⟩, (Eq.trans (Eq.symm (hs.trans ((spl_e ev_2 (spl_e ev_4 rfl))))) hsp)⟩

abbrev WkX3_does_0_0_3_f3_f4 : List (Nat × Nat × Option Nat) := [(36, 36, some 3), (38, 38, some 3)]
set_option maxHeartbeats 4000000 in
set_option maxRecDepth 100000 in
theorem kX3_does_0_0_3_f3_f4 (l : Launch) (D : va_G) (ca : Nat → ClassId) (za h : Nat → Nat) (hh : sgH 52 h) (f : sg_F) (L : sg_L) (Q : sg_Q) (hI : sgI loX hiX f) (x2 : Int32) (hf_36_3 : f 36 3 = 3) (hf_36_4 : f 36 4 = 4) (p0 : 3 ≤ (f 36 3).toInt ∧ (f 36 3).toInt ≤ 3) (sz : Nat) : Met l yX3_does gwX3_does { frames := 1, cells := 0, slots := 0, locals := 24 } (sgP D vwCl (tyX ca) 52 h (eX ca h) zcX za f L Q sz [.ref (h 36), .int 0, .int 0, .int x2, .int 3]) (sgQi D vwCl 52 h (eX ca h) sz (fun r f1 L1 Q1 => ((sgI loX hiX f1 ∧ sgK WkX3_does_0_0_3_f3_f4 f f1 ∧ L1 = L ∧ Q1 = Q) ∧ True ∧ (4 ≤ (f1 36 3).toInt ∧ (f1 36 3).toInt ≤ 4) ∧ (r, f1) = sX3_does_0_0_3_f3_f4 x2 f L))) 0 0 (sgA 52 h sz) := by
  refine sg_ofWi (cc := cX3_does) (maxL := 7) RX3 (by decide) rfl rfl (Nat.le_of_ble_eq_true rfl) ?_
  intro p e s m below meth cd Qz ls hx hb hml hown hts hK hZ hP hS hl hret
  have hA := sgY.self (n := 52) (h := h) (sz := s.heap.size)
  have hl : lv_has ls 7 [(0, .ref (h 36)), (1, .int 0), (2, .int 0), (3, .int x2), (4, .int 3)] := hl
  obtain ⟨H, hH⟩ : ∃ z : Heap, z = s.heap := ⟨_, rfl⟩
  obtain ⟨locs, hlo⟩ : ∃ z : List Loc, z = [] := ⟨_, rfl⟩
  have hP : va_P D vwCl (sgw 52 h (eX ca h) f L Q) H := by rw [hH]; exact hP
  have hS : va_S (sgA 52 h s.heap.size) s.heap H locs := by rw [hH, hlo]; exact hS
  suffices hgo : W p l e ({ frames := 1, cells := 0, slots := 0, locals := 24 }) s m ([.ref (h 36), .int 0, .int 0, .int x2, .int 3] : List Value).toArray below meth cd H locs 0 0 Qz (F0 m 0 ls []) by rw [hH, hlo] at hgo; exact hgo
  clear hH hlo
  obtain ⟨sp, hsp⟩ : ∃ z : Int32 × sg_F, z = sX3_does_0_0_3_f3_f4 x2 f L := ⟨_, rfl⟩
  have hs : sp = sX3_does_0_0_3_f3_f4 x2 f L := hsp
  have o_1 : (f 36 3).toInt = 3 := (congrArg Int32.toInt (show f 36 3 = 3 from hf_36_3)).trans (by decide)
  have hF : sgK WkX3_does_0_0_3_f3_f4 f f := sgK.rf
  have blk_53 : ∀ (fp_53 : sg_F) (H : Heap) (locs : List Loc) (ls : Array Slot), sp = sX3_does_0_0_3_f3_f4_b53 x2 fp_53 L → 3 ≤ (fp_53 36 3).toInt ∧ (fp_53 36 3).toInt ≤ 3 → 4 ≤ (fp_53 36 4).toInt ∧ (fp_53 36 4).toInt ≤ 4 → sgI loX hiX fp_53 → sgK WkX3_does_0_0_3_f3_f4 f fp_53 → va_P D vwCl (sgw 52 h (eX ca h) fp_53 L Q) H → va_S (sgA 52 h s.heap.size) s.heap H locs → lv_has ls 7 [(0, .ref (h 36)), (3, .int x2), (4, .int 3), (5, .int 0), (6, .int 1)] → W p l e ({ frames := 1, cells := 0, slots := 0, locals := 24 }) s m ([.ref (h 36), .int 0, .int 0, .int x2, .int 3] : List Value).toArray below meth cd H locs 0 0 Qz (F0 m 53 ls []) := by
    intro fp_53 H locs ls hs hy0_53 hy1_53 hI hF hP hS hl
    obtain ⟨v_2, ev_2⟩ : ∃ z : Int32, z = fp_53 36 3 := ⟨_, rfl⟩
    have q_3 : 0 ≤ v_2.toInt ∧ v_2.toInt ≤ 19 := by rw [ev_2]; exact hI 36 3
    have q_4 : (fp_53 36 3).toInt = v_2.toInt := by rw [ev_2]
    obtain ⟨v_5, ev_5⟩ : ∃ z : Int32, z = fp_53 36 4 := ⟨_, rfl⟩
    have q_6 : 0 ≤ v_5.toInt ∧ v_5.toInt ≤ 7 := by rw [ev_5]; exact hI 36 4
    have q_7 : (fp_53 36 4).toInt = v_5.toInt := by rw [ev_5]
    have m_8 : fp_53 36 4 = 4 := (hF 36 4 (by decide)).trans hf_36_4
    refine lv_aload_n hx hb dX3_does_53 rfl (lv_at hl 0 rfl) ?_
    refine lv_dup hx hb dX3_does_54 rfl ?_
    refine sl_gX_36_3_3 (v := v_2) hx hb hts hown hK hP (show fp_53 36 3 = v_2 from ev_2.symm) dX3_does_55 ?_
    refine lv_iconst (v := 1) hx hb dX3_does_58 ic_1 ?_
    refine lv_iadd hx hb dX3_does_59 ?_
    refine lv_topi (fun v_9 ev_9 => ?_)
    have q_10 : v_9.toInt = v_2.toInt + 1 := by rw [ev_9]; first | exact cm_add ti_1 (by omega) (by omega) | (have k1 : (1 : Int32).toInt = 1 := ti_1; exact (bn_addI (by omega) (by omega)).trans (by omega))
    refine sl_pX_36_3_3 (x := v_9) hx hb hts hown hh hA hK hP hS dX3_does_60 (fun f_11 H locs ef_11 hP hS => ?_)
    have hI : sgI loX hiX f_11 := by rw [ef_11]; exact sgI.put hI 36 3 (show 0 ≤ (v_9 : Int32).toInt ∧ (v_9 : Int32).toInt ≤ 19 from ⟨by omega, by omega⟩)
    have hF : sgK WkX3_does_0_0_3_f3_f4 f f_11 := sgK.put hF ef_11 (by rfl)
    refine lv_aload_n hx hb dX3_does_63 rfl (lv_at hl 0 rfl) ?_
    refine lv_iload hx hb dX3_does_64 (lv_at hl 4 rfl) ?_
    refine sg_gets hx hb hZ 2 rfl hS hown (hts _ (List.mem_cons_of_mem _ mw_174)) (fun _ h9 => h9) dX3_does_66 ?_
    refine lv_iload hx hb dX3_does_69 (lv_at hl 3 rfl) ?_
    refine sg_sald hx hb hZ 2 rfl hS (y := 0) (N := 8) (vp_in_iff.mpr (by decide)) dX3_does_71 ?_
    refine W.eq (g2 := F0 m 72 ls [.int (-1), .int 1, .ref (h 36)]) (by rfl) ?_
    refine lv_iload_n hx hb dX3_does_72 rfl (lv_at hl 1 rfl) ?_
    refine lv_iload hx hb dX3_does_73 (lv_at hl 2 rfl) ?_
    refine lv_iconst (v := 1) hx hb dX3_does_75 ic_1 ?_
    refine lv_iadd hx hb dX3_does_76 ?_
    refine W.eq (g2 := F0 m 77 ls [.int 4, .int x2, .int (-1), .int 1, .ref (h 36)]) (by rw [show (3 + 1 : Int32) = 4 from by decide]) ?_
    have c_12 : v_9 = 4 := Int32.toInt_inj.mp (by have k9 : (4 : Int32).toInt = 4 := ti_4; omega)
    have q_13 : (f_11 36 3).toInt = 4 := (congrArg Int32.toInt (show f_11 36 3 = 4 from (Eq.trans (by rw [ef_11, sg_up_s, sgu_s]) c_12))).trans (by decide)
    refine sg_calli (va_runV (As := [.int 1, .int (-1), .int x2, .int 4]) (rest := []) ⟨hx, hb, hml, hown, hts⟩ (kX3_runs_1_m1_4_f4_f4 l D ca za h hh f_11 L Q hI x2 (Eq.trans (by rw [ef_11, sg_up_s, sgu_s]) c_12) (by rw [ef_11, sg_up_s, sgu_n (by decide)]; exact m_8) (by have k0 : (1 : Int32).toInt = 1 := ti_1; have k1 : ((-1) : Int32).toInt = (-1) := ti_m1; have k3 : (4 : Int32).toInt = 4 := ti_4; omega) H.size) (sl_c3_runs_0_0_0_0_3 hts ⟨Nat.le_of_ble_eq_true rfl, Nat.le_of_ble_eq_true rfl⟩) (sl_vX_36 hA hK hP hS hZ) rfl rfl hl.1 rfl (lv_room (Nat.le_of_ble_eq_true rfl)) dX3_does_77 ⟨Nat.le_refl _, Nat.le_refl _⟩) hA hS (fun r_18 f_15 L_16 Q_17 H locs hq hP hS => ?_)
    obtain ⟨⟨ef9, eL9, eQ9⟩, hq, p_19, u_20⟩ := hq
    rw [ef9, eL9, eQ9] at hP; clear ef9 eL9 eQ9
    have k_23 : (1 : Int32).toInt = 1 := by decide
    have k_24 : ((-1) : Int32).toInt = (-1) := by decide
    have k_25 : (4 : Int32).toInt = 4 := by decide
    exact hret _ _ _ _ (r_18) f_11 L Q dX3_does_80 hP hS ⟨⟨hI, hF, rfl, rfl⟩, trivial, ⟨by omega, by omega⟩, (Eq.trans (Eq.symm (hs.trans ((spl_e ev_2 (spl_e ev_5 (spl_e ev_9 (spl_e ef_11 (spl_e u_20 rfl)))))))) hsp)⟩
  refine lv_iload_n hx hb dX3_does_0 rfl (lv_at hl 1 rfl) ?_
  refine lv_iload_n hx hb dX3_does_1 rfl (lv_at hl 2 rfl) ?_
  refine sg_calli (va_runS (As := [.int 0, .int 0]) (rest := []) ⟨hx, hb, hml, hown, hts⟩ (kX3_ownerOf_0_0 l D ca za h hh f L Q hI H.size) (va_cwS 2 hts (gw_S (fun _ h => List.mem_cons_of_mem _ h) mw_189 mw_190 mw_47 mw_188) rfl rfl rfl hd_yX3_ownerOf.2 ⟨Nat.le_of_ble_eq_true rfl, Nat.le_of_ble_eq_true rfl⟩) (sg_preS hA hK hP hS hZ) rfl rfl hl.1 rfl (lv_room (Nat.le_of_ble_eq_true rfl)) dX3_does_2 ⟨Nat.le_refl _, Nat.le_refl _⟩) hA hS (fun r_31 f_28 L_29 Q_30 H locs hq hP hS => ?_)
  obtain ⟨⟨ef9, eL9, eQ9⟩, hq, u_32⟩ := hq
  rw [ef9, eL9, eQ9] at hP; clear ef9 eL9 eQ9
  obtain rfl : r_31 = 0 := Int32.toInt_inj.mp (by have k9 : (0 : Int32).toInt = 0 := ti_0; omega)
  refine lv_istore (lv' := [(5, .int 0), (0, .ref (h 36)), (1, .int 0), (2, .int 0), (3, .int x2), (4, .int 3)]) hx hb dX3_does_5 hl (by decide) rfl (fun ls hl => ?_)
  refine lv_iload hx hb dX3_does_7 (lv_at hl 0 rfl) ?_
  refine lv_if_lt (tgt := 19) hx hb dX3_does_9 (by decide) (fun c => absurd c (by decide)) (fun c => ?_)
  refine lv_iload hx hb dX3_does_12 (lv_at hl 5 rfl) ?_
  refine lv_bipush (v := 40) hx hb dX3_does_14 bp_40 ?_
  refine lv_icmp_le (tgt := 21) hx hb dX3_does_16 (by decide) (fun c => ?_) (fun c => absurd c (by decide))
  refine sg_gets hx hb hZ 3 rfl hS hown (hts _ (List.mem_cons_of_mem _ mw_173)) (fun _ h9 => h9) dX3_does_21 ?_
  refine lv_iload hx hb dX3_does_24 (lv_at hl 0 rfl) ?_
  refine lv_iconst (v := 4) hx hb dX3_does_26 ic_4 ?_
  refine lv_imul hx hb dX3_does_27 ?_
  refine W.eq (g2 := F0 m 28 ls [.int 0, .ref (za 3)]) (by rw [show (0 * 4 : Int32) = 0 from by decide]) ?_
  refine lv_iload_n hx hb dX3_does_28 rfl (lv_at hl 3 rfl) ?_
  refine lv_iadd hx hb dX3_does_29 ?_
  refine W.eq (g2 := F0 m 30 ls [.int 0, .ref (za 3)]) (by rw [show (0 + 0 : Int32) = 0 from by decide]) ?_
  refine sg_sald hx hb hZ 3 rfl hS (y := 0) (N := 32) (vp_in_iff.mpr (by decide)) dX3_does_30 ?_
  refine W.eq (g2 := F0 m 31 ls [.int 1]) (by rfl) ?_
  refine lv_istore (lv' := [(6, .int 1), (5, .int 0), (0, .ref (h 36)), (1, .int 0), (2, .int 0), (3, .int x2), (4, .int 3)]) hx hb dX3_does_31 hl (by decide) rfl (fun ls hl => ?_)
  refine lv_aload_n hx hb dX3_does_33 rfl (lv_at hl 2 rfl) ?_
  refine sl_gX_36_3_3 (v := 3) hx hb hts hown hK hP (show f 36 3 = 3 from hf_36_3) dX3_does_34 ?_
  refine lv_bipush (v := 24) hx hb dX3_does_37 bp_24 ?_
  refine lv_icmp_ge (tgt := 53) hx hb dX3_does_39 (by decide) (fun c => absurd c (by decide)) (fun c => ?_)
  refine lv_aload_n hx hb dX3_does_42 rfl (lv_at hl 2 rfl) ?_
  refine sl_gX_36_1_3 hx hb hts hown hK hP dX3_does_43 ?_
  refine lv_aload_n hx hb dX3_does_46 rfl (lv_at hl 2 rfl) ?_
  refine sl_gX_36_3_3 (v := 3) hx hb hts hown hK hP (show f 36 3 = 3 from hf_36_3) dX3_does_47 ?_
  refine lv_iload hx hb dX3_does_50 (lv_at hl 0 rfl) ?_
  refine sg_iast hx hb hh hA hK hP hS 38 (by decide) 0 (fun _ => rfl) rfl (i := 3) (x := 1) (vp_in_iff.mpr (by decide)) dX3_does_52 (fun f_33 H locs ef_33 hP hS => ?_)
  have ef_33 : f_33 = sg_up f 38 (sgu (f 38) 3 1) := ef_33
  have hI : sgI loX hiX f_33 := by rw [ef_33]; exact sgI.put hI 38 3 (show 0 ≤ (1 : Int32).toInt ∧ (1 : Int32).toInt ≤ 81 from by decide)
  have hF : sgK WkX3_does_0_0_3_f3_f4 f f_33 := sgK.put hF ef_33 (by rfl)
  exact blk_53 f_33 _ _ _ (hs.trans ((spl_e u_32 (spl_e ef_33 rfl)))) (by have zz36_3 : (f_33 36 3).toInt = 3 := (congrArg Int32.toInt (show f_33 36 3 = 3 from (by rw [ef_33, sg_up_n (by decide)]; exact hf_36_3))).trans (by decide); exact ⟨by omega, by omega⟩) (by have zz36_4 : (f_33 36 4).toInt = 4 := (congrArg Int32.toInt (show f_33 36 4 = 4 from (by rw [ef_33, sg_up_n (by decide)]; exact hf_36_4))).trans (by decide); exact ⟨by omega, by omega⟩) hI hF hP hS (lv_sub hl [2, 5, 6, 1, 0] rfl)

abbrev WkX3_runs_20_0_3_f3_f4 : List (Nat × Nat × Option Nat) := [(36, 36, some 3), (38, 38, some 3)]
set_option maxHeartbeats 4000000 in
set_option maxRecDepth 100000 in
theorem kX3_runs_20_0_3_f3_f4 (l : Launch) (D : va_G) (ca : Nat → ClassId) (za h : Nat → Nat) (hh : sgH 52 h) (f : sg_F) (L : sg_L) (Q : sg_Q) (hI : sgI loX hiX f) (x2 : Int32) (hf_36_3 : f 36 3 = 3) (hf_36_4 : f 36 4 = 4) (p0 : 3 ≤ (f 36 3).toInt ∧ (f 36 3).toInt ≤ 3) (sz : Nat) : Met l yX3_runs gwX3_runs { frames := 2, cells := 0, slots := 0, locals := 50 } (sgP D vwCl (tyX ca) 52 h (eX ca h) zcX za f L Q sz [.ref (h 36), .int 20, .int 0, .int x2, .int 3]) (sgQi D vwCl 52 h (eX ca h) sz (fun r f1 L1 Q1 => ((sgI loX hiX f1 ∧ sgK WkX3_runs_20_0_3_f3_f4 f f1 ∧ L1 = L ∧ Q1 = Q) ∧ True ∧ (4 ≤ (f1 36 3).toInt ∧ (f1 36 3).toInt ≤ 4) ∧ (r, f1) = sX3_runs_20_0_3_f3_f4 x2 f L))) 0 0 (sgA 52 h sz) := by
  refine sg_ofWi (cc := cX3_runs) (maxL := 5) RX3 (by decide) rfl rfl (Nat.le_of_ble_eq_true rfl) ?_
  intro p e s m below meth cd Qz ls hx hb hml hown hts hK hZ hP hS hl hret
  have hA := sgY.self (n := 52) (h := h) (sz := s.heap.size)
  have hl : lv_has ls 5 [(0, .ref (h 36)), (1, .int 20), (2, .int 0), (3, .int x2), (4, .int 3)] := hl
  obtain ⟨H, hH⟩ : ∃ z : Heap, z = s.heap := ⟨_, rfl⟩
  obtain ⟨locs, hlo⟩ : ∃ z : List Loc, z = [] := ⟨_, rfl⟩
  have hP : va_P D vwCl (sgw 52 h (eX ca h) f L Q) H := by rw [hH]; exact hP
  have hS : va_S (sgA 52 h s.heap.size) s.heap H locs := by rw [hH, hlo]; exact hS
  suffices hgo : W p l e ({ frames := 2, cells := 0, slots := 0, locals := 50 }) s m ([.ref (h 36), .int 20, .int 0, .int x2, .int 3] : List Value).toArray below meth cd H locs 0 0 Qz (F0 m 0 ls []) by rw [hH, hlo] at hgo; exact hgo
  clear hH hlo
  obtain ⟨sp, hsp⟩ : ∃ z : Int32 × sg_F, z = sX3_runs_20_0_3_f3_f4 x2 f L := ⟨_, rfl⟩
  have hs : sp = sX3_runs_20_0_3_f3_f4 x2 f L := hsp
  have o_1 : (f 36 3).toInt = 3 := (congrArg Int32.toInt (show f 36 3 = 3 from hf_36_3)).trans (by decide)
  have hF : sgK WkX3_runs_20_0_3_f3_f4 f f := sgK.rf
  refine lv_iload_n hx hb dX3_runs_0 rfl (lv_at hl 1 rfl) ?_
  refine lv_lookup (x := 20) (off := 170) (tgt := 171) hx hb dX3_runs_1 (by decide) (by decide) (by decide) ?_
  refine lv_aload_n hx hb dX3_runs_171 rfl (lv_at hl 0 rfl) ?_
  refine lv_iload_n hx hb dX3_runs_172 rfl (lv_at hl 2 rfl) ?_
  refine lv_iconst (v := 0) hx hb dX3_runs_173 ic_0 ?_
  refine lv_iload_n hx hb dX3_runs_174 rfl (lv_at hl 3 rfl) ?_
  refine lv_iload hx hb dX3_runs_175 (lv_at hl 4 rfl) ?_
  have q_2 : (f 36 3).toInt = 3 := (congrArg Int32.toInt (show f 36 3 = 3 from hf_36_3)).trans (by decide)
  refine sg_calli (va_runV (As := [.int 0, .int 0, .int x2, .int 3]) (rest := []) ⟨hx, hb, hml, hown, hts⟩ (kX3_does_0_0_3_f3_f4 l D ca za h hh f L Q hI x2 hf_36_3 hf_36_4 (by have k0 : (0 : Int32).toInt = 0 := ti_0; have k1 : (0 : Int32).toInt = 0 := ti_0; have k3 : (3 : Int32).toInt = 3 := ti_3; omega) H.size) (sl_c3_does_1_0_0_24_3 hts ⟨Nat.le_of_ble_eq_true rfl, Nat.le_of_ble_eq_true rfl⟩) (sl_vX_36 hA hK hP hS hZ) rfl rfl hl.1 rfl (lv_room (Nat.le_of_ble_eq_true rfl)) dX3_runs_177 ⟨Nat.le_refl _, Nat.le_refl _⟩) hA hS (fun r_7 f_4 L_5 Q_6 H locs hq hP hS => ?_)
  obtain ⟨⟨hI, hk_f_4, eL9, eQ9⟩, hq, p_8, u_9⟩ := hq
  rw [eL9, eQ9] at hP; clear eL9 eQ9
  have hF : sgK WkX3_runs_20_0_3_f3_f4 f f_4 := sgK.tr hF hk_f_4 (by decide +kernel)
  obtain ⟨v_10, ev_10⟩ : ∃ z : Int32, z = f_4 36 3 := ⟨_, rfl⟩
  have q_11 : 0 ≤ v_10.toInt ∧ v_10.toInt ≤ 19 := by rw [ev_10]; exact hI 36 3
  have q_12 : (f_4 36 3).toInt = v_10.toInt := (congrArg Int32.toInt (show f_4 36 3 = v_10 from ev_10.symm))
  have k_14 : (0 : Int32).toInt = 0 := by decide
  have k_15 : (0 : Int32).toInt = 0 := by decide
  have k_16 : (3 : Int32).toInt = 3 := by decide
  refine lv_iconst (v := 3) hx hb dX3_runs_180 ic_3 ?_
  refine lv_iadd hx hb dX3_runs_181 ?_
  refine lv_topi (fun v_17 ev_17 => ?_)
  exact hret _ _ _ _ (v_17) f_4 L Q dX3_runs_182 hP hS ⟨⟨hI, hF, rfl, rfl⟩, trivial, ⟨by omega, by omega⟩, (Eq.trans (Eq.symm (hs.trans ((spl2_e u_9 (spl_e ev_10 (spl_e ev_17 rfl)))))) hsp)⟩

abbrev WkX3_does_4_0_2_f2_f4 : List (Nat × Nat × Option Nat) := [(36, 36, some 3), (38, 38, some 2), (38, 38, some 3)]
set_option maxHeartbeats 4000000 in
set_option maxRecDepth 100000 in
theorem kX3_does_4_0_2_f2_f4 (l : Launch) (D : va_G) (ca : Nat → ClassId) (za h : Nat → Nat) (hh : sgH 52 h) (f : sg_F) (L : sg_L) (Q : sg_Q) (hI : sgI loX hiX f) (x2 : Int32) (hf_36_3 : f 36 3 = 2) (hf_36_4 : f 36 4 = 4) (p0 : 2 ≤ (f 36 3).toInt ∧ (f 36 3).toInt ≤ 2) (sz : Nat) : Met l yX3_does gwX3_does { frames := 3, cells := 0, slots := 0, locals := 74 } (sgP D vwCl (tyX ca) 52 h (eX ca h) zcX za f L Q sz [.ref (h 36), .int 4, .int 0, .int x2, .int 2]) (sgQi D vwCl 52 h (eX ca h) sz (fun r f1 L1 Q1 => ((sgI loX hiX f1 ∧ sgK WkX3_does_4_0_2_f2_f4 f f1 ∧ L1 = L ∧ Q1 = Q) ∧ True ∧ (4 ≤ (f1 36 3).toInt ∧ (f1 36 3).toInt ≤ 4) ∧ (r, f1) = sX3_does_4_0_2_f2_f4 x2 f L))) 0 0 (sgA 52 h sz) := by
  refine sg_ofWi (cc := cX3_does) (maxL := 7) RX3 (by decide) rfl rfl (Nat.le_of_ble_eq_true rfl) ?_
  intro p e s m below meth cd Qz ls hx hb hml hown hts hK hZ hP hS hl hret
  have hA := sgY.self (n := 52) (h := h) (sz := s.heap.size)
  have hl : lv_has ls 7 [(0, .ref (h 36)), (1, .int 4), (2, .int 0), (3, .int x2), (4, .int 2)] := hl
  obtain ⟨H, hH⟩ : ∃ z : Heap, z = s.heap := ⟨_, rfl⟩
  obtain ⟨locs, hlo⟩ : ∃ z : List Loc, z = [] := ⟨_, rfl⟩
  have hP : va_P D vwCl (sgw 52 h (eX ca h) f L Q) H := by rw [hH]; exact hP
  have hS : va_S (sgA 52 h s.heap.size) s.heap H locs := by rw [hH, hlo]; exact hS
  suffices hgo : W p l e ({ frames := 3, cells := 0, slots := 0, locals := 74 }) s m ([.ref (h 36), .int 4, .int 0, .int x2, .int 2] : List Value).toArray below meth cd H locs 0 0 Qz (F0 m 0 ls []) by rw [hH, hlo] at hgo; exact hgo
  clear hH hlo
  obtain ⟨sp, hsp⟩ : ∃ z : Int32 × sg_F, z = sX3_does_4_0_2_f2_f4 x2 f L := ⟨_, rfl⟩
  have hs : sp = sX3_does_4_0_2_f2_f4 x2 f L := hsp
  have o_1 : (f 36 3).toInt = 2 := (congrArg Int32.toInt (show f 36 3 = 2 from hf_36_3)).trans (by decide)
  have hF : sgK WkX3_does_4_0_2_f2_f4 f f := sgK.rf
  have blk_53 : ∀ (fp_53 : sg_F) (H : Heap) (locs : List Loc) (ls : Array Slot), sp = sX3_does_4_0_2_f2_f4_b53 x2 fp_53 L → 2 ≤ (fp_53 36 3).toInt ∧ (fp_53 36 3).toInt ≤ 2 → 4 ≤ (fp_53 36 4).toInt ∧ (fp_53 36 4).toInt ≤ 4 → sgI loX hiX fp_53 → sgK WkX3_does_4_0_2_f2_f4 f fp_53 → va_P D vwCl (sgw 52 h (eX ca h) fp_53 L Q) H → va_S (sgA 52 h s.heap.size) s.heap H locs → lv_has ls 7 [(0, .ref (h 36)), (3, .int x2), (4, .int 2), (5, .int 1), (6, .int 20)] → W p l e ({ frames := 3, cells := 0, slots := 0, locals := 74 }) s m ([.ref (h 36), .int 4, .int 0, .int x2, .int 2] : List Value).toArray below meth cd H locs 0 0 Qz (F0 m 53 ls []) := by
    intro fp_53 H locs ls hs hy0_53 hy1_53 hI hF hP hS hl
    obtain ⟨v_2, ev_2⟩ : ∃ z : Int32, z = fp_53 36 3 := ⟨_, rfl⟩
    have q_3 : 0 ≤ v_2.toInt ∧ v_2.toInt ≤ 19 := by rw [ev_2]; exact hI 36 3
    have q_4 : (fp_53 36 3).toInt = v_2.toInt := by rw [ev_2]
    obtain ⟨v_5, ev_5⟩ : ∃ z : Int32, z = fp_53 36 4 := ⟨_, rfl⟩
    have q_6 : 0 ≤ v_5.toInt ∧ v_5.toInt ≤ 7 := by rw [ev_5]; exact hI 36 4
    have q_7 : (fp_53 36 4).toInt = v_5.toInt := by rw [ev_5]
    have m_8 : fp_53 36 4 = 4 := (hF 36 4 (by decide)).trans hf_36_4
    refine lv_aload_n hx hb dX3_does_53 rfl (lv_at hl 0 rfl) ?_
    refine lv_dup hx hb dX3_does_54 rfl ?_
    refine sl_gX_36_3_3 (v := v_2) hx hb hts hown hK hP (show fp_53 36 3 = v_2 from ev_2.symm) dX3_does_55 ?_
    refine lv_iconst (v := 1) hx hb dX3_does_58 ic_1 ?_
    refine lv_iadd hx hb dX3_does_59 ?_
    refine lv_topi (fun v_9 ev_9 => ?_)
    have q_10 : v_9.toInt = v_2.toInt + 1 := by rw [ev_9]; first | exact cm_add ti_1 (by omega) (by omega) | (have k1 : (1 : Int32).toInt = 1 := ti_1; exact (bn_addI (by omega) (by omega)).trans (by omega))
    refine sl_pX_36_3_3 (x := v_9) hx hb hts hown hh hA hK hP hS dX3_does_60 (fun f_11 H locs ef_11 hP hS => ?_)
    have hI : sgI loX hiX f_11 := by rw [ef_11]; exact sgI.put hI 36 3 (show 0 ≤ (v_9 : Int32).toInt ∧ (v_9 : Int32).toInt ≤ 19 from ⟨by omega, by omega⟩)
    have hF : sgK WkX3_does_4_0_2_f2_f4 f f_11 := sgK.put hF ef_11 (by rfl)
    refine lv_aload_n hx hb dX3_does_63 rfl (lv_at hl 0 rfl) ?_
    refine lv_iload hx hb dX3_does_64 (lv_at hl 4 rfl) ?_
    refine sg_gets hx hb hZ 2 rfl hS hown (hts _ (List.mem_cons_of_mem _ mw_174)) (fun _ h9 => h9) dX3_does_66 ?_
    refine lv_iload hx hb dX3_does_69 (lv_at hl 3 rfl) ?_
    refine sg_sald hx hb hZ 2 rfl hS (y := 1) (N := 8) (vp_in_iff.mpr (by decide)) dX3_does_71 ?_
    refine W.eq (g2 := F0 m 72 ls [.int 0, .int 20, .ref (h 36)]) (by rfl) ?_
    refine lv_iload_n hx hb dX3_does_72 rfl (lv_at hl 1 rfl) ?_
    refine lv_iload hx hb dX3_does_73 (lv_at hl 2 rfl) ?_
    refine lv_iconst (v := 1) hx hb dX3_does_75 ic_1 ?_
    refine lv_iadd hx hb dX3_does_76 ?_
    refine W.eq (g2 := F0 m 77 ls [.int 3, .int x2, .int 0, .int 20, .ref (h 36)]) (by rw [show (2 + 1 : Int32) = 3 from by decide]) ?_
    have c_12 : v_9 = 3 := Int32.toInt_inj.mp (by have k9 : (3 : Int32).toInt = 3 := ti_3; omega)
    have q_13 : (f_11 36 3).toInt = 3 := (congrArg Int32.toInt (show f_11 36 3 = 3 from (Eq.trans (by rw [ef_11, sg_up_s, sgu_s]) c_12))).trans (by decide)
    refine sg_calli (va_runV (As := [.int 20, .int 0, .int x2, .int 3]) (rest := []) ⟨hx, hb, hml, hown, hts⟩ (kX3_runs_20_0_3_f3_f4 l D ca za h hh f_11 L Q hI x2 (Eq.trans (by rw [ef_11, sg_up_s, sgu_s]) c_12) (by rw [ef_11, sg_up_s, sgu_n (by decide)]; exact m_8) (by have k0 : (20 : Int32).toInt = 20 := ti_20; have k1 : (0 : Int32).toInt = 0 := ti_0; have k3 : (3 : Int32).toInt = 3 := ti_3; omega) H.size) (sl_c3_runs_2_0_0_50_3 hts ⟨Nat.le_of_ble_eq_true rfl, Nat.le_of_ble_eq_true rfl⟩) (sl_vX_36 hA hK hP hS hZ) rfl rfl hl.1 rfl (lv_room (Nat.le_of_ble_eq_true rfl)) dX3_does_77 ⟨Nat.le_refl _, Nat.le_refl _⟩) hA hS (fun r_18 f_15 L_16 Q_17 H locs hq hP hS => ?_)
    obtain ⟨⟨hI, hk_f_15, eL9, eQ9⟩, hq, p_19, u_20⟩ := hq
    rw [eL9, eQ9] at hP; clear eL9 eQ9
    have hF : sgK WkX3_does_4_0_2_f2_f4 f f_15 := sgK.tr hF hk_f_15 (by decide +kernel)
    obtain ⟨v_21, ev_21⟩ : ∃ z : Int32, z = f_15 36 3 := ⟨_, rfl⟩
    have q_22 : 0 ≤ v_21.toInt ∧ v_21.toInt ≤ 19 := by rw [ev_21]; exact hI 36 3
    have q_23 : (f_15 36 3).toInt = v_21.toInt := (congrArg Int32.toInt (show f_15 36 3 = v_21 from ev_21.symm))
    have k_25 : (20 : Int32).toInt = 20 := by decide
    have k_26 : (0 : Int32).toInt = 0 := by decide
    have k_27 : (3 : Int32).toInt = 3 := by decide
    exact hret _ _ _ _ (r_18) f_15 L Q dX3_does_80 hP hS ⟨⟨hI, hF, rfl, rfl⟩, trivial, ⟨by omega, by omega⟩, (Eq.trans (Eq.symm (hs.trans ((spl_e ev_2 (spl_e ev_5 (spl_e ev_9 (spl_e ef_11 (spl2_e u_20 (spl_e ev_21 rfl))))))))) hsp)⟩
  refine lv_iload_n hx hb dX3_does_0 rfl (lv_at hl 1 rfl) ?_
  refine lv_iload_n hx hb dX3_does_1 rfl (lv_at hl 2 rfl) ?_
  refine sg_calli (va_runS (As := [.int 4, .int 0]) (rest := []) ⟨hx, hb, hml, hown, hts⟩ (kX3_ownerOf_4_0 l D ca za h hh f L Q hI H.size) (va_cwS 2 hts (gw_S (fun _ h => List.mem_cons_of_mem _ h) mw_189 mw_190 mw_47 mw_188) rfl rfl rfl hd_yX3_ownerOf.2 ⟨Nat.le_of_ble_eq_true rfl, Nat.le_of_ble_eq_true rfl⟩) (sg_preS hA hK hP hS hZ) rfl rfl hl.1 rfl (lv_room (Nat.le_of_ble_eq_true rfl)) dX3_does_2 ⟨Nat.le_refl _, Nat.le_refl _⟩) hA hS (fun r_33 f_30 L_31 Q_32 H locs hq hP hS => ?_)
  obtain ⟨⟨ef9, eL9, eQ9⟩, hq, u_34⟩ := hq
  rw [ef9, eL9, eQ9] at hP; clear ef9 eL9 eQ9
  obtain rfl : r_33 = 1 := Int32.toInt_inj.mp (by have k9 : (1 : Int32).toInt = 1 := ti_1; omega)
  refine lv_istore (lv' := [(5, .int 1), (0, .ref (h 36)), (1, .int 4), (2, .int 0), (3, .int x2), (4, .int 2)]) hx hb dX3_does_5 hl (by decide) rfl (fun ls hl => ?_)
  refine lv_iload hx hb dX3_does_7 (lv_at hl 0 rfl) ?_
  refine lv_if_lt (tgt := 19) hx hb dX3_does_9 (by decide) (fun c => absurd c (by decide)) (fun c => ?_)
  refine lv_iload hx hb dX3_does_12 (lv_at hl 5 rfl) ?_
  refine lv_bipush (v := 40) hx hb dX3_does_14 bp_40 ?_
  refine lv_icmp_le (tgt := 21) hx hb dX3_does_16 (by decide) (fun c => ?_) (fun c => absurd c (by decide))
  refine sg_gets hx hb hZ 3 rfl hS hown (hts _ (List.mem_cons_of_mem _ mw_173)) (fun _ h9 => h9) dX3_does_21 ?_
  refine lv_iload hx hb dX3_does_24 (lv_at hl 0 rfl) ?_
  refine lv_iconst (v := 4) hx hb dX3_does_26 ic_4 ?_
  refine lv_imul hx hb dX3_does_27 ?_
  refine W.eq (g2 := F0 m 28 ls [.int 4, .ref (za 3)]) (by rw [show (1 * 4 : Int32) = 4 from by decide]) ?_
  refine lv_iload_n hx hb dX3_does_28 rfl (lv_at hl 3 rfl) ?_
  refine lv_iadd hx hb dX3_does_29 ?_
  refine W.eq (g2 := F0 m 30 ls [.int 4, .ref (za 3)]) (by rw [show (4 + 0 : Int32) = 4 from by decide]) ?_
  refine sg_sald hx hb hZ 3 rfl hS (y := 4) (N := 32) (vp_in_iff.mpr (by decide)) dX3_does_30 ?_
  refine W.eq (g2 := F0 m 31 ls [.int 20]) (by rfl) ?_
  refine lv_istore (lv' := [(6, .int 20), (5, .int 1), (0, .ref (h 36)), (1, .int 4), (2, .int 0), (3, .int x2), (4, .int 2)]) hx hb dX3_does_31 hl (by decide) rfl (fun ls hl => ?_)
  refine lv_aload_n hx hb dX3_does_33 rfl (lv_at hl 2 rfl) ?_
  refine sl_gX_36_3_3 (v := 2) hx hb hts hown hK hP (show f 36 3 = 2 from hf_36_3) dX3_does_34 ?_
  refine lv_bipush (v := 24) hx hb dX3_does_37 bp_24 ?_
  refine lv_icmp_ge (tgt := 53) hx hb dX3_does_39 (by decide) (fun c => absurd c (by decide)) (fun c => ?_)
  refine lv_aload_n hx hb dX3_does_42 rfl (lv_at hl 2 rfl) ?_
  refine sl_gX_36_1_3 hx hb hts hown hK hP dX3_does_43 ?_
  refine lv_aload_n hx hb dX3_does_46 rfl (lv_at hl 2 rfl) ?_
  refine sl_gX_36_3_3 (v := 2) hx hb hts hown hK hP (show f 36 3 = 2 from hf_36_3) dX3_does_47 ?_
  refine lv_iload hx hb dX3_does_50 (lv_at hl 0 rfl) ?_
  refine sg_iast hx hb hh hA hK hP hS 38 (by decide) 0 (fun _ => rfl) rfl (i := 2) (x := 20) (vp_in_iff.mpr (by decide)) dX3_does_52 (fun f_35 H locs ef_35 hP hS => ?_)
  have ef_35 : f_35 = sg_up f 38 (sgu (f 38) 2 20) := ef_35
  have hI : sgI loX hiX f_35 := by rw [ef_35]; exact sgI.put hI 38 2 (show 0 ≤ (20 : Int32).toInt ∧ (20 : Int32).toInt ≤ 81 from by decide)
  have hF : sgK WkX3_does_4_0_2_f2_f4 f f_35 := sgK.put hF ef_35 (by rfl)
  exact blk_53 f_35 _ _ _ (hs.trans ((spl_e u_34 (spl_e ef_35 rfl)))) (by have zz36_3 : (f_35 36 3).toInt = 2 := (congrArg Int32.toInt (show f_35 36 3 = 2 from (by rw [ef_35, sg_up_n (by decide)]; exact hf_36_3))).trans (by decide); exact ⟨by omega, by omega⟩) (by have zz36_4 : (f_35 36 4).toInt = 4 := (congrArg Int32.toInt (show f_35 36 4 = 4 from (by rw [ef_35, sg_up_n (by decide)]; exact hf_36_4))).trans (by decide); exact ⟨by omega, by omega⟩) hI hF hP hS (lv_sub hl [2, 5, 6, 1, 0] rfl)

abbrev WkX3_runs_10_m1_2_f2_f4 : List (Nat × Nat × Option Nat) := [(36, 36, some 3), (38, 38, some 2), (38, 38, some 3)]
set_option maxHeartbeats 4000000 in
set_option maxRecDepth 100000 in
theorem kX3_runs_10_m1_2_f2_f4 (l : Launch) (D : va_G) (ca : Nat → ClassId) (za h : Nat → Nat) (hh : sgH 52 h) (f : sg_F) (L : sg_L) (Q : sg_Q) (hI : sgI loX hiX f) (x2 : Int32) (hf_36_3 : f 36 3 = 2) (hf_36_4 : f 36 4 = 4) (p0 : 2 ≤ (f 36 3).toInt ∧ (f 36 3).toInt ≤ 2) (sz : Nat) : Met l yX3_runs gwX3_runs { frames := 4, cells := 0, slots := 0, locals := 100 } (sgP D vwCl (tyX ca) 52 h (eX ca h) zcX za f L Q sz [.ref (h 36), .int 10, .int (-1), .int x2, .int 2]) (sgQi D vwCl 52 h (eX ca h) sz (fun r f1 L1 Q1 => ((sgI loX hiX f1 ∧ sgK WkX3_runs_10_m1_2_f2_f4 f f1 ∧ L1 = L ∧ Q1 = Q) ∧ True ∧ (4 ≤ (f1 36 3).toInt ∧ (f1 36 3).toInt ≤ 4) ∧ (r, f1) = sX3_runs_10_m1_2_f2_f4 x2 f L))) 0 0 (sgA 52 h sz) := by
  refine sg_ofWi (cc := cX3_runs) (maxL := 5) RX3 (by decide) rfl rfl (Nat.le_of_ble_eq_true rfl) ?_
  intro p e s m below meth cd Qz ls hx hb hml hown hts hK hZ hP hS hl hret
  have hA := sgY.self (n := 52) (h := h) (sz := s.heap.size)
  have hl : lv_has ls 5 [(0, .ref (h 36)), (1, .int 10), (2, .int (-1)), (3, .int x2), (4, .int 2)] := hl
  obtain ⟨H, hH⟩ : ∃ z : Heap, z = s.heap := ⟨_, rfl⟩
  obtain ⟨locs, hlo⟩ : ∃ z : List Loc, z = [] := ⟨_, rfl⟩
  have hP : va_P D vwCl (sgw 52 h (eX ca h) f L Q) H := by rw [hH]; exact hP
  have hS : va_S (sgA 52 h s.heap.size) s.heap H locs := by rw [hH, hlo]; exact hS
  suffices hgo : W p l e ({ frames := 4, cells := 0, slots := 0, locals := 100 }) s m ([.ref (h 36), .int 10, .int (-1), .int x2, .int 2] : List Value).toArray below meth cd H locs 0 0 Qz (F0 m 0 ls []) by rw [hH, hlo] at hgo; exact hgo
  clear hH hlo
  obtain ⟨sp, hsp⟩ : ∃ z : Int32 × sg_F, z = sX3_runs_10_m1_2_f2_f4 x2 f L := ⟨_, rfl⟩
  have hs : sp = sX3_runs_10_m1_2_f2_f4 x2 f L := hsp
  have o_1 : (f 36 3).toInt = 2 := (congrArg Int32.toInt (show f 36 3 = 2 from hf_36_3)).trans (by decide)
  have hF : sgK WkX3_runs_10_m1_2_f2_f4 f f := sgK.rf
  refine lv_iload_n hx hb dX3_runs_0 rfl (lv_at hl 1 rfl) ?_
  refine lv_lookup (x := 10) (off := 148) (tgt := 149) hx hb dX3_runs_1 (by decide) (by decide) (by decide) ?_
  refine lv_aload_n hx hb dX3_runs_149 rfl (lv_at hl 0 rfl) ?_
  refine lv_aload_n hx hb dX3_runs_150 rfl (lv_at hl 0 rfl) ?_
  refine sl_gX_36_4_3 (v := 4) hx hb hts hown hK hP (show f 36 4 = 4 from hf_36_4) dX3_runs_151 ?_
  refine lv_iconst (v := 0) hx hb dX3_runs_154 ic_0 ?_
  refine lv_iload_n hx hb dX3_runs_155 rfl (lv_at hl 3 rfl) ?_
  refine lv_iload hx hb dX3_runs_156 (lv_at hl 4 rfl) ?_
  have q_2 : (f 36 3).toInt = 2 := (congrArg Int32.toInt (show f 36 3 = 2 from hf_36_3)).trans (by decide)
  refine sg_calli (va_runV (As := [.int 4, .int 0, .int x2, .int 2]) (rest := []) ⟨hx, hb, hml, hown, hts⟩ (kX3_does_4_0_2_f2_f4 l D ca za h hh f L Q hI x2 hf_36_3 hf_36_4 (by have k0 : (4 : Int32).toInt = 4 := ti_4; have k1 : (0 : Int32).toInt = 0 := ti_0; have k3 : (2 : Int32).toInt = 2 := ti_2; omega) H.size) (sl_c3_does_3_0_0_74_3 hts ⟨Nat.le_of_ble_eq_true rfl, Nat.le_of_ble_eq_true rfl⟩) (sl_vX_36 hA hK hP hS hZ) rfl rfl hl.1 rfl (lv_room (Nat.le_of_ble_eq_true rfl)) dX3_runs_158 ⟨Nat.le_refl _, Nat.le_refl _⟩) hA hS (fun r_7 f_4 L_5 Q_6 H locs hq hP hS => ?_)
  obtain ⟨⟨hI, hk_f_4, eL9, eQ9⟩, hq, p_8, u_9⟩ := hq
  rw [eL9, eQ9] at hP; clear eL9 eQ9
  have hF : sgK WkX3_runs_10_m1_2_f2_f4 f f_4 := sgK.tr hF hk_f_4 (by decide +kernel)
  obtain ⟨v_10, ev_10⟩ : ∃ z : Int32, z = f_4 36 3 := ⟨_, rfl⟩
  have q_11 : 0 ≤ v_10.toInt ∧ v_10.toInt ≤ 19 := by rw [ev_10]; exact hI 36 3
  have q_12 : (f_4 36 3).toInt = v_10.toInt := (congrArg Int32.toInt (show f_4 36 3 = v_10 from ev_10.symm))
  have k_14 : (4 : Int32).toInt = 4 := by decide
  have k_15 : (0 : Int32).toInt = 0 := by decide
  have k_16 : (2 : Int32).toInt = 2 := by decide
  refine lv_iconst (v := 2) hx hb dX3_runs_161 ic_2 ?_
  refine lv_imul hx hb dX3_runs_162 ?_
  refine lv_topi (fun v_17 ev_17 => ?_)
  exact hret _ _ _ _ (v_17) f_4 L Q dX3_runs_163 hP hS ⟨⟨hI, hF, rfl, rfl⟩, trivial, ⟨by omega, by omega⟩, (Eq.trans (Eq.symm (hs.trans ((spl2_e u_9 (spl_e ev_10 (spl_e ev_17 rfl)))))) hsp)⟩

abbrev WkX3_does_4_1_1_f1_f4 : List (Nat × Nat × Option Nat) := [(36, 36, some 3), (38, 38, some 1), (38, 38, some 2), (38, 38, some 3)]
set_option maxHeartbeats 4000000 in
set_option maxRecDepth 100000 in
theorem kX3_does_4_1_1_f1_f4 (l : Launch) (D : va_G) (ca : Nat → ClassId) (za h : Nat → Nat) (hh : sgH 52 h) (f : sg_F) (L : sg_L) (Q : sg_Q) (hI : sgI loX hiX f) (x2 : Int32) (hf_36_3 : f 36 3 = 1) (hf_36_4 : f 36 4 = 4) (p0 : 1 ≤ (f 36 3).toInt ∧ (f 36 3).toInt ≤ 1) (sz : Nat) : Met l yX3_does gwX3_does { frames := 5, cells := 0, slots := 0, locals := 124 } (sgP D vwCl (tyX ca) 52 h (eX ca h) zcX za f L Q sz [.ref (h 36), .int 4, .int 1, .int x2, .int 1]) (sgQi D vwCl 52 h (eX ca h) sz (fun r f1 L1 Q1 => ((sgI loX hiX f1 ∧ sgK WkX3_does_4_1_1_f1_f4 f f1 ∧ L1 = L ∧ Q1 = Q) ∧ True ∧ (4 ≤ (f1 36 3).toInt ∧ (f1 36 3).toInt ≤ 4) ∧ (r, f1) = sX3_does_4_1_1_f1_f4 x2 f L))) 0 0 (sgA 52 h sz) := by
  refine sg_ofWi (cc := cX3_does) (maxL := 7) RX3 (by decide) rfl rfl (Nat.le_of_ble_eq_true rfl) ?_
  intro p e s m below meth cd Qz ls hx hb hml hown hts hK hZ hP hS hl hret
  have hA := sgY.self (n := 52) (h := h) (sz := s.heap.size)
  have hl : lv_has ls 7 [(0, .ref (h 36)), (1, .int 4), (2, .int 1), (3, .int x2), (4, .int 1)] := hl
  obtain ⟨H, hH⟩ : ∃ z : Heap, z = s.heap := ⟨_, rfl⟩
  obtain ⟨locs, hlo⟩ : ∃ z : List Loc, z = [] := ⟨_, rfl⟩
  have hP : va_P D vwCl (sgw 52 h (eX ca h) f L Q) H := by rw [hH]; exact hP
  have hS : va_S (sgA 52 h s.heap.size) s.heap H locs := by rw [hH, hlo]; exact hS
  suffices hgo : W p l e ({ frames := 5, cells := 0, slots := 0, locals := 124 }) s m ([.ref (h 36), .int 4, .int 1, .int x2, .int 1] : List Value).toArray below meth cd H locs 0 0 Qz (F0 m 0 ls []) by rw [hH, hlo] at hgo; exact hgo
  clear hH hlo
  obtain ⟨sp, hsp⟩ : ∃ z : Int32 × sg_F, z = sX3_does_4_1_1_f1_f4 x2 f L := ⟨_, rfl⟩
  have hs : sp = sX3_does_4_1_1_f1_f4 x2 f L := hsp
  have o_1 : (f 36 3).toInt = 1 := (congrArg Int32.toInt (show f 36 3 = 1 from hf_36_3)).trans (by decide)
  have hF : sgK WkX3_does_4_1_1_f1_f4 f f := sgK.rf
  have blk_53 : ∀ (fp_53 : sg_F) (H : Heap) (locs : List Loc) (ls : Array Slot), sp = sX3_does_4_1_1_f1_f4_b53 x2 fp_53 L → 1 ≤ (fp_53 36 3).toInt ∧ (fp_53 36 3).toInt ≤ 1 → 4 ≤ (fp_53 36 4).toInt ∧ (fp_53 36 4).toInt ≤ 4 → sgI loX hiX fp_53 → sgK WkX3_does_4_1_1_f1_f4 f fp_53 → va_P D vwCl (sgw 52 h (eX ca h) fp_53 L Q) H → va_S (sgA 52 h s.heap.size) s.heap H locs → lv_has ls 7 [(0, .ref (h 36)), (3, .int x2), (4, .int 1), (5, .int 0), (6, .int 10)] → W p l e ({ frames := 5, cells := 0, slots := 0, locals := 124 }) s m ([.ref (h 36), .int 4, .int 1, .int x2, .int 1] : List Value).toArray below meth cd H locs 0 0 Qz (F0 m 53 ls []) := by
    intro fp_53 H locs ls hs hy0_53 hy1_53 hI hF hP hS hl
    obtain ⟨v_2, ev_2⟩ : ∃ z : Int32, z = fp_53 36 3 := ⟨_, rfl⟩
    have q_3 : 0 ≤ v_2.toInt ∧ v_2.toInt ≤ 19 := by rw [ev_2]; exact hI 36 3
    have q_4 : (fp_53 36 3).toInt = v_2.toInt := by rw [ev_2]
    obtain ⟨v_5, ev_5⟩ : ∃ z : Int32, z = fp_53 36 4 := ⟨_, rfl⟩
    have q_6 : 0 ≤ v_5.toInt ∧ v_5.toInt ≤ 7 := by rw [ev_5]; exact hI 36 4
    have q_7 : (fp_53 36 4).toInt = v_5.toInt := by rw [ev_5]
    have m_8 : fp_53 36 4 = 4 := (hF 36 4 (by decide)).trans hf_36_4
    refine lv_aload_n hx hb dX3_does_53 rfl (lv_at hl 0 rfl) ?_
    refine lv_dup hx hb dX3_does_54 rfl ?_
    refine sl_gX_36_3_3 (v := v_2) hx hb hts hown hK hP (show fp_53 36 3 = v_2 from ev_2.symm) dX3_does_55 ?_
    refine lv_iconst (v := 1) hx hb dX3_does_58 ic_1 ?_
    refine lv_iadd hx hb dX3_does_59 ?_
    refine lv_topi (fun v_9 ev_9 => ?_)
    have q_10 : v_9.toInt = v_2.toInt + 1 := by rw [ev_9]; first | exact cm_add ti_1 (by omega) (by omega) | (have k1 : (1 : Int32).toInt = 1 := ti_1; exact (bn_addI (by omega) (by omega)).trans (by omega))
    refine sl_pX_36_3_3 (x := v_9) hx hb hts hown hh hA hK hP hS dX3_does_60 (fun f_11 H locs ef_11 hP hS => ?_)
    have hI : sgI loX hiX f_11 := by rw [ef_11]; exact sgI.put hI 36 3 (show 0 ≤ (v_9 : Int32).toInt ∧ (v_9 : Int32).toInt ≤ 19 from ⟨by omega, by omega⟩)
    have hF : sgK WkX3_does_4_1_1_f1_f4 f f_11 := sgK.put hF ef_11 (by rfl)
    refine lv_aload_n hx hb dX3_does_63 rfl (lv_at hl 0 rfl) ?_
    refine lv_iload hx hb dX3_does_64 (lv_at hl 4 rfl) ?_
    refine sg_gets hx hb hZ 2 rfl hS hown (hts _ (List.mem_cons_of_mem _ mw_174)) (fun _ h9 => h9) dX3_does_66 ?_
    refine lv_iload hx hb dX3_does_69 (lv_at hl 3 rfl) ?_
    refine sg_sald hx hb hZ 2 rfl hS (y := 0) (N := 8) (vp_in_iff.mpr (by decide)) dX3_does_71 ?_
    refine W.eq (g2 := F0 m 72 ls [.int (-1), .int 10, .ref (h 36)]) (by rfl) ?_
    refine lv_iload_n hx hb dX3_does_72 rfl (lv_at hl 1 rfl) ?_
    refine lv_iload hx hb dX3_does_73 (lv_at hl 2 rfl) ?_
    refine lv_iconst (v := 1) hx hb dX3_does_75 ic_1 ?_
    refine lv_iadd hx hb dX3_does_76 ?_
    refine W.eq (g2 := F0 m 77 ls [.int 2, .int x2, .int (-1), .int 10, .ref (h 36)]) (by rw [show (1 + 1 : Int32) = 2 from by decide]) ?_
    have c_12 : v_9 = 2 := Int32.toInt_inj.mp (by have k9 : (2 : Int32).toInt = 2 := ti_2; omega)
    have q_13 : (f_11 36 3).toInt = 2 := (congrArg Int32.toInt (show f_11 36 3 = 2 from (Eq.trans (by rw [ef_11, sg_up_s, sgu_s]) c_12))).trans (by decide)
    refine sg_calli (va_runV (As := [.int 10, .int (-1), .int x2, .int 2]) (rest := []) ⟨hx, hb, hml, hown, hts⟩ (kX3_runs_10_m1_2_f2_f4 l D ca za h hh f_11 L Q hI x2 (Eq.trans (by rw [ef_11, sg_up_s, sgu_s]) c_12) (by rw [ef_11, sg_up_s, sgu_n (by decide)]; exact m_8) (by have k0 : (10 : Int32).toInt = 10 := ti_10; have k1 : ((-1) : Int32).toInt = (-1) := ti_m1; have k3 : (2 : Int32).toInt = 2 := ti_2; omega) H.size) (sl_c3_runs_4_0_0_100_3 hts ⟨Nat.le_of_ble_eq_true rfl, Nat.le_of_ble_eq_true rfl⟩) (sl_vX_36 hA hK hP hS hZ) rfl rfl hl.1 rfl (lv_room (Nat.le_of_ble_eq_true rfl)) dX3_does_77 ⟨Nat.le_refl _, Nat.le_refl _⟩) hA hS (fun r_18 f_15 L_16 Q_17 H locs hq hP hS => ?_)
    obtain ⟨⟨hI, hk_f_15, eL9, eQ9⟩, hq, p_19, u_20⟩ := hq
    rw [eL9, eQ9] at hP; clear eL9 eQ9
    have hF : sgK WkX3_does_4_1_1_f1_f4 f f_15 := sgK.tr hF hk_f_15 (by decide +kernel)
    obtain ⟨v_21, ev_21⟩ : ∃ z : Int32, z = f_15 36 3 := ⟨_, rfl⟩
    have q_22 : 0 ≤ v_21.toInt ∧ v_21.toInt ≤ 19 := by rw [ev_21]; exact hI 36 3
    have q_23 : (f_15 36 3).toInt = v_21.toInt := (congrArg Int32.toInt (show f_15 36 3 = v_21 from ev_21.symm))
    have k_25 : (10 : Int32).toInt = 10 := by decide
    have k_26 : ((-1) : Int32).toInt = (-1) := by decide
    have k_27 : (2 : Int32).toInt = 2 := by decide
    exact hret _ _ _ _ (r_18) f_15 L Q dX3_does_80 hP hS ⟨⟨hI, hF, rfl, rfl⟩, trivial, ⟨by omega, by omega⟩, (Eq.trans (Eq.symm (hs.trans ((spl_e ev_2 (spl_e ev_5 (spl_e ev_9 (spl_e ef_11 (spl2_e u_20 (spl_e ev_21 rfl))))))))) hsp)⟩
  refine lv_iload_n hx hb dX3_does_0 rfl (lv_at hl 1 rfl) ?_
  refine lv_iload_n hx hb dX3_does_1 rfl (lv_at hl 2 rfl) ?_
  refine sg_calli (va_runS (As := [.int 4, .int 1]) (rest := []) ⟨hx, hb, hml, hown, hts⟩ (kX3_ownerOf_4_1 l D ca za h hh f L Q hI H.size) (va_cwS 2 hts (gw_S (fun _ h => List.mem_cons_of_mem _ h) mw_189 mw_190 mw_47 mw_188) rfl rfl rfl hd_yX3_ownerOf.2 ⟨Nat.le_of_ble_eq_true rfl, Nat.le_of_ble_eq_true rfl⟩) (sg_preS hA hK hP hS hZ) rfl rfl hl.1 rfl (lv_room (Nat.le_of_ble_eq_true rfl)) dX3_does_2 ⟨Nat.le_refl _, Nat.le_refl _⟩) hA hS (fun r_33 f_30 L_31 Q_32 H locs hq hP hS => ?_)
  obtain ⟨⟨ef9, eL9, eQ9⟩, hq, u_34⟩ := hq
  rw [ef9, eL9, eQ9] at hP; clear ef9 eL9 eQ9
  obtain rfl : r_33 = 0 := Int32.toInt_inj.mp (by have k9 : (0 : Int32).toInt = 0 := ti_0; omega)
  refine lv_istore (lv' := [(5, .int 0), (0, .ref (h 36)), (1, .int 4), (2, .int 1), (3, .int x2), (4, .int 1)]) hx hb dX3_does_5 hl (by decide) rfl (fun ls hl => ?_)
  refine lv_iload hx hb dX3_does_7 (lv_at hl 0 rfl) ?_
  refine lv_if_lt (tgt := 19) hx hb dX3_does_9 (by decide) (fun c => absurd c (by decide)) (fun c => ?_)
  refine lv_iload hx hb dX3_does_12 (lv_at hl 5 rfl) ?_
  refine lv_bipush (v := 40) hx hb dX3_does_14 bp_40 ?_
  refine lv_icmp_le (tgt := 21) hx hb dX3_does_16 (by decide) (fun c => ?_) (fun c => absurd c (by decide))
  refine sg_gets hx hb hZ 3 rfl hS hown (hts _ (List.mem_cons_of_mem _ mw_173)) (fun _ h9 => h9) dX3_does_21 ?_
  refine lv_iload hx hb dX3_does_24 (lv_at hl 0 rfl) ?_
  refine lv_iconst (v := 4) hx hb dX3_does_26 ic_4 ?_
  refine lv_imul hx hb dX3_does_27 ?_
  refine W.eq (g2 := F0 m 28 ls [.int 0, .ref (za 3)]) (by rw [show (0 * 4 : Int32) = 0 from by decide]) ?_
  refine lv_iload_n hx hb dX3_does_28 rfl (lv_at hl 3 rfl) ?_
  refine lv_iadd hx hb dX3_does_29 ?_
  refine W.eq (g2 := F0 m 30 ls [.int 1, .ref (za 3)]) (by rw [show (0 + 1 : Int32) = 1 from by decide]) ?_
  refine sg_sald hx hb hZ 3 rfl hS (y := 1) (N := 32) (vp_in_iff.mpr (by decide)) dX3_does_30 ?_
  refine W.eq (g2 := F0 m 31 ls [.int 10]) (by rfl) ?_
  refine lv_istore (lv' := [(6, .int 10), (5, .int 0), (0, .ref (h 36)), (1, .int 4), (2, .int 1), (3, .int x2), (4, .int 1)]) hx hb dX3_does_31 hl (by decide) rfl (fun ls hl => ?_)
  refine lv_aload_n hx hb dX3_does_33 rfl (lv_at hl 2 rfl) ?_
  refine sl_gX_36_3_3 (v := 1) hx hb hts hown hK hP (show f 36 3 = 1 from hf_36_3) dX3_does_34 ?_
  refine lv_bipush (v := 24) hx hb dX3_does_37 bp_24 ?_
  refine lv_icmp_ge (tgt := 53) hx hb dX3_does_39 (by decide) (fun c => absurd c (by decide)) (fun c => ?_)
  refine lv_aload_n hx hb dX3_does_42 rfl (lv_at hl 2 rfl) ?_
  refine sl_gX_36_1_3 hx hb hts hown hK hP dX3_does_43 ?_
  refine lv_aload_n hx hb dX3_does_46 rfl (lv_at hl 2 rfl) ?_
  refine sl_gX_36_3_3 (v := 1) hx hb hts hown hK hP (show f 36 3 = 1 from hf_36_3) dX3_does_47 ?_
  refine lv_iload hx hb dX3_does_50 (lv_at hl 0 rfl) ?_
  refine sg_iast hx hb hh hA hK hP hS 38 (by decide) 0 (fun _ => rfl) rfl (i := 1) (x := 10) (vp_in_iff.mpr (by decide)) dX3_does_52 (fun f_35 H locs ef_35 hP hS => ?_)
  have ef_35 : f_35 = sg_up f 38 (sgu (f 38) 1 10) := ef_35
  have hI : sgI loX hiX f_35 := by rw [ef_35]; exact sgI.put hI 38 1 (show 0 ≤ (10 : Int32).toInt ∧ (10 : Int32).toInt ≤ 81 from by decide)
  have hF : sgK WkX3_does_4_1_1_f1_f4 f f_35 := sgK.put hF ef_35 (by rfl)
  exact blk_53 f_35 _ _ _ (hs.trans ((spl_e u_34 (spl_e ef_35 rfl)))) (by have zz36_3 : (f_35 36 3).toInt = 1 := (congrArg Int32.toInt (show f_35 36 3 = 1 from (by rw [ef_35, sg_up_n (by decide)]; exact hf_36_3))).trans (by decide); exact ⟨by omega, by omega⟩) (by have zz36_4 : (f_35 36 4).toInt = 4 := (congrArg Int32.toInt (show f_35 36 4 = 4 from (by rw [ef_35, sg_up_n (by decide)]; exact hf_36_4))).trans (by decide); exact ⟨by omega, by omega⟩) hI hF hP hS (lv_sub hl [2, 5, 6, 1, 0] rfl)

set_option maxHeartbeats 4000000 in
set_option maxRecDepth 100000 in
theorem kX3_runs_11_m1_3_f6_f4 (l : Launch) (D : va_G) (ca : Nat → ClassId) (za h : Nat → Nat) (hh : sgH 52 h) (f : sg_F) (L : sg_L) (Q : sg_Q) (hI : sgI loX hiX f) (x2 : Int32) (hf_36_3 : f 36 3 = 6) (hf_36_4 : f 36 4 = 4) (b2 : 1 ≤ x2.toInt ∧ x2.toInt ≤ 1) (p0 : 6 ≤ (f 36 3).toInt ∧ (f 36 3).toInt ≤ 6) (sz : Nat) : Met l yX3_runs gwX3_runs { frames := 0, cells := 0, slots := 0, locals := 0 } (sgP D vwCl (tyX ca) 52 h (eX ca h) zcX za f L Q sz [.ref (h 36), .int 11, .int (-1), .int x2, .int 3]) (sgQi D vwCl 52 h (eX ca h) sz (fun r f1 L1 Q1 => ((f1 = f ∧ L1 = L ∧ Q1 = Q) ∧ True ∧ (6 ≤ (f1 36 3).toInt ∧ (f1 36 3).toInt ≤ 6) ∧ (r) = sX3_runs_11_m1_3_f6_f4 x2 f L))) 0 0 (sgA 52 h sz) := by
  refine sg_ofWi (cc := cX3_runs) (maxL := 5) RX3 (by decide) rfl rfl (Nat.le_of_ble_eq_true rfl) ?_
  intro p e s m below meth cd Qz ls hx hb hml hown hts hK hZ hP hS hl hret
  have hA := sgY.self (n := 52) (h := h) (sz := s.heap.size)
  have hl : lv_has ls 5 [(0, .ref (h 36)), (1, .int 11), (2, .int (-1)), (3, .int x2), (4, .int 3)] := hl
  obtain ⟨H, hH⟩ : ∃ z : Heap, z = s.heap := ⟨_, rfl⟩
  obtain ⟨locs, hlo⟩ : ∃ z : List Loc, z = [] := ⟨_, rfl⟩
  have hP : va_P D vwCl (sgw 52 h (eX ca h) f L Q) H := by rw [hH]; exact hP
  have hS : va_S (sgA 52 h s.heap.size) s.heap H locs := by rw [hH, hlo]; exact hS
  suffices hgo : W p l e ({ frames := 0, cells := 0, slots := 0, locals := 0 }) s m ([.ref (h 36), .int 11, .int (-1), .int x2, .int 3] : List Value).toArray below meth cd H locs 0 0 Qz (F0 m 0 ls []) by rw [hH, hlo] at hgo; exact hgo
  clear hH hlo
  obtain ⟨sp, hsp⟩ : ∃ z : Int32, z = sX3_runs_11_m1_3_f6_f4 x2 f L := ⟨_, rfl⟩
  have hs : sp = sX3_runs_11_m1_3_f6_f4 x2 f L := hsp
  have o_1 : (f 36 3).toInt = 6 := (congrArg Int32.toInt (show f 36 3 = 6 from hf_36_3)).trans (by decide)
  refine lv_iload_n hx hb dX3_runs_0 rfl (lv_at hl 1 rfl) ?_
  refine lv_lookup (x := 11) (off := 163) (tgt := 164) hx hb dX3_runs_1 (by decide) (by decide) (by decide) ?_
  refine lv_iload_n hx hb dX3_runs_164 rfl (lv_at hl 3 rfl) ?_
  refine lv_aload_n hx hb dX3_runs_165 rfl (lv_at hl 0 rfl) ?_
  refine sl_gX_36_5_3 (v := (f 36 5)) hx hb hts hown hK hP rfl dX3_runs_166 ?_
  refine lv_topi (fun v_2 ev_2 => ?_)
  have q_3 : 0 ≤ v_2.toInt ∧ v_2.toInt ≤ 49 := by rw [ev_2]; exact hI 36 5
  refine lv_ixor hx hb dX3_runs_169 ?_
  refine lv_topi (fun v_4 ev_4 => ?_)
  have q_5 : (f 36 3).toInt = 6 := (congrArg Int32.toInt (show f 36 3 = 6 from hf_36_3)).trans (by decide)
  exact hret _ _ _ _ (v_4) f L Q dX3_runs_170 hP hS ⟨⟨rfl, rfl, rfl⟩, trivial, ⟨by omega, by omega⟩, (Eq.trans (Eq.symm (hs.trans ((spl_e ev_2 (spl_e ev_4 rfl))))) hsp)⟩

abbrev WkX3_does_1_2_2_f5_f4 : List (Nat × Nat × Option Nat) := [(36, 36, some 3), (38, 38, some 5)]
set_option maxHeartbeats 4000000 in
set_option maxRecDepth 100000 in
theorem kX3_does_1_2_2_f5_f4 (l : Launch) (D : va_G) (ca : Nat → ClassId) (za h : Nat → Nat) (hh : sgH 52 h) (f : sg_F) (L : sg_L) (Q : sg_Q) (hI : sgI loX hiX f) (x2 : Int32) (hf_36_3 : f 36 3 = 5) (hf_36_4 : f 36 4 = 4) (b2 : 1 ≤ x2.toInt ∧ x2.toInt ≤ 1) (p0 : 5 ≤ (f 36 3).toInt ∧ (f 36 3).toInt ≤ 5) (sz : Nat) : Met l yX3_does gwX3_does { frames := 1, cells := 0, slots := 0, locals := 24 } (sgP D vwCl (tyX ca) 52 h (eX ca h) zcX za f L Q sz [.ref (h 36), .int 1, .int 2, .int x2, .int 2]) (sgQi D vwCl 52 h (eX ca h) sz (fun r f1 L1 Q1 => ((sgI loX hiX f1 ∧ sgK WkX3_does_1_2_2_f5_f4 f f1 ∧ L1 = L ∧ Q1 = Q) ∧ True ∧ (6 ≤ (f1 36 3).toInt ∧ (f1 36 3).toInt ≤ 6) ∧ (r, f1) = sX3_does_1_2_2_f5_f4 x2 f L))) 0 0 (sgA 52 h sz) := by
  refine sg_ofWi (cc := cX3_does) (maxL := 7) RX3 (by decide) rfl rfl (Nat.le_of_ble_eq_true rfl) ?_
  intro p e s m below meth cd Qz ls hx hb hml hown hts hK hZ hP hS hl hret
  have hA := sgY.self (n := 52) (h := h) (sz := s.heap.size)
  have hl : lv_has ls 7 [(0, .ref (h 36)), (1, .int 1), (2, .int 2), (3, .int x2), (4, .int 2)] := hl
  obtain ⟨H, hH⟩ : ∃ z : Heap, z = s.heap := ⟨_, rfl⟩
  obtain ⟨locs, hlo⟩ : ∃ z : List Loc, z = [] := ⟨_, rfl⟩
  have hP : va_P D vwCl (sgw 52 h (eX ca h) f L Q) H := by rw [hH]; exact hP
  have hS : va_S (sgA 52 h s.heap.size) s.heap H locs := by rw [hH, hlo]; exact hS
  suffices hgo : W p l e ({ frames := 1, cells := 0, slots := 0, locals := 24 }) s m ([.ref (h 36), .int 1, .int 2, .int x2, .int 2] : List Value).toArray below meth cd H locs 0 0 Qz (F0 m 0 ls []) by rw [hH, hlo] at hgo; exact hgo
  clear hH hlo
  obtain ⟨sp, hsp⟩ : ∃ z : Int32 × sg_F, z = sX3_does_1_2_2_f5_f4 x2 f L := ⟨_, rfl⟩
  have hs : sp = sX3_does_1_2_2_f5_f4 x2 f L := hsp
  have o_1 : (f 36 3).toInt = 5 := (congrArg Int32.toInt (show f 36 3 = 5 from hf_36_3)).trans (by decide)
  have hF : sgK WkX3_does_1_2_2_f5_f4 f f := sgK.rf
  have blk_53 : ∀ (fp_53 : sg_F) (H : Heap) (locs : List Loc) (ls : Array Slot), sp = sX3_does_1_2_2_f5_f4_b53 x2 fp_53 L → 5 ≤ (fp_53 36 3).toInt ∧ (fp_53 36 3).toInt ≤ 5 → 4 ≤ (fp_53 36 4).toInt ∧ (fp_53 36 4).toInt ≤ 4 → sgI loX hiX fp_53 → sgK WkX3_does_1_2_2_f5_f4 f fp_53 → va_P D vwCl (sgw 52 h (eX ca h) fp_53 L Q) H → va_S (sgA 52 h s.heap.size) s.heap H locs → lv_has ls 7 [(0, .ref (h 36)), (3, .int x2), (4, .int 2), (5, .int 0), (6, .int 11)] → W p l e ({ frames := 1, cells := 0, slots := 0, locals := 24 }) s m ([.ref (h 36), .int 1, .int 2, .int x2, .int 2] : List Value).toArray below meth cd H locs 0 0 Qz (F0 m 53 ls []) := by
    intro fp_53 H locs ls hs hy0_53 hy1_53 hI hF hP hS hl
    obtain ⟨v_2, ev_2⟩ : ∃ z : Int32, z = fp_53 36 3 := ⟨_, rfl⟩
    have q_3 : 0 ≤ v_2.toInt ∧ v_2.toInt ≤ 19 := by rw [ev_2]; exact hI 36 3
    have q_4 : (fp_53 36 3).toInt = v_2.toInt := by rw [ev_2]
    obtain ⟨v_5, ev_5⟩ : ∃ z : Int32, z = fp_53 36 4 := ⟨_, rfl⟩
    have q_6 : 0 ≤ v_5.toInt ∧ v_5.toInt ≤ 7 := by rw [ev_5]; exact hI 36 4
    have q_7 : (fp_53 36 4).toInt = v_5.toInt := by rw [ev_5]
    have m_8 : fp_53 36 4 = 4 := (hF 36 4 (by decide)).trans hf_36_4
    refine lv_aload_n hx hb dX3_does_53 rfl (lv_at hl 0 rfl) ?_
    refine lv_dup hx hb dX3_does_54 rfl ?_
    refine sl_gX_36_3_3 (v := v_2) hx hb hts hown hK hP (show fp_53 36 3 = v_2 from ev_2.symm) dX3_does_55 ?_
    refine lv_iconst (v := 1) hx hb dX3_does_58 ic_1 ?_
    refine lv_iadd hx hb dX3_does_59 ?_
    refine lv_topi (fun v_9 ev_9 => ?_)
    have q_10 : v_9.toInt = v_2.toInt + 1 := by rw [ev_9]; first | exact cm_add ti_1 (by omega) (by omega) | (have k1 : (1 : Int32).toInt = 1 := ti_1; exact (bn_addI (by omega) (by omega)).trans (by omega))
    refine sl_pX_36_3_3 (x := v_9) hx hb hts hown hh hA hK hP hS dX3_does_60 (fun f_11 H locs ef_11 hP hS => ?_)
    have hI : sgI loX hiX f_11 := by rw [ef_11]; exact sgI.put hI 36 3 (show 0 ≤ (v_9 : Int32).toInt ∧ (v_9 : Int32).toInt ≤ 19 from ⟨by omega, by omega⟩)
    have hF : sgK WkX3_does_1_2_2_f5_f4 f f_11 := sgK.put hF ef_11 (by rfl)
    refine lv_aload_n hx hb dX3_does_63 rfl (lv_at hl 0 rfl) ?_
    refine lv_iload hx hb dX3_does_64 (lv_at hl 4 rfl) ?_
    refine sg_gets hx hb hZ 2 rfl hS hown (hts _ (List.mem_cons_of_mem _ mw_174)) (fun _ h9 => h9) dX3_does_66 ?_
    refine lv_iload hx hb dX3_does_69 (lv_at hl 3 rfl) ?_
    refine sg_sald hx hb hZ 2 rfl hS (y := 0) (N := 8) (vp_in_iff.mpr (by decide)) dX3_does_71 ?_
    refine W.eq (g2 := F0 m 72 ls [.int (-1), .int 11, .ref (h 36)]) (by rfl) ?_
    refine lv_iload_n hx hb dX3_does_72 rfl (lv_at hl 1 rfl) ?_
    refine lv_iload hx hb dX3_does_73 (lv_at hl 2 rfl) ?_
    refine lv_iconst (v := 1) hx hb dX3_does_75 ic_1 ?_
    refine lv_iadd hx hb dX3_does_76 ?_
    refine W.eq (g2 := F0 m 77 ls [.int 3, .int x2, .int (-1), .int 11, .ref (h 36)]) (by rw [show (2 + 1 : Int32) = 3 from by decide]) ?_
    have c_12 : v_9 = 6 := Int32.toInt_inj.mp (by have k9 : (6 : Int32).toInt = 6 := ti_6; omega)
    have q_13 : (f_11 36 3).toInt = 6 := (congrArg Int32.toInt (show f_11 36 3 = 6 from (Eq.trans (by rw [ef_11, sg_up_s, sgu_s]) c_12))).trans (by decide)
    refine sg_calli (va_runV (As := [.int 11, .int (-1), .int x2, .int 3]) (rest := []) ⟨hx, hb, hml, hown, hts⟩ (kX3_runs_11_m1_3_f6_f4 l D ca za h hh f_11 L Q hI x2 (Eq.trans (by rw [ef_11, sg_up_s, sgu_s]) c_12) (by rw [ef_11, sg_up_s, sgu_n (by decide)]; exact m_8) b2 (by have k0 : (11 : Int32).toInt = 11 := ti_11; have k1 : ((-1) : Int32).toInt = (-1) := ti_m1; have k3 : (3 : Int32).toInt = 3 := ti_3; omega) H.size) (sl_c3_runs_0_0_0_0_3 hts ⟨Nat.le_of_ble_eq_true rfl, Nat.le_of_ble_eq_true rfl⟩) (sl_vX_36 hA hK hP hS hZ) rfl rfl hl.1 rfl (lv_room (Nat.le_of_ble_eq_true rfl)) dX3_does_77 ⟨Nat.le_refl _, Nat.le_refl _⟩) hA hS (fun r_18 f_15 L_16 Q_17 H locs hq hP hS => ?_)
    obtain ⟨⟨ef9, eL9, eQ9⟩, hq, p_19, u_20⟩ := hq
    rw [ef9, eL9, eQ9] at hP; clear ef9 eL9 eQ9
    have k_23 : (11 : Int32).toInt = 11 := by decide
    have k_24 : ((-1) : Int32).toInt = (-1) := by decide
    have k_25 : (3 : Int32).toInt = 3 := by decide
    exact hret _ _ _ _ (r_18) f_11 L Q dX3_does_80 hP hS ⟨⟨hI, hF, rfl, rfl⟩, trivial, ⟨by omega, by omega⟩, (Eq.trans (Eq.symm (hs.trans ((spl_e ev_2 (spl_e ev_5 (spl_e ev_9 (spl_e ef_11 (spl_e u_20 rfl)))))))) hsp)⟩
  refine lv_iload_n hx hb dX3_does_0 rfl (lv_at hl 1 rfl) ?_
  refine lv_iload_n hx hb dX3_does_1 rfl (lv_at hl 2 rfl) ?_
  refine sg_calli (va_runS (As := [.int 1, .int 2]) (rest := []) ⟨hx, hb, hml, hown, hts⟩ (kX3_ownerOf_1_2 l D ca za h hh f L Q hI H.size) (va_cwS 2 hts (gw_S (fun _ h => List.mem_cons_of_mem _ h) mw_189 mw_190 mw_47 mw_188) rfl rfl rfl hd_yX3_ownerOf.2 ⟨Nat.le_of_ble_eq_true rfl, Nat.le_of_ble_eq_true rfl⟩) (sg_preS hA hK hP hS hZ) rfl rfl hl.1 rfl (lv_room (Nat.le_of_ble_eq_true rfl)) dX3_does_2 ⟨Nat.le_refl _, Nat.le_refl _⟩) hA hS (fun r_31 f_28 L_29 Q_30 H locs hq hP hS => ?_)
  obtain ⟨⟨ef9, eL9, eQ9⟩, hq, u_32⟩ := hq
  rw [ef9, eL9, eQ9] at hP; clear ef9 eL9 eQ9
  obtain rfl : r_31 = 0 := Int32.toInt_inj.mp (by have k9 : (0 : Int32).toInt = 0 := ti_0; omega)
  refine lv_istore (lv' := [(5, .int 0), (0, .ref (h 36)), (1, .int 1), (2, .int 2), (3, .int x2), (4, .int 2)]) hx hb dX3_does_5 hl (by decide) rfl (fun ls hl => ?_)
  refine lv_iload hx hb dX3_does_7 (lv_at hl 0 rfl) ?_
  refine lv_if_lt (tgt := 19) hx hb dX3_does_9 (by decide) (fun c => absurd c (by decide)) (fun c => ?_)
  refine lv_iload hx hb dX3_does_12 (lv_at hl 5 rfl) ?_
  refine lv_bipush (v := 40) hx hb dX3_does_14 bp_40 ?_
  refine lv_icmp_le (tgt := 21) hx hb dX3_does_16 (by decide) (fun c => ?_) (fun c => absurd c (by decide))
  refine sg_gets hx hb hZ 3 rfl hS hown (hts _ (List.mem_cons_of_mem _ mw_173)) (fun _ h9 => h9) dX3_does_21 ?_
  refine lv_iload hx hb dX3_does_24 (lv_at hl 0 rfl) ?_
  refine lv_iconst (v := 4) hx hb dX3_does_26 ic_4 ?_
  refine lv_imul hx hb dX3_does_27 ?_
  refine W.eq (g2 := F0 m 28 ls [.int 0, .ref (za 3)]) (by rw [show (0 * 4 : Int32) = 0 from by decide]) ?_
  refine lv_iload_n hx hb dX3_does_28 rfl (lv_at hl 3 rfl) ?_
  refine lv_iadd hx hb dX3_does_29 ?_
  refine W.eq (g2 := F0 m 30 ls [.int 2, .ref (za 3)]) (by rw [show (0 + 2 : Int32) = 2 from by decide]) ?_
  refine sg_sald hx hb hZ 3 rfl hS (y := 2) (N := 32) (vp_in_iff.mpr (by decide)) dX3_does_30 ?_
  refine W.eq (g2 := F0 m 31 ls [.int 11]) (by rfl) ?_
  refine lv_istore (lv' := [(6, .int 11), (5, .int 0), (0, .ref (h 36)), (1, .int 1), (2, .int 2), (3, .int x2), (4, .int 2)]) hx hb dX3_does_31 hl (by decide) rfl (fun ls hl => ?_)
  refine lv_aload_n hx hb dX3_does_33 rfl (lv_at hl 2 rfl) ?_
  refine sl_gX_36_3_3 (v := 5) hx hb hts hown hK hP (show f 36 3 = 5 from hf_36_3) dX3_does_34 ?_
  refine lv_bipush (v := 24) hx hb dX3_does_37 bp_24 ?_
  refine lv_icmp_ge (tgt := 53) hx hb dX3_does_39 (by decide) (fun c => absurd c (by decide)) (fun c => ?_)
  refine lv_aload_n hx hb dX3_does_42 rfl (lv_at hl 2 rfl) ?_
  refine sl_gX_36_1_3 hx hb hts hown hK hP dX3_does_43 ?_
  refine lv_aload_n hx hb dX3_does_46 rfl (lv_at hl 2 rfl) ?_
  refine sl_gX_36_3_3 (v := 5) hx hb hts hown hK hP (show f 36 3 = 5 from hf_36_3) dX3_does_47 ?_
  refine lv_iload hx hb dX3_does_50 (lv_at hl 0 rfl) ?_
  refine sg_iast hx hb hh hA hK hP hS 38 (by decide) 0 (fun _ => rfl) rfl (i := 5) (x := 11) (vp_in_iff.mpr (by decide)) dX3_does_52 (fun f_33 H locs ef_33 hP hS => ?_)
  have ef_33 : f_33 = sg_up f 38 (sgu (f 38) 5 11) := ef_33
  have hI : sgI loX hiX f_33 := by rw [ef_33]; exact sgI.put hI 38 5 (show 0 ≤ (11 : Int32).toInt ∧ (11 : Int32).toInt ≤ 81 from by decide)
  have hF : sgK WkX3_does_1_2_2_f5_f4 f f_33 := sgK.put hF ef_33 (by rfl)
  exact blk_53 f_33 _ _ _ (hs.trans ((spl_e u_32 (spl_e ef_33 rfl)))) (by have zz36_3 : (f_33 36 3).toInt = 5 := (congrArg Int32.toInt (show f_33 36 3 = 5 from (by rw [ef_33, sg_up_n (by decide)]; exact hf_36_3))).trans (by decide); exact ⟨by omega, by omega⟩) (by have zz36_4 : (f_33 36 4).toInt = 4 := (congrArg Int32.toInt (show f_33 36 4 = 4 from (by rw [ef_33, sg_up_n (by decide)]; exact hf_36_4))).trans (by decide); exact ⟨by omega, by omega⟩) hI hF hP hS (lv_sub hl [2, 5, 6, 1, 0] rfl)

set_option maxHeartbeats 4000000 in
set_option maxRecDepth 100000 in
theorem kX3_runs_1_m1_4_f8_f4 (l : Launch) (D : va_G) (ca : Nat → ClassId) (za h : Nat → Nat) (hh : sgH 52 h) (f : sg_F) (L : sg_L) (Q : sg_Q) (hI : sgI loX hiX f) (x2 : Int32) (hf_36_3 : f 36 3 = 8) (hf_36_4 : f 36 4 = 4) (b2 : 2 ≤ x2.toInt ∧ x2.toInt ≤ 2) (p0 : 8 ≤ (f 36 3).toInt ∧ (f 36 3).toInt ≤ 8) (sz : Nat) : Met l yX3_runs gwX3_runs { frames := 0, cells := 0, slots := 0, locals := 0 } (sgP D vwCl (tyX ca) 52 h (eX ca h) zcX za f L Q sz [.ref (h 36), .int 1, .int (-1), .int x2, .int 4]) (sgQi D vwCl 52 h (eX ca h) sz (fun r f1 L1 Q1 => ((f1 = f ∧ L1 = L ∧ Q1 = Q) ∧ (2 ≤ r.toInt ∧ r.toInt ≤ 51) ∧ (8 ≤ (f1 36 3).toInt ∧ (f1 36 3).toInt ≤ 8) ∧ (r) = sX3_runs_1_m1_4_f8_f4 x2 f L))) 0 0 (sgA 52 h sz) := by
  refine sg_ofWi (cc := cX3_runs) (maxL := 5) RX3 (by decide) rfl rfl (Nat.le_of_ble_eq_true rfl) ?_
  intro p e s m below meth cd Qz ls hx hb hml hown hts hK hZ hP hS hl hret
  have hA := sgY.self (n := 52) (h := h) (sz := s.heap.size)
  have hl : lv_has ls 5 [(0, .ref (h 36)), (1, .int 1), (2, .int (-1)), (3, .int x2), (4, .int 4)] := hl
  obtain ⟨H, hH⟩ : ∃ z : Heap, z = s.heap := ⟨_, rfl⟩
  obtain ⟨locs, hlo⟩ : ∃ z : List Loc, z = [] := ⟨_, rfl⟩
  have hP : va_P D vwCl (sgw 52 h (eX ca h) f L Q) H := by rw [hH]; exact hP
  have hS : va_S (sgA 52 h s.heap.size) s.heap H locs := by rw [hH, hlo]; exact hS
  suffices hgo : W p l e ({ frames := 0, cells := 0, slots := 0, locals := 0 }) s m ([.ref (h 36), .int 1, .int (-1), .int x2, .int 4] : List Value).toArray below meth cd H locs 0 0 Qz (F0 m 0 ls []) by rw [hH, hlo] at hgo; exact hgo
  clear hH hlo
  obtain ⟨sp, hsp⟩ : ∃ z : Int32, z = sX3_runs_1_m1_4_f8_f4 x2 f L := ⟨_, rfl⟩
  have hs : sp = sX3_runs_1_m1_4_f8_f4 x2 f L := hsp
  have o_1 : (f 36 3).toInt = 8 := (congrArg Int32.toInt (show f 36 3 = 8 from hf_36_3)).trans (by decide)
  refine lv_iload_n hx hb dX3_runs_0 rfl (lv_at hl 1 rfl) ?_
  refine lv_lookup (x := 1) (off := 115) (tgt := 116) hx hb dX3_runs_1 (by decide) (by decide) (by decide) ?_
  refine lv_iload_n hx hb dX3_runs_116 rfl (lv_at hl 3 rfl) ?_
  refine lv_aload_n hx hb dX3_runs_117 rfl (lv_at hl 0 rfl) ?_
  refine sl_gX_36_5_3 (v := (f 36 5)) hx hb hts hown hK hP rfl dX3_runs_118 ?_
  refine lv_topi (fun v_2 ev_2 => ?_)
  have q_3 : 0 ≤ v_2.toInt ∧ v_2.toInt ≤ 49 := by rw [ev_2]; exact hI 36 5
  refine lv_iadd hx hb dX3_runs_121 ?_
  refine lv_topi (fun v_4 ev_4 => ?_)
  have q_5 : v_4.toInt = x2.toInt + v_2.toInt := by rw [ev_4]; first | exact bn_addI (by omega) (by omega) | exact (bn_addI (by omega) (by omega)).trans (by omega)
  have q_6 : (f 36 3).toInt = 8 := (congrArg Int32.toInt (show f 36 3 = 8 from hf_36_3)).trans (by decide)
  exact hret _ _ _ _ (v_4) f L Q dX3_runs_122 hP hS ⟨⟨rfl, rfl, rfl⟩, ⟨by omega, by omega⟩, ⟨by omega, by omega⟩, (Eq.trans (Eq.symm (hs.trans ((spl_e ev_2 (spl_e ev_4 rfl))))) hsp)⟩

abbrev WkX3_does_0_0_3_f7_f4 : List (Nat × Nat × Option Nat) := [(36, 36, some 3), (38, 38, some 7)]
set_option maxHeartbeats 4000000 in
set_option maxRecDepth 100000 in
theorem kX3_does_0_0_3_f7_f4 (l : Launch) (D : va_G) (ca : Nat → ClassId) (za h : Nat → Nat) (hh : sgH 52 h) (f : sg_F) (L : sg_L) (Q : sg_Q) (hI : sgI loX hiX f) (x2 : Int32) (hf_36_3 : f 36 3 = 7) (hf_36_4 : f 36 4 = 4) (b2 : 2 ≤ x2.toInt ∧ x2.toInt ≤ 2) (p0 : 7 ≤ (f 36 3).toInt ∧ (f 36 3).toInt ≤ 7) (sz : Nat) : Met l yX3_does gwX3_does { frames := 1, cells := 0, slots := 0, locals := 24 } (sgP D vwCl (tyX ca) 52 h (eX ca h) zcX za f L Q sz [.ref (h 36), .int 0, .int 0, .int x2, .int 3]) (sgQi D vwCl 52 h (eX ca h) sz (fun r f1 L1 Q1 => ((sgI loX hiX f1 ∧ sgK WkX3_does_0_0_3_f7_f4 f f1 ∧ L1 = L ∧ Q1 = Q) ∧ (2 ≤ r.toInt ∧ r.toInt ≤ 51) ∧ (8 ≤ (f1 36 3).toInt ∧ (f1 36 3).toInt ≤ 8) ∧ (r, f1) = sX3_does_0_0_3_f7_f4 x2 f L))) 0 0 (sgA 52 h sz) := by
  refine sg_ofWi (cc := cX3_does) (maxL := 7) RX3 (by decide) rfl rfl (Nat.le_of_ble_eq_true rfl) ?_
  intro p e s m below meth cd Qz ls hx hb hml hown hts hK hZ hP hS hl hret
  have hA := sgY.self (n := 52) (h := h) (sz := s.heap.size)
  have hl : lv_has ls 7 [(0, .ref (h 36)), (1, .int 0), (2, .int 0), (3, .int x2), (4, .int 3)] := hl
  obtain ⟨H, hH⟩ : ∃ z : Heap, z = s.heap := ⟨_, rfl⟩
  obtain ⟨locs, hlo⟩ : ∃ z : List Loc, z = [] := ⟨_, rfl⟩
  have hP : va_P D vwCl (sgw 52 h (eX ca h) f L Q) H := by rw [hH]; exact hP
  have hS : va_S (sgA 52 h s.heap.size) s.heap H locs := by rw [hH, hlo]; exact hS
  suffices hgo : W p l e ({ frames := 1, cells := 0, slots := 0, locals := 24 }) s m ([.ref (h 36), .int 0, .int 0, .int x2, .int 3] : List Value).toArray below meth cd H locs 0 0 Qz (F0 m 0 ls []) by rw [hH, hlo] at hgo; exact hgo
  clear hH hlo
  obtain ⟨sp, hsp⟩ : ∃ z : Int32 × sg_F, z = sX3_does_0_0_3_f7_f4 x2 f L := ⟨_, rfl⟩
  have hs : sp = sX3_does_0_0_3_f7_f4 x2 f L := hsp
  have o_1 : (f 36 3).toInt = 7 := (congrArg Int32.toInt (show f 36 3 = 7 from hf_36_3)).trans (by decide)
  have hF : sgK WkX3_does_0_0_3_f7_f4 f f := sgK.rf
  have blk_53 : ∀ (fp_53 : sg_F) (H : Heap) (locs : List Loc) (ls : Array Slot), sp = sX3_does_0_0_3_f7_f4_b53 x2 fp_53 L → 7 ≤ (fp_53 36 3).toInt ∧ (fp_53 36 3).toInt ≤ 7 → 4 ≤ (fp_53 36 4).toInt ∧ (fp_53 36 4).toInt ≤ 4 → sgI loX hiX fp_53 → sgK WkX3_does_0_0_3_f7_f4 f fp_53 → va_P D vwCl (sgw 52 h (eX ca h) fp_53 L Q) H → va_S (sgA 52 h s.heap.size) s.heap H locs → lv_has ls 7 [(0, .ref (h 36)), (3, .int x2), (4, .int 3), (5, .int 0), (6, .int 1)] → W p l e ({ frames := 1, cells := 0, slots := 0, locals := 24 }) s m ([.ref (h 36), .int 0, .int 0, .int x2, .int 3] : List Value).toArray below meth cd H locs 0 0 Qz (F0 m 53 ls []) := by
    intro fp_53 H locs ls hs hy0_53 hy1_53 hI hF hP hS hl
    obtain ⟨v_2, ev_2⟩ : ∃ z : Int32, z = fp_53 36 3 := ⟨_, rfl⟩
    have q_3 : 0 ≤ v_2.toInt ∧ v_2.toInt ≤ 19 := by rw [ev_2]; exact hI 36 3
    have q_4 : (fp_53 36 3).toInt = v_2.toInt := by rw [ev_2]
    obtain ⟨v_5, ev_5⟩ : ∃ z : Int32, z = fp_53 36 4 := ⟨_, rfl⟩
    have q_6 : 0 ≤ v_5.toInt ∧ v_5.toInt ≤ 7 := by rw [ev_5]; exact hI 36 4
    have q_7 : (fp_53 36 4).toInt = v_5.toInt := by rw [ev_5]
    have m_8 : fp_53 36 4 = 4 := (hF 36 4 (by decide)).trans hf_36_4
    refine lv_aload_n hx hb dX3_does_53 rfl (lv_at hl 0 rfl) ?_
    refine lv_dup hx hb dX3_does_54 rfl ?_
    refine sl_gX_36_3_3 (v := v_2) hx hb hts hown hK hP (show fp_53 36 3 = v_2 from ev_2.symm) dX3_does_55 ?_
    refine lv_iconst (v := 1) hx hb dX3_does_58 ic_1 ?_
    refine lv_iadd hx hb dX3_does_59 ?_
    refine lv_topi (fun v_9 ev_9 => ?_)
    have q_10 : v_9.toInt = v_2.toInt + 1 := by rw [ev_9]; first | exact cm_add ti_1 (by omega) (by omega) | (have k1 : (1 : Int32).toInt = 1 := ti_1; exact (bn_addI (by omega) (by omega)).trans (by omega))
    refine sl_pX_36_3_3 (x := v_9) hx hb hts hown hh hA hK hP hS dX3_does_60 (fun f_11 H locs ef_11 hP hS => ?_)
    have hI : sgI loX hiX f_11 := by rw [ef_11]; exact sgI.put hI 36 3 (show 0 ≤ (v_9 : Int32).toInt ∧ (v_9 : Int32).toInt ≤ 19 from ⟨by omega, by omega⟩)
    have hF : sgK WkX3_does_0_0_3_f7_f4 f f_11 := sgK.put hF ef_11 (by rfl)
    refine lv_aload_n hx hb dX3_does_63 rfl (lv_at hl 0 rfl) ?_
    refine lv_iload hx hb dX3_does_64 (lv_at hl 4 rfl) ?_
    refine sg_gets hx hb hZ 2 rfl hS hown (hts _ (List.mem_cons_of_mem _ mw_174)) (fun _ h9 => h9) dX3_does_66 ?_
    refine lv_iload hx hb dX3_does_69 (lv_at hl 3 rfl) ?_
    refine sg_sald hx hb hZ 2 rfl hS (y := 0) (N := 8) (vp_in_iff.mpr (by decide)) dX3_does_71 ?_
    refine W.eq (g2 := F0 m 72 ls [.int (-1), .int 1, .ref (h 36)]) (by rfl) ?_
    refine lv_iload_n hx hb dX3_does_72 rfl (lv_at hl 1 rfl) ?_
    refine lv_iload hx hb dX3_does_73 (lv_at hl 2 rfl) ?_
    refine lv_iconst (v := 1) hx hb dX3_does_75 ic_1 ?_
    refine lv_iadd hx hb dX3_does_76 ?_
    refine W.eq (g2 := F0 m 77 ls [.int 4, .int x2, .int (-1), .int 1, .ref (h 36)]) (by rw [show (3 + 1 : Int32) = 4 from by decide]) ?_
    have c_12 : v_9 = 8 := Int32.toInt_inj.mp (by have k9 : (8 : Int32).toInt = 8 := ti_8; omega)
    have q_13 : (f_11 36 3).toInt = 8 := (congrArg Int32.toInt (show f_11 36 3 = 8 from (Eq.trans (by rw [ef_11, sg_up_s, sgu_s]) c_12))).trans (by decide)
    refine sg_calli (va_runV (As := [.int 1, .int (-1), .int x2, .int 4]) (rest := []) ⟨hx, hb, hml, hown, hts⟩ (kX3_runs_1_m1_4_f8_f4 l D ca za h hh f_11 L Q hI x2 (Eq.trans (by rw [ef_11, sg_up_s, sgu_s]) c_12) (by rw [ef_11, sg_up_s, sgu_n (by decide)]; exact m_8) b2 (by have k0 : (1 : Int32).toInt = 1 := ti_1; have k1 : ((-1) : Int32).toInt = (-1) := ti_m1; have k3 : (4 : Int32).toInt = 4 := ti_4; omega) H.size) (sl_c3_runs_0_0_0_0_3 hts ⟨Nat.le_of_ble_eq_true rfl, Nat.le_of_ble_eq_true rfl⟩) (sl_vX_36 hA hK hP hS hZ) rfl rfl hl.1 rfl (lv_room (Nat.le_of_ble_eq_true rfl)) dX3_does_77 ⟨Nat.le_refl _, Nat.le_refl _⟩) hA hS (fun r_18 f_15 L_16 Q_17 H locs hq hP hS => ?_)
    obtain ⟨⟨ef9, eL9, eQ9⟩, hq, p_19, u_20⟩ := hq
    rw [ef9, eL9, eQ9] at hP; clear ef9 eL9 eQ9
    have k_23 : (1 : Int32).toInt = 1 := by decide
    have k_24 : ((-1) : Int32).toInt = (-1) := by decide
    have k_25 : (4 : Int32).toInt = 4 := by decide
    exact hret _ _ _ _ (r_18) f_11 L Q dX3_does_80 hP hS ⟨⟨hI, hF, rfl, rfl⟩, ⟨by omega, by omega⟩, ⟨by omega, by omega⟩, (Eq.trans (Eq.symm (hs.trans ((spl_e ev_2 (spl_e ev_5 (spl_e ev_9 (spl_e ef_11 (spl_e u_20 rfl)))))))) hsp)⟩
  refine lv_iload_n hx hb dX3_does_0 rfl (lv_at hl 1 rfl) ?_
  refine lv_iload_n hx hb dX3_does_1 rfl (lv_at hl 2 rfl) ?_
  refine sg_calli (va_runS (As := [.int 0, .int 0]) (rest := []) ⟨hx, hb, hml, hown, hts⟩ (kX3_ownerOf_0_0 l D ca za h hh f L Q hI H.size) (va_cwS 2 hts (gw_S (fun _ h => List.mem_cons_of_mem _ h) mw_189 mw_190 mw_47 mw_188) rfl rfl rfl hd_yX3_ownerOf.2 ⟨Nat.le_of_ble_eq_true rfl, Nat.le_of_ble_eq_true rfl⟩) (sg_preS hA hK hP hS hZ) rfl rfl hl.1 rfl (lv_room (Nat.le_of_ble_eq_true rfl)) dX3_does_2 ⟨Nat.le_refl _, Nat.le_refl _⟩) hA hS (fun r_31 f_28 L_29 Q_30 H locs hq hP hS => ?_)
  obtain ⟨⟨ef9, eL9, eQ9⟩, hq, u_32⟩ := hq
  rw [ef9, eL9, eQ9] at hP; clear ef9 eL9 eQ9
  obtain rfl : r_31 = 0 := Int32.toInt_inj.mp (by have k9 : (0 : Int32).toInt = 0 := ti_0; omega)
  refine lv_istore (lv' := [(5, .int 0), (0, .ref (h 36)), (1, .int 0), (2, .int 0), (3, .int x2), (4, .int 3)]) hx hb dX3_does_5 hl (by decide) rfl (fun ls hl => ?_)
  refine lv_iload hx hb dX3_does_7 (lv_at hl 0 rfl) ?_
  refine lv_if_lt (tgt := 19) hx hb dX3_does_9 (by decide) (fun c => absurd c (by decide)) (fun c => ?_)
  refine lv_iload hx hb dX3_does_12 (lv_at hl 5 rfl) ?_
  refine lv_bipush (v := 40) hx hb dX3_does_14 bp_40 ?_
  refine lv_icmp_le (tgt := 21) hx hb dX3_does_16 (by decide) (fun c => ?_) (fun c => absurd c (by decide))
  refine sg_gets hx hb hZ 3 rfl hS hown (hts _ (List.mem_cons_of_mem _ mw_173)) (fun _ h9 => h9) dX3_does_21 ?_
  refine lv_iload hx hb dX3_does_24 (lv_at hl 0 rfl) ?_
  refine lv_iconst (v := 4) hx hb dX3_does_26 ic_4 ?_
  refine lv_imul hx hb dX3_does_27 ?_
  refine W.eq (g2 := F0 m 28 ls [.int 0, .ref (za 3)]) (by rw [show (0 * 4 : Int32) = 0 from by decide]) ?_
  refine lv_iload_n hx hb dX3_does_28 rfl (lv_at hl 3 rfl) ?_
  refine lv_iadd hx hb dX3_does_29 ?_
  refine W.eq (g2 := F0 m 30 ls [.int 0, .ref (za 3)]) (by rw [show (0 + 0 : Int32) = 0 from by decide]) ?_
  refine sg_sald hx hb hZ 3 rfl hS (y := 0) (N := 32) (vp_in_iff.mpr (by decide)) dX3_does_30 ?_
  refine W.eq (g2 := F0 m 31 ls [.int 1]) (by rfl) ?_
  refine lv_istore (lv' := [(6, .int 1), (5, .int 0), (0, .ref (h 36)), (1, .int 0), (2, .int 0), (3, .int x2), (4, .int 3)]) hx hb dX3_does_31 hl (by decide) rfl (fun ls hl => ?_)
  refine lv_aload_n hx hb dX3_does_33 rfl (lv_at hl 2 rfl) ?_
  refine sl_gX_36_3_3 (v := 7) hx hb hts hown hK hP (show f 36 3 = 7 from hf_36_3) dX3_does_34 ?_
  refine lv_bipush (v := 24) hx hb dX3_does_37 bp_24 ?_
  refine lv_icmp_ge (tgt := 53) hx hb dX3_does_39 (by decide) (fun c => absurd c (by decide)) (fun c => ?_)
  refine lv_aload_n hx hb dX3_does_42 rfl (lv_at hl 2 rfl) ?_
  refine sl_gX_36_1_3 hx hb hts hown hK hP dX3_does_43 ?_
  refine lv_aload_n hx hb dX3_does_46 rfl (lv_at hl 2 rfl) ?_
  refine sl_gX_36_3_3 (v := 7) hx hb hts hown hK hP (show f 36 3 = 7 from hf_36_3) dX3_does_47 ?_
  refine lv_iload hx hb dX3_does_50 (lv_at hl 0 rfl) ?_
  refine sg_iast hx hb hh hA hK hP hS 38 (by decide) 0 (fun _ => rfl) rfl (i := 7) (x := 1) (vp_in_iff.mpr (by decide)) dX3_does_52 (fun f_33 H locs ef_33 hP hS => ?_)
  have ef_33 : f_33 = sg_up f 38 (sgu (f 38) 7 1) := ef_33
  have hI : sgI loX hiX f_33 := by rw [ef_33]; exact sgI.put hI 38 7 (show 0 ≤ (1 : Int32).toInt ∧ (1 : Int32).toInt ≤ 81 from by decide)
  have hF : sgK WkX3_does_0_0_3_f7_f4 f f_33 := sgK.put hF ef_33 (by rfl)
  exact blk_53 f_33 _ _ _ (hs.trans ((spl_e u_32 (spl_e ef_33 rfl)))) (by have zz36_3 : (f_33 36 3).toInt = 7 := (congrArg Int32.toInt (show f_33 36 3 = 7 from (by rw [ef_33, sg_up_n (by decide)]; exact hf_36_3))).trans (by decide); exact ⟨by omega, by omega⟩) (by have zz36_4 : (f_33 36 4).toInt = 4 := (congrArg Int32.toInt (show f_33 36 4 = 4 from (by rw [ef_33, sg_up_n (by decide)]; exact hf_36_4))).trans (by decide); exact ⟨by omega, by omega⟩) hI hF hP hS (lv_sub hl [2, 5, 6, 1, 0] rfl)

abbrev WkX3_runs_20_0_3_f7_f4 : List (Nat × Nat × Option Nat) := [(36, 36, some 3), (38, 38, some 7)]
set_option maxHeartbeats 4000000 in
set_option maxRecDepth 100000 in
theorem kX3_runs_20_0_3_f7_f4 (l : Launch) (D : va_G) (ca : Nat → ClassId) (za h : Nat → Nat) (hh : sgH 52 h) (f : sg_F) (L : sg_L) (Q : sg_Q) (hI : sgI loX hiX f) (x2 : Int32) (hf_36_3 : f 36 3 = 7) (hf_36_4 : f 36 4 = 4) (b2 : 2 ≤ x2.toInt ∧ x2.toInt ≤ 2) (p0 : 7 ≤ (f 36 3).toInt ∧ (f 36 3).toInt ≤ 7) (sz : Nat) : Met l yX3_runs gwX3_runs { frames := 2, cells := 0, slots := 0, locals := 50 } (sgP D vwCl (tyX ca) 52 h (eX ca h) zcX za f L Q sz [.ref (h 36), .int 20, .int 0, .int x2, .int 3]) (sgQi D vwCl 52 h (eX ca h) sz (fun r f1 L1 Q1 => ((sgI loX hiX f1 ∧ sgK WkX3_runs_20_0_3_f7_f4 f f1 ∧ L1 = L ∧ Q1 = Q) ∧ (5 ≤ r.toInt ∧ r.toInt ≤ 54) ∧ (8 ≤ (f1 36 3).toInt ∧ (f1 36 3).toInt ≤ 8) ∧ (r, f1) = sX3_runs_20_0_3_f7_f4 x2 f L))) 0 0 (sgA 52 h sz) := by
  refine sg_ofWi (cc := cX3_runs) (maxL := 5) RX3 (by decide) rfl rfl (Nat.le_of_ble_eq_true rfl) ?_
  intro p e s m below meth cd Qz ls hx hb hml hown hts hK hZ hP hS hl hret
  have hA := sgY.self (n := 52) (h := h) (sz := s.heap.size)
  have hl : lv_has ls 5 [(0, .ref (h 36)), (1, .int 20), (2, .int 0), (3, .int x2), (4, .int 3)] := hl
  obtain ⟨H, hH⟩ : ∃ z : Heap, z = s.heap := ⟨_, rfl⟩
  obtain ⟨locs, hlo⟩ : ∃ z : List Loc, z = [] := ⟨_, rfl⟩
  have hP : va_P D vwCl (sgw 52 h (eX ca h) f L Q) H := by rw [hH]; exact hP
  have hS : va_S (sgA 52 h s.heap.size) s.heap H locs := by rw [hH, hlo]; exact hS
  suffices hgo : W p l e ({ frames := 2, cells := 0, slots := 0, locals := 50 }) s m ([.ref (h 36), .int 20, .int 0, .int x2, .int 3] : List Value).toArray below meth cd H locs 0 0 Qz (F0 m 0 ls []) by rw [hH, hlo] at hgo; exact hgo
  clear hH hlo
  obtain ⟨sp, hsp⟩ : ∃ z : Int32 × sg_F, z = sX3_runs_20_0_3_f7_f4 x2 f L := ⟨_, rfl⟩
  have hs : sp = sX3_runs_20_0_3_f7_f4 x2 f L := hsp
  have o_1 : (f 36 3).toInt = 7 := (congrArg Int32.toInt (show f 36 3 = 7 from hf_36_3)).trans (by decide)
  have hF : sgK WkX3_runs_20_0_3_f7_f4 f f := sgK.rf
  refine lv_iload_n hx hb dX3_runs_0 rfl (lv_at hl 1 rfl) ?_
  refine lv_lookup (x := 20) (off := 170) (tgt := 171) hx hb dX3_runs_1 (by decide) (by decide) (by decide) ?_
  refine lv_aload_n hx hb dX3_runs_171 rfl (lv_at hl 0 rfl) ?_
  refine lv_iload_n hx hb dX3_runs_172 rfl (lv_at hl 2 rfl) ?_
  refine lv_iconst (v := 0) hx hb dX3_runs_173 ic_0 ?_
  refine lv_iload_n hx hb dX3_runs_174 rfl (lv_at hl 3 rfl) ?_
  refine lv_iload hx hb dX3_runs_175 (lv_at hl 4 rfl) ?_
  have q_2 : (f 36 3).toInt = 7 := (congrArg Int32.toInt (show f 36 3 = 7 from hf_36_3)).trans (by decide)
  refine sg_calli (va_runV (As := [.int 0, .int 0, .int x2, .int 3]) (rest := []) ⟨hx, hb, hml, hown, hts⟩ (kX3_does_0_0_3_f7_f4 l D ca za h hh f L Q hI x2 hf_36_3 hf_36_4 b2 (by have k0 : (0 : Int32).toInt = 0 := ti_0; have k1 : (0 : Int32).toInt = 0 := ti_0; have k3 : (3 : Int32).toInt = 3 := ti_3; omega) H.size) (sl_c3_does_1_0_0_24_3 hts ⟨Nat.le_of_ble_eq_true rfl, Nat.le_of_ble_eq_true rfl⟩) (sl_vX_36 hA hK hP hS hZ) rfl rfl hl.1 rfl (lv_room (Nat.le_of_ble_eq_true rfl)) dX3_runs_177 ⟨Nat.le_refl _, Nat.le_refl _⟩) hA hS (fun r_7 f_4 L_5 Q_6 H locs hq hP hS => ?_)
  obtain ⟨⟨hI, hk_f_4, eL9, eQ9⟩, hq, p_8, u_9⟩ := hq
  rw [eL9, eQ9] at hP; clear eL9 eQ9
  have hF : sgK WkX3_runs_20_0_3_f7_f4 f f_4 := sgK.tr hF hk_f_4 (by decide +kernel)
  obtain ⟨v_10, ev_10⟩ : ∃ z : Int32, z = f_4 36 3 := ⟨_, rfl⟩
  have q_11 : 0 ≤ v_10.toInt ∧ v_10.toInt ≤ 19 := by rw [ev_10]; exact hI 36 3
  have q_12 : (f_4 36 3).toInt = v_10.toInt := (congrArg Int32.toInt (show f_4 36 3 = v_10 from ev_10.symm))
  have k_14 : (0 : Int32).toInt = 0 := by decide
  have k_15 : (0 : Int32).toInt = 0 := by decide
  have k_16 : (3 : Int32).toInt = 3 := by decide
  refine lv_iconst (v := 3) hx hb dX3_runs_180 ic_3 ?_
  refine lv_iadd hx hb dX3_runs_181 ?_
  refine lv_topi (fun v_17 ev_17 => ?_)
  have q_18 : v_17.toInt = r_7.toInt + 3 := by rw [ev_17]; first | exact cm_add ti_3 (by omega) (by omega) | (have k1 : (3 : Int32).toInt = 3 := ti_3; exact (bn_addI (by omega) (by omega)).trans (by omega))
  exact hret _ _ _ _ (v_17) f_4 L Q dX3_runs_182 hP hS ⟨⟨hI, hF, rfl, rfl⟩, ⟨by omega, by omega⟩, ⟨by omega, by omega⟩, (Eq.trans (Eq.symm (hs.trans ((spl2_e u_9 (spl_e ev_10 (spl_e ev_17 rfl)))))) hsp)⟩

abbrev WkX3_does_4_0_2_f6_f4 : List (Nat × Nat × Option Nat) := [(36, 36, some 3), (38, 38, some 6), (38, 38, some 7)]
set_option maxHeartbeats 4000000 in
set_option maxRecDepth 100000 in
theorem kX3_does_4_0_2_f6_f4 (l : Launch) (D : va_G) (ca : Nat → ClassId) (za h : Nat → Nat) (hh : sgH 52 h) (f : sg_F) (L : sg_L) (Q : sg_Q) (hI : sgI loX hiX f) (x2 : Int32) (hf_36_3 : f 36 3 = 6) (hf_36_4 : f 36 4 = 4) (b2 : 2 ≤ x2.toInt ∧ x2.toInt ≤ 2) (p0 : 6 ≤ (f 36 3).toInt ∧ (f 36 3).toInt ≤ 6) (sz : Nat) : Met l yX3_does gwX3_does { frames := 3, cells := 0, slots := 0, locals := 74 } (sgP D vwCl (tyX ca) 52 h (eX ca h) zcX za f L Q sz [.ref (h 36), .int 4, .int 0, .int x2, .int 2]) (sgQi D vwCl 52 h (eX ca h) sz (fun r f1 L1 Q1 => ((sgI loX hiX f1 ∧ sgK WkX3_does_4_0_2_f6_f4 f f1 ∧ L1 = L ∧ Q1 = Q) ∧ (5 ≤ r.toInt ∧ r.toInt ≤ 54) ∧ (8 ≤ (f1 36 3).toInt ∧ (f1 36 3).toInt ≤ 8) ∧ (r, f1) = sX3_does_4_0_2_f6_f4 x2 f L))) 0 0 (sgA 52 h sz) := by
  refine sg_ofWi (cc := cX3_does) (maxL := 7) RX3 (by decide) rfl rfl (Nat.le_of_ble_eq_true rfl) ?_
  intro p e s m below meth cd Qz ls hx hb hml hown hts hK hZ hP hS hl hret
  have hA := sgY.self (n := 52) (h := h) (sz := s.heap.size)
  have hl : lv_has ls 7 [(0, .ref (h 36)), (1, .int 4), (2, .int 0), (3, .int x2), (4, .int 2)] := hl
  obtain ⟨H, hH⟩ : ∃ z : Heap, z = s.heap := ⟨_, rfl⟩
  obtain ⟨locs, hlo⟩ : ∃ z : List Loc, z = [] := ⟨_, rfl⟩
  have hP : va_P D vwCl (sgw 52 h (eX ca h) f L Q) H := by rw [hH]; exact hP
  have hS : va_S (sgA 52 h s.heap.size) s.heap H locs := by rw [hH, hlo]; exact hS
  suffices hgo : W p l e ({ frames := 3, cells := 0, slots := 0, locals := 74 }) s m ([.ref (h 36), .int 4, .int 0, .int x2, .int 2] : List Value).toArray below meth cd H locs 0 0 Qz (F0 m 0 ls []) by rw [hH, hlo] at hgo; exact hgo
  clear hH hlo
  obtain ⟨sp, hsp⟩ : ∃ z : Int32 × sg_F, z = sX3_does_4_0_2_f6_f4 x2 f L := ⟨_, rfl⟩
  have hs : sp = sX3_does_4_0_2_f6_f4 x2 f L := hsp
  have o_1 : (f 36 3).toInt = 6 := (congrArg Int32.toInt (show f 36 3 = 6 from hf_36_3)).trans (by decide)
  have hF : sgK WkX3_does_4_0_2_f6_f4 f f := sgK.rf
  have blk_53 : ∀ (fp_53 : sg_F) (H : Heap) (locs : List Loc) (ls : Array Slot), sp = sX3_does_4_0_2_f6_f4_b53 x2 fp_53 L → 6 ≤ (fp_53 36 3).toInt ∧ (fp_53 36 3).toInt ≤ 6 → 4 ≤ (fp_53 36 4).toInt ∧ (fp_53 36 4).toInt ≤ 4 → sgI loX hiX fp_53 → sgK WkX3_does_4_0_2_f6_f4 f fp_53 → va_P D vwCl (sgw 52 h (eX ca h) fp_53 L Q) H → va_S (sgA 52 h s.heap.size) s.heap H locs → lv_has ls 7 [(0, .ref (h 36)), (3, .int x2), (4, .int 2), (5, .int 1), (6, .int 20)] → W p l e ({ frames := 3, cells := 0, slots := 0, locals := 74 }) s m ([.ref (h 36), .int 4, .int 0, .int x2, .int 2] : List Value).toArray below meth cd H locs 0 0 Qz (F0 m 53 ls []) := by
    intro fp_53 H locs ls hs hy0_53 hy1_53 hI hF hP hS hl
    obtain ⟨v_2, ev_2⟩ : ∃ z : Int32, z = fp_53 36 3 := ⟨_, rfl⟩
    have q_3 : 0 ≤ v_2.toInt ∧ v_2.toInt ≤ 19 := by rw [ev_2]; exact hI 36 3
    have q_4 : (fp_53 36 3).toInt = v_2.toInt := by rw [ev_2]
    obtain ⟨v_5, ev_5⟩ : ∃ z : Int32, z = fp_53 36 4 := ⟨_, rfl⟩
    have q_6 : 0 ≤ v_5.toInt ∧ v_5.toInt ≤ 7 := by rw [ev_5]; exact hI 36 4
    have q_7 : (fp_53 36 4).toInt = v_5.toInt := by rw [ev_5]
    have m_8 : fp_53 36 4 = 4 := (hF 36 4 (by decide)).trans hf_36_4
    refine lv_aload_n hx hb dX3_does_53 rfl (lv_at hl 0 rfl) ?_
    refine lv_dup hx hb dX3_does_54 rfl ?_
    refine sl_gX_36_3_3 (v := v_2) hx hb hts hown hK hP (show fp_53 36 3 = v_2 from ev_2.symm) dX3_does_55 ?_
    refine lv_iconst (v := 1) hx hb dX3_does_58 ic_1 ?_
    refine lv_iadd hx hb dX3_does_59 ?_
    refine lv_topi (fun v_9 ev_9 => ?_)
    have q_10 : v_9.toInt = v_2.toInt + 1 := by rw [ev_9]; first | exact cm_add ti_1 (by omega) (by omega) | (have k1 : (1 : Int32).toInt = 1 := ti_1; exact (bn_addI (by omega) (by omega)).trans (by omega))
    refine sl_pX_36_3_3 (x := v_9) hx hb hts hown hh hA hK hP hS dX3_does_60 (fun f_11 H locs ef_11 hP hS => ?_)
    have hI : sgI loX hiX f_11 := by rw [ef_11]; exact sgI.put hI 36 3 (show 0 ≤ (v_9 : Int32).toInt ∧ (v_9 : Int32).toInt ≤ 19 from ⟨by omega, by omega⟩)
    have hF : sgK WkX3_does_4_0_2_f6_f4 f f_11 := sgK.put hF ef_11 (by rfl)
    refine lv_aload_n hx hb dX3_does_63 rfl (lv_at hl 0 rfl) ?_
    refine lv_iload hx hb dX3_does_64 (lv_at hl 4 rfl) ?_
    refine sg_gets hx hb hZ 2 rfl hS hown (hts _ (List.mem_cons_of_mem _ mw_174)) (fun _ h9 => h9) dX3_does_66 ?_
    refine lv_iload hx hb dX3_does_69 (lv_at hl 3 rfl) ?_
    refine sg_sald hx hb hZ 2 rfl hS (y := 1) (N := 8) (vp_in_iff.mpr (by decide)) dX3_does_71 ?_
    refine W.eq (g2 := F0 m 72 ls [.int 0, .int 20, .ref (h 36)]) (by rfl) ?_
    refine lv_iload_n hx hb dX3_does_72 rfl (lv_at hl 1 rfl) ?_
    refine lv_iload hx hb dX3_does_73 (lv_at hl 2 rfl) ?_
    refine lv_iconst (v := 1) hx hb dX3_does_75 ic_1 ?_
    refine lv_iadd hx hb dX3_does_76 ?_
    refine W.eq (g2 := F0 m 77 ls [.int 3, .int x2, .int 0, .int 20, .ref (h 36)]) (by rw [show (2 + 1 : Int32) = 3 from by decide]) ?_
    have c_12 : v_9 = 7 := Int32.toInt_inj.mp (by have k9 : (7 : Int32).toInt = 7 := ti_7; omega)
    have q_13 : (f_11 36 3).toInt = 7 := (congrArg Int32.toInt (show f_11 36 3 = 7 from (Eq.trans (by rw [ef_11, sg_up_s, sgu_s]) c_12))).trans (by decide)
    refine sg_calli (va_runV (As := [.int 20, .int 0, .int x2, .int 3]) (rest := []) ⟨hx, hb, hml, hown, hts⟩ (kX3_runs_20_0_3_f7_f4 l D ca za h hh f_11 L Q hI x2 (Eq.trans (by rw [ef_11, sg_up_s, sgu_s]) c_12) (by rw [ef_11, sg_up_s, sgu_n (by decide)]; exact m_8) b2 (by have k0 : (20 : Int32).toInt = 20 := ti_20; have k1 : (0 : Int32).toInt = 0 := ti_0; have k3 : (3 : Int32).toInt = 3 := ti_3; omega) H.size) (sl_c3_runs_2_0_0_50_3 hts ⟨Nat.le_of_ble_eq_true rfl, Nat.le_of_ble_eq_true rfl⟩) (sl_vX_36 hA hK hP hS hZ) rfl rfl hl.1 rfl (lv_room (Nat.le_of_ble_eq_true rfl)) dX3_does_77 ⟨Nat.le_refl _, Nat.le_refl _⟩) hA hS (fun r_18 f_15 L_16 Q_17 H locs hq hP hS => ?_)
    obtain ⟨⟨hI, hk_f_15, eL9, eQ9⟩, hq, p_19, u_20⟩ := hq
    rw [eL9, eQ9] at hP; clear eL9 eQ9
    have hF : sgK WkX3_does_4_0_2_f6_f4 f f_15 := sgK.tr hF hk_f_15 (by decide +kernel)
    obtain ⟨v_21, ev_21⟩ : ∃ z : Int32, z = f_15 36 3 := ⟨_, rfl⟩
    have q_22 : 0 ≤ v_21.toInt ∧ v_21.toInt ≤ 19 := by rw [ev_21]; exact hI 36 3
    have q_23 : (f_15 36 3).toInt = v_21.toInt := (congrArg Int32.toInt (show f_15 36 3 = v_21 from ev_21.symm))
    have k_25 : (20 : Int32).toInt = 20 := by decide
    have k_26 : (0 : Int32).toInt = 0 := by decide
    have k_27 : (3 : Int32).toInt = 3 := by decide
    exact hret _ _ _ _ (r_18) f_15 L Q dX3_does_80 hP hS ⟨⟨hI, hF, rfl, rfl⟩, ⟨by omega, by omega⟩, ⟨by omega, by omega⟩, (Eq.trans (Eq.symm (hs.trans ((spl_e ev_2 (spl_e ev_5 (spl_e ev_9 (spl_e ef_11 (spl2_e u_20 (spl_e ev_21 rfl))))))))) hsp)⟩
  refine lv_iload_n hx hb dX3_does_0 rfl (lv_at hl 1 rfl) ?_
  refine lv_iload_n hx hb dX3_does_1 rfl (lv_at hl 2 rfl) ?_
  refine sg_calli (va_runS (As := [.int 4, .int 0]) (rest := []) ⟨hx, hb, hml, hown, hts⟩ (kX3_ownerOf_4_0 l D ca za h hh f L Q hI H.size) (va_cwS 2 hts (gw_S (fun _ h => List.mem_cons_of_mem _ h) mw_189 mw_190 mw_47 mw_188) rfl rfl rfl hd_yX3_ownerOf.2 ⟨Nat.le_of_ble_eq_true rfl, Nat.le_of_ble_eq_true rfl⟩) (sg_preS hA hK hP hS hZ) rfl rfl hl.1 rfl (lv_room (Nat.le_of_ble_eq_true rfl)) dX3_does_2 ⟨Nat.le_refl _, Nat.le_refl _⟩) hA hS (fun r_33 f_30 L_31 Q_32 H locs hq hP hS => ?_)
  obtain ⟨⟨ef9, eL9, eQ9⟩, hq, u_34⟩ := hq
  rw [ef9, eL9, eQ9] at hP; clear ef9 eL9 eQ9
  obtain rfl : r_33 = 1 := Int32.toInt_inj.mp (by have k9 : (1 : Int32).toInt = 1 := ti_1; omega)
  refine lv_istore (lv' := [(5, .int 1), (0, .ref (h 36)), (1, .int 4), (2, .int 0), (3, .int x2), (4, .int 2)]) hx hb dX3_does_5 hl (by decide) rfl (fun ls hl => ?_)
  refine lv_iload hx hb dX3_does_7 (lv_at hl 0 rfl) ?_
  refine lv_if_lt (tgt := 19) hx hb dX3_does_9 (by decide) (fun c => absurd c (by decide)) (fun c => ?_)
  refine lv_iload hx hb dX3_does_12 (lv_at hl 5 rfl) ?_
  refine lv_bipush (v := 40) hx hb dX3_does_14 bp_40 ?_
  refine lv_icmp_le (tgt := 21) hx hb dX3_does_16 (by decide) (fun c => ?_) (fun c => absurd c (by decide))
  refine sg_gets hx hb hZ 3 rfl hS hown (hts _ (List.mem_cons_of_mem _ mw_173)) (fun _ h9 => h9) dX3_does_21 ?_
  refine lv_iload hx hb dX3_does_24 (lv_at hl 0 rfl) ?_
  refine lv_iconst (v := 4) hx hb dX3_does_26 ic_4 ?_
  refine lv_imul hx hb dX3_does_27 ?_
  refine W.eq (g2 := F0 m 28 ls [.int 4, .ref (za 3)]) (by rw [show (1 * 4 : Int32) = 4 from by decide]) ?_
  refine lv_iload_n hx hb dX3_does_28 rfl (lv_at hl 3 rfl) ?_
  refine lv_iadd hx hb dX3_does_29 ?_
  refine W.eq (g2 := F0 m 30 ls [.int 4, .ref (za 3)]) (by rw [show (4 + 0 : Int32) = 4 from by decide]) ?_
  refine sg_sald hx hb hZ 3 rfl hS (y := 4) (N := 32) (vp_in_iff.mpr (by decide)) dX3_does_30 ?_
  refine W.eq (g2 := F0 m 31 ls [.int 20]) (by rfl) ?_
  refine lv_istore (lv' := [(6, .int 20), (5, .int 1), (0, .ref (h 36)), (1, .int 4), (2, .int 0), (3, .int x2), (4, .int 2)]) hx hb dX3_does_31 hl (by decide) rfl (fun ls hl => ?_)
  refine lv_aload_n hx hb dX3_does_33 rfl (lv_at hl 2 rfl) ?_
  refine sl_gX_36_3_3 (v := 6) hx hb hts hown hK hP (show f 36 3 = 6 from hf_36_3) dX3_does_34 ?_
  refine lv_bipush (v := 24) hx hb dX3_does_37 bp_24 ?_
  refine lv_icmp_ge (tgt := 53) hx hb dX3_does_39 (by decide) (fun c => absurd c (by decide)) (fun c => ?_)
  refine lv_aload_n hx hb dX3_does_42 rfl (lv_at hl 2 rfl) ?_
  refine sl_gX_36_1_3 hx hb hts hown hK hP dX3_does_43 ?_
  refine lv_aload_n hx hb dX3_does_46 rfl (lv_at hl 2 rfl) ?_
  refine sl_gX_36_3_3 (v := 6) hx hb hts hown hK hP (show f 36 3 = 6 from hf_36_3) dX3_does_47 ?_
  refine lv_iload hx hb dX3_does_50 (lv_at hl 0 rfl) ?_
  refine sg_iast hx hb hh hA hK hP hS 38 (by decide) 0 (fun _ => rfl) rfl (i := 6) (x := 20) (vp_in_iff.mpr (by decide)) dX3_does_52 (fun f_35 H locs ef_35 hP hS => ?_)
  have ef_35 : f_35 = sg_up f 38 (sgu (f 38) 6 20) := ef_35
  have hI : sgI loX hiX f_35 := by rw [ef_35]; exact sgI.put hI 38 6 (show 0 ≤ (20 : Int32).toInt ∧ (20 : Int32).toInt ≤ 81 from by decide)
  have hF : sgK WkX3_does_4_0_2_f6_f4 f f_35 := sgK.put hF ef_35 (by rfl)
  exact blk_53 f_35 _ _ _ (hs.trans ((spl_e u_34 (spl_e ef_35 rfl)))) (by have zz36_3 : (f_35 36 3).toInt = 6 := (congrArg Int32.toInt (show f_35 36 3 = 6 from (by rw [ef_35, sg_up_n (by decide)]; exact hf_36_3))).trans (by decide); exact ⟨by omega, by omega⟩) (by have zz36_4 : (f_35 36 4).toInt = 4 := (congrArg Int32.toInt (show f_35 36 4 = 4 from (by rw [ef_35, sg_up_n (by decide)]; exact hf_36_4))).trans (by decide); exact ⟨by omega, by omega⟩) hI hF hP hS (lv_sub hl [2, 5, 6, 1, 0] rfl)

abbrev WkX3_runs_50_1_2_f5_f4 : List (Nat × Nat × Option Nat) := [(36, 36, some 3), (38, 38, some 5), (38, 38, some 6), (38, 38, some 7)]
set_option maxHeartbeats 4000000 in
set_option maxRecDepth 100000 in
theorem kX3_runs_50_1_2_f5_f4 (l : Launch) (D : va_G) (ca : Nat → ClassId) (za h : Nat → Nat) (hh : sgH 52 h) (f : sg_F) (L : sg_L) (Q : sg_Q) (hI : sgI loX hiX f) (x2 : Int32) (hf_36_3 : f 36 3 = 5) (hf_36_4 : f 36 4 = 4) (b2 : 1 ≤ x2.toInt ∧ x2.toInt ≤ 1) (p0 : 5 ≤ (f 36 3).toInt ∧ (f 36 3).toInt ≤ 5) (sz : Nat) : Met l yX3_runs gwX3_runs { frames := 4, cells := 0, slots := 0, locals := 100 } (sgP D vwCl (tyX ca) 52 h (eX ca h) zcX za f L Q sz [.ref (h 36), .int 50, .int 1, .int x2, .int 2]) (sgQi D vwCl 52 h (eX ca h) sz (fun r f1 L1 Q1 => ((sgI loX hiX f1 ∧ sgK WkX3_runs_50_1_2_f5_f4 f f1 ∧ L1 = L ∧ Q1 = Q) ∧ True ∧ (8 ≤ (f1 36 3).toInt ∧ (f1 36 3).toInt ≤ 8) ∧ (r, f1) = sX3_runs_50_1_2_f5_f4 x2 f L))) 0 0 (sgA 52 h sz) := by
  refine sg_ofWi (cc := cX3_runs) (maxL := 5) RX3 (by decide) rfl rfl (Nat.le_of_ble_eq_true rfl) ?_
  intro p e s m below meth cd Qz ls hx hb hml hown hts hK hZ hP hS hl hret
  have hA := sgY.self (n := 52) (h := h) (sz := s.heap.size)
  have hl : lv_has ls 5 [(0, .ref (h 36)), (1, .int 50), (2, .int 1), (3, .int x2), (4, .int 2)] := hl
  obtain ⟨H, hH⟩ : ∃ z : Heap, z = s.heap := ⟨_, rfl⟩
  obtain ⟨locs, hlo⟩ : ∃ z : List Loc, z = [] := ⟨_, rfl⟩
  have hP : va_P D vwCl (sgw 52 h (eX ca h) f L Q) H := by rw [hH]; exact hP
  have hS : va_S (sgA 52 h s.heap.size) s.heap H locs := by rw [hH, hlo]; exact hS
  suffices hgo : W p l e ({ frames := 4, cells := 0, slots := 0, locals := 100 }) s m ([.ref (h 36), .int 50, .int 1, .int x2, .int 2] : List Value).toArray below meth cd H locs 0 0 Qz (F0 m 0 ls []) by rw [hH, hlo] at hgo; exact hgo
  clear hH hlo
  obtain ⟨sp, hsp⟩ : ∃ z : Int32 × sg_F, z = sX3_runs_50_1_2_f5_f4 x2 f L := ⟨_, rfl⟩
  have hs : sp = sX3_runs_50_1_2_f5_f4 x2 f L := hsp
  have o_1 : (f 36 3).toInt = 5 := (congrArg Int32.toInt (show f 36 3 = 5 from hf_36_3)).trans (by decide)
  have hF : sgK WkX3_runs_50_1_2_f5_f4 f f := sgK.rf
  refine lv_iload_n hx hb dX3_runs_0 rfl (lv_at hl 1 rfl) ?_
  refine lv_lookup (x := 50) (off := 217) (tgt := 218) hx hb dX3_runs_1 (by decide) (by decide) (by decide) ?_
  refine lv_aload_n hx hb dX3_runs_218 rfl (lv_at hl 0 rfl) ?_
  refine lv_iload_n hx hb dX3_runs_219 rfl (lv_at hl 2 rfl) ?_
  refine lv_iconst (v := 2) hx hb dX3_runs_220 ic_2 ?_
  refine lv_iload_n hx hb dX3_runs_221 rfl (lv_at hl 3 rfl) ?_
  refine lv_iload hx hb dX3_runs_222 (lv_at hl 4 rfl) ?_
  have q_2 : (f 36 3).toInt = 5 := (congrArg Int32.toInt (show f 36 3 = 5 from hf_36_3)).trans (by decide)
  refine sg_calli (va_runV (As := [.int 1, .int 2, .int x2, .int 2]) (rest := []) ⟨hx, hb, hml, hown, hts⟩ (kX3_does_1_2_2_f5_f4 l D ca za h hh f L Q hI x2 hf_36_3 hf_36_4 b2 (by have k0 : (1 : Int32).toInt = 1 := ti_1; have k1 : (2 : Int32).toInt = 2 := ti_2; have k3 : (2 : Int32).toInt = 2 := ti_2; omega) H.size) (sl_c3_does_1_0_0_24_3 hts ⟨Nat.le_of_ble_eq_true rfl, Nat.le_of_ble_eq_true rfl⟩) (sl_vX_36 hA hK hP hS hZ) rfl rfl hl.1 rfl (lv_room (Nat.le_of_ble_eq_true rfl)) dX3_runs_224 ⟨Nat.le_refl _, Nat.le_refl _⟩) hA hS (fun r_7 f_4 L_5 Q_6 H locs hq hP hS => ?_)
  obtain ⟨⟨hI, hk_f_4, eL9, eQ9⟩, hq, p_8, u_9⟩ := hq
  rw [eL9, eQ9] at hP; clear eL9 eQ9
  have hF : sgK WkX3_runs_50_1_2_f5_f4 f f_4 := sgK.tr hF hk_f_4 (by decide +kernel)
  obtain ⟨v_10, ev_10⟩ : ∃ z : Int32, z = f_4 36 3 := ⟨_, rfl⟩
  have q_11 : 0 ≤ v_10.toInt ∧ v_10.toInt ≤ 19 := by rw [ev_10]; exact hI 36 3
  have q_12 : (f_4 36 3).toInt = v_10.toInt := (congrArg Int32.toInt (show f_4 36 3 = v_10 from ev_10.symm))
  have k_14 : (1 : Int32).toInt = 1 := by decide
  have k_15 : (2 : Int32).toInt = 2 := by decide
  have k_16 : (2 : Int32).toInt = 2 := by decide
  refine lv_aload_n hx hb dX3_runs_227 rfl (lv_at hl 0 rfl) ?_
  refine lv_aload_n hx hb dX3_runs_228 rfl (lv_at hl 0 rfl) ?_
  refine sl_gX_36_4_3 (v := 4) hx hb hts hown hK hP (show f_4 36 4 = 4 from ((hk_f_4 36 4 (by decide)).trans hf_36_4)) dX3_runs_229 ?_
  refine lv_iconst (v := 0) hx hb dX3_runs_232 ic_0 ?_
  refine lv_iconst (v := 2) hx hb dX3_runs_233 ic_2 ?_
  refine lv_iload hx hb dX3_runs_234 (lv_at hl 4 rfl) ?_
  have c_17 : v_10 = 6 := Int32.toInt_inj.mp (by have k9 : (6 : Int32).toInt = 6 := ti_6; omega)
  have q_18 : (f_4 36 3).toInt = 6 := (congrArg Int32.toInt (show f_4 36 3 = 6 from (Eq.trans ev_10.symm c_17))).trans (by decide)
  refine sg_calli (va_runV (As := [.int 4, .int 0, .int 2, .int 2]) (rest := [.int r_7]) ⟨hx, hb, hml, hown, hts⟩ (kX3_does_4_0_2_f6_f4 l D ca za h hh f_4 L Q hI 2 (Eq.trans ev_10.symm c_17) ((hk_f_4 36 4 (by decide)).trans hf_36_4) (by decide) (by have k0 : (4 : Int32).toInt = 4 := ti_4; have k1 : (0 : Int32).toInt = 0 := ti_0; have k2 : (2 : Int32).toInt = 2 := ti_2; have k3 : (2 : Int32).toInt = 2 := ti_2; omega) H.size) (sl_c3_does_3_0_0_74_3 hts ⟨Nat.le_of_ble_eq_true rfl, Nat.le_of_ble_eq_true rfl⟩) (sl_vX_36 hA hK hP hS hZ) rfl rfl hl.1 rfl (lv_room (Nat.le_of_ble_eq_true rfl)) dX3_runs_236 ⟨Nat.le_refl _, Nat.le_refl _⟩) hA hS (fun r_23 f_20 L_21 Q_22 H locs hq hP hS => ?_)
  obtain ⟨⟨hI, hk_f_20, eL9, eQ9⟩, hq, p_24, u_25⟩ := hq
  rw [eL9, eQ9] at hP; clear eL9 eQ9
  have hF : sgK WkX3_runs_50_1_2_f5_f4 f f_20 := sgK.tr hF hk_f_20 (by decide +kernel)
  obtain ⟨v_26, ev_26⟩ : ∃ z : Int32, z = f_20 36 3 := ⟨_, rfl⟩
  have q_27 : 0 ≤ v_26.toInt ∧ v_26.toInt ≤ 19 := by rw [ev_26]; exact hI 36 3
  have q_28 : (f_20 36 3).toInt = v_26.toInt := (congrArg Int32.toInt (show f_20 36 3 = v_26 from ev_26.symm))
  have k_30 : (4 : Int32).toInt = 4 := by decide
  have k_31 : (0 : Int32).toInt = 0 := by decide
  have k_32 : (2 : Int32).toInt = 2 := by decide
  have k_33 : (2 : Int32).toInt = 2 := by decide
  refine lv_isub hx hb dX3_runs_239 ?_
  refine lv_topi (fun v_34 ev_34 => ?_)
  exact hret _ _ _ _ (v_34) f_20 L Q dX3_runs_240 hP hS ⟨⟨hI, hF, rfl, rfl⟩, trivial, ⟨by omega, by omega⟩, (Eq.trans (Eq.symm (hs.trans ((spl2_e u_9 (spl_e ev_10 (spl2_e u_25 (spl_e ev_26 (spl_e ev_34 rfl)))))))) hsp)⟩

abbrev WkX3_does_4_2_1_f4_f4 : List (Nat × Nat × Option Nat) := [(36, 36, some 3), (38, 38, some 4), (38, 38, some 5), (38, 38, some 6), (38, 38, some 7)]
set_option maxHeartbeats 4000000 in
set_option maxRecDepth 100000 in
theorem kX3_does_4_2_1_f4_f4 (l : Launch) (D : va_G) (ca : Nat → ClassId) (za h : Nat → Nat) (hh : sgH 52 h) (f : sg_F) (L : sg_L) (Q : sg_Q) (hI : sgI loX hiX f) (x2 : Int32) (hf_36_3 : f 36 3 = 4) (hf_36_4 : f 36 4 = 4) (b2 : 1 ≤ x2.toInt ∧ x2.toInt ≤ 1) (p0 : 4 ≤ (f 36 3).toInt ∧ (f 36 3).toInt ≤ 4) (sz : Nat) : Met l yX3_does gwX3_does { frames := 5, cells := 0, slots := 0, locals := 124 } (sgP D vwCl (tyX ca) 52 h (eX ca h) zcX za f L Q sz [.ref (h 36), .int 4, .int 2, .int x2, .int 1]) (sgQi D vwCl 52 h (eX ca h) sz (fun r f1 L1 Q1 => ((sgI loX hiX f1 ∧ sgK WkX3_does_4_2_1_f4_f4 f f1 ∧ L1 = L ∧ Q1 = Q) ∧ True ∧ (8 ≤ (f1 36 3).toInt ∧ (f1 36 3).toInt ≤ 8) ∧ (r, f1) = sX3_does_4_2_1_f4_f4 x2 f L))) 0 0 (sgA 52 h sz) := by
  refine sg_ofWi (cc := cX3_does) (maxL := 7) RX3 (by decide) rfl rfl (Nat.le_of_ble_eq_true rfl) ?_
  intro p e s m below meth cd Qz ls hx hb hml hown hts hK hZ hP hS hl hret
  have hA := sgY.self (n := 52) (h := h) (sz := s.heap.size)
  have hl : lv_has ls 7 [(0, .ref (h 36)), (1, .int 4), (2, .int 2), (3, .int x2), (4, .int 1)] := hl
  obtain ⟨H, hH⟩ : ∃ z : Heap, z = s.heap := ⟨_, rfl⟩
  obtain ⟨locs, hlo⟩ : ∃ z : List Loc, z = [] := ⟨_, rfl⟩
  have hP : va_P D vwCl (sgw 52 h (eX ca h) f L Q) H := by rw [hH]; exact hP
  have hS : va_S (sgA 52 h s.heap.size) s.heap H locs := by rw [hH, hlo]; exact hS
  suffices hgo : W p l e ({ frames := 5, cells := 0, slots := 0, locals := 124 }) s m ([.ref (h 36), .int 4, .int 2, .int x2, .int 1] : List Value).toArray below meth cd H locs 0 0 Qz (F0 m 0 ls []) by rw [hH, hlo] at hgo; exact hgo
  clear hH hlo
  obtain ⟨sp, hsp⟩ : ∃ z : Int32 × sg_F, z = sX3_does_4_2_1_f4_f4 x2 f L := ⟨_, rfl⟩
  have hs : sp = sX3_does_4_2_1_f4_f4 x2 f L := hsp
  have o_1 : (f 36 3).toInt = 4 := (congrArg Int32.toInt (show f 36 3 = 4 from hf_36_3)).trans (by decide)
  have hF : sgK WkX3_does_4_2_1_f4_f4 f f := sgK.rf
  have blk_53 : ∀ (fp_53 : sg_F) (H : Heap) (locs : List Loc) (ls : Array Slot), sp = sX3_does_4_2_1_f4_f4_b53 x2 fp_53 L → 4 ≤ (fp_53 36 3).toInt ∧ (fp_53 36 3).toInt ≤ 4 → 4 ≤ (fp_53 36 4).toInt ∧ (fp_53 36 4).toInt ≤ 4 → sgI loX hiX fp_53 → sgK WkX3_does_4_2_1_f4_f4 f fp_53 → va_P D vwCl (sgw 52 h (eX ca h) fp_53 L Q) H → va_S (sgA 52 h s.heap.size) s.heap H locs → lv_has ls 7 [(0, .ref (h 36)), (3, .int x2), (4, .int 1), (5, .int 4), (6, .int 50)] → W p l e ({ frames := 5, cells := 0, slots := 0, locals := 124 }) s m ([.ref (h 36), .int 4, .int 2, .int x2, .int 1] : List Value).toArray below meth cd H locs 0 0 Qz (F0 m 53 ls []) := by
    intro fp_53 H locs ls hs hy0_53 hy1_53 hI hF hP hS hl
    obtain ⟨v_2, ev_2⟩ : ∃ z : Int32, z = fp_53 36 3 := ⟨_, rfl⟩
    have q_3 : 0 ≤ v_2.toInt ∧ v_2.toInt ≤ 19 := by rw [ev_2]; exact hI 36 3
    have q_4 : (fp_53 36 3).toInt = v_2.toInt := by rw [ev_2]
    obtain ⟨v_5, ev_5⟩ : ∃ z : Int32, z = fp_53 36 4 := ⟨_, rfl⟩
    have q_6 : 0 ≤ v_5.toInt ∧ v_5.toInt ≤ 7 := by rw [ev_5]; exact hI 36 4
    have q_7 : (fp_53 36 4).toInt = v_5.toInt := by rw [ev_5]
    have m_8 : fp_53 36 4 = 4 := (hF 36 4 (by decide)).trans hf_36_4
    refine lv_aload_n hx hb dX3_does_53 rfl (lv_at hl 0 rfl) ?_
    refine lv_dup hx hb dX3_does_54 rfl ?_
    refine sl_gX_36_3_3 (v := v_2) hx hb hts hown hK hP (show fp_53 36 3 = v_2 from ev_2.symm) dX3_does_55 ?_
    refine lv_iconst (v := 1) hx hb dX3_does_58 ic_1 ?_
    refine lv_iadd hx hb dX3_does_59 ?_
    refine lv_topi (fun v_9 ev_9 => ?_)
    have q_10 : v_9.toInt = v_2.toInt + 1 := by rw [ev_9]; first | exact cm_add ti_1 (by omega) (by omega) | (have k1 : (1 : Int32).toInt = 1 := ti_1; exact (bn_addI (by omega) (by omega)).trans (by omega))
    refine sl_pX_36_3_3 (x := v_9) hx hb hts hown hh hA hK hP hS dX3_does_60 (fun f_11 H locs ef_11 hP hS => ?_)
    have hI : sgI loX hiX f_11 := by rw [ef_11]; exact sgI.put hI 36 3 (show 0 ≤ (v_9 : Int32).toInt ∧ (v_9 : Int32).toInt ≤ 19 from ⟨by omega, by omega⟩)
    have hF : sgK WkX3_does_4_2_1_f4_f4 f f_11 := sgK.put hF ef_11 (by rfl)
    refine lv_aload_n hx hb dX3_does_63 rfl (lv_at hl 0 rfl) ?_
    refine lv_iload hx hb dX3_does_64 (lv_at hl 4 rfl) ?_
    refine sg_gets hx hb hZ 2 rfl hS hown (hts _ (List.mem_cons_of_mem _ mw_174)) (fun _ h9 => h9) dX3_does_66 ?_
    refine lv_iload hx hb dX3_does_69 (lv_at hl 3 rfl) ?_
    refine sg_sald hx hb hZ 2 rfl hS (y := 4) (N := 8) (vp_in_iff.mpr (by decide)) dX3_does_71 ?_
    refine W.eq (g2 := F0 m 72 ls [.int 1, .int 50, .ref (h 36)]) (by rfl) ?_
    refine lv_iload_n hx hb dX3_does_72 rfl (lv_at hl 1 rfl) ?_
    refine lv_iload hx hb dX3_does_73 (lv_at hl 2 rfl) ?_
    refine lv_iconst (v := 1) hx hb dX3_does_75 ic_1 ?_
    refine lv_iadd hx hb dX3_does_76 ?_
    refine W.eq (g2 := F0 m 77 ls [.int 2, .int x2, .int 1, .int 50, .ref (h 36)]) (by rw [show (1 + 1 : Int32) = 2 from by decide]) ?_
    have c_12 : v_9 = 5 := Int32.toInt_inj.mp (by have k9 : (5 : Int32).toInt = 5 := ti_5; omega)
    have q_13 : (f_11 36 3).toInt = 5 := (congrArg Int32.toInt (show f_11 36 3 = 5 from (Eq.trans (by rw [ef_11, sg_up_s, sgu_s]) c_12))).trans (by decide)
    refine sg_calli (va_runV (As := [.int 50, .int 1, .int x2, .int 2]) (rest := []) ⟨hx, hb, hml, hown, hts⟩ (kX3_runs_50_1_2_f5_f4 l D ca za h hh f_11 L Q hI x2 (Eq.trans (by rw [ef_11, sg_up_s, sgu_s]) c_12) (by rw [ef_11, sg_up_s, sgu_n (by decide)]; exact m_8) b2 (by have k0 : (50 : Int32).toInt = 50 := ti_50; have k1 : (1 : Int32).toInt = 1 := ti_1; have k3 : (2 : Int32).toInt = 2 := ti_2; omega) H.size) (sl_c3_runs_4_0_0_100_3 hts ⟨Nat.le_of_ble_eq_true rfl, Nat.le_of_ble_eq_true rfl⟩) (sl_vX_36 hA hK hP hS hZ) rfl rfl hl.1 rfl (lv_room (Nat.le_of_ble_eq_true rfl)) dX3_does_77 ⟨Nat.le_refl _, Nat.le_refl _⟩) hA hS (fun r_18 f_15 L_16 Q_17 H locs hq hP hS => ?_)
    obtain ⟨⟨hI, hk_f_15, eL9, eQ9⟩, hq, p_19, u_20⟩ := hq
    rw [eL9, eQ9] at hP; clear eL9 eQ9
    have hF : sgK WkX3_does_4_2_1_f4_f4 f f_15 := sgK.tr hF hk_f_15 (by decide +kernel)
    obtain ⟨v_21, ev_21⟩ : ∃ z : Int32, z = f_15 36 3 := ⟨_, rfl⟩
    have q_22 : 0 ≤ v_21.toInt ∧ v_21.toInt ≤ 19 := by rw [ev_21]; exact hI 36 3
    have q_23 : (f_15 36 3).toInt = v_21.toInt := (congrArg Int32.toInt (show f_15 36 3 = v_21 from ev_21.symm))
    have k_25 : (50 : Int32).toInt = 50 := by decide
    have k_26 : (1 : Int32).toInt = 1 := by decide
    have k_27 : (2 : Int32).toInt = 2 := by decide
    exact hret _ _ _ _ (r_18) f_15 L Q dX3_does_80 hP hS ⟨⟨hI, hF, rfl, rfl⟩, trivial, ⟨by omega, by omega⟩, (Eq.trans (Eq.symm (hs.trans ((spl_e ev_2 (spl_e ev_5 (spl_e ev_9 (spl_e ef_11 (spl2_e u_20 (spl_e ev_21 rfl))))))))) hsp)⟩
  refine lv_iload_n hx hb dX3_does_0 rfl (lv_at hl 1 rfl) ?_
  refine lv_iload_n hx hb dX3_does_1 rfl (lv_at hl 2 rfl) ?_
  refine sg_calli (va_runS (As := [.int 4, .int 2]) (rest := []) ⟨hx, hb, hml, hown, hts⟩ (kX3_ownerOf_4_2 l D ca za h hh f L Q hI H.size) (va_cwS 2 hts (gw_S (fun _ h => List.mem_cons_of_mem _ h) mw_189 mw_190 mw_47 mw_188) rfl rfl rfl hd_yX3_ownerOf.2 ⟨Nat.le_of_ble_eq_true rfl, Nat.le_of_ble_eq_true rfl⟩) (sg_preS hA hK hP hS hZ) rfl rfl hl.1 rfl (lv_room (Nat.le_of_ble_eq_true rfl)) dX3_does_2 ⟨Nat.le_refl _, Nat.le_refl _⟩) hA hS (fun r_33 f_30 L_31 Q_32 H locs hq hP hS => ?_)
  obtain ⟨⟨ef9, eL9, eQ9⟩, hq, u_34⟩ := hq
  rw [ef9, eL9, eQ9] at hP; clear ef9 eL9 eQ9
  obtain rfl : r_33 = 4 := Int32.toInt_inj.mp (by have k9 : (4 : Int32).toInt = 4 := ti_4; omega)
  refine lv_istore (lv' := [(5, .int 4), (0, .ref (h 36)), (1, .int 4), (2, .int 2), (3, .int x2), (4, .int 1)]) hx hb dX3_does_5 hl (by decide) rfl (fun ls hl => ?_)
  refine lv_iload hx hb dX3_does_7 (lv_at hl 0 rfl) ?_
  refine lv_if_lt (tgt := 19) hx hb dX3_does_9 (by decide) (fun c => absurd c (by decide)) (fun c => ?_)
  refine lv_iload hx hb dX3_does_12 (lv_at hl 5 rfl) ?_
  refine lv_bipush (v := 40) hx hb dX3_does_14 bp_40 ?_
  refine lv_icmp_le (tgt := 21) hx hb dX3_does_16 (by decide) (fun c => ?_) (fun c => absurd c (by decide))
  refine sg_gets hx hb hZ 3 rfl hS hown (hts _ (List.mem_cons_of_mem _ mw_173)) (fun _ h9 => h9) dX3_does_21 ?_
  refine lv_iload hx hb dX3_does_24 (lv_at hl 0 rfl) ?_
  refine lv_iconst (v := 4) hx hb dX3_does_26 ic_4 ?_
  refine lv_imul hx hb dX3_does_27 ?_
  refine W.eq (g2 := F0 m 28 ls [.int 16, .ref (za 3)]) (by rw [show (4 * 4 : Int32) = 16 from by decide]) ?_
  refine lv_iload_n hx hb dX3_does_28 rfl (lv_at hl 3 rfl) ?_
  refine lv_iadd hx hb dX3_does_29 ?_
  refine W.eq (g2 := F0 m 30 ls [.int 18, .ref (za 3)]) (by rw [show (16 + 2 : Int32) = 18 from by decide]) ?_
  refine sg_sald hx hb hZ 3 rfl hS (y := 18) (N := 32) (vp_in_iff.mpr (by decide)) dX3_does_30 ?_
  refine W.eq (g2 := F0 m 31 ls [.int 50]) (by rfl) ?_
  refine lv_istore (lv' := [(6, .int 50), (5, .int 4), (0, .ref (h 36)), (1, .int 4), (2, .int 2), (3, .int x2), (4, .int 1)]) hx hb dX3_does_31 hl (by decide) rfl (fun ls hl => ?_)
  refine lv_aload_n hx hb dX3_does_33 rfl (lv_at hl 2 rfl) ?_
  refine sl_gX_36_3_3 (v := 4) hx hb hts hown hK hP (show f 36 3 = 4 from hf_36_3) dX3_does_34 ?_
  refine lv_bipush (v := 24) hx hb dX3_does_37 bp_24 ?_
  refine lv_icmp_ge (tgt := 53) hx hb dX3_does_39 (by decide) (fun c => absurd c (by decide)) (fun c => ?_)
  refine lv_aload_n hx hb dX3_does_42 rfl (lv_at hl 2 rfl) ?_
  refine sl_gX_36_1_3 hx hb hts hown hK hP dX3_does_43 ?_
  refine lv_aload_n hx hb dX3_does_46 rfl (lv_at hl 2 rfl) ?_
  refine sl_gX_36_3_3 (v := 4) hx hb hts hown hK hP (show f 36 3 = 4 from hf_36_3) dX3_does_47 ?_
  refine lv_iload hx hb dX3_does_50 (lv_at hl 0 rfl) ?_
  refine sg_iast hx hb hh hA hK hP hS 38 (by decide) 0 (fun _ => rfl) rfl (i := 4) (x := 50) (vp_in_iff.mpr (by decide)) dX3_does_52 (fun f_35 H locs ef_35 hP hS => ?_)
  have ef_35 : f_35 = sg_up f 38 (sgu (f 38) 4 50) := ef_35
  have hI : sgI loX hiX f_35 := by rw [ef_35]; exact sgI.put hI 38 4 (show 0 ≤ (50 : Int32).toInt ∧ (50 : Int32).toInt ≤ 81 from by decide)
  have hF : sgK WkX3_does_4_2_1_f4_f4 f f_35 := sgK.put hF ef_35 (by rfl)
  exact blk_53 f_35 _ _ _ (hs.trans ((spl_e u_34 (spl_e ef_35 rfl)))) (by have zz36_3 : (f_35 36 3).toInt = 4 := (congrArg Int32.toInt (show f_35 36 3 = 4 from (by rw [ef_35, sg_up_n (by decide)]; exact hf_36_3))).trans (by decide); exact ⟨by omega, by omega⟩) (by have zz36_4 : (f_35 36 4).toInt = 4 := (congrArg Int32.toInt (show f_35 36 4 = 4 from (by rw [ef_35, sg_up_n (by decide)]; exact hf_36_4))).trans (by decide); exact ⟨by omega, by omega⟩) hI hF hP hS (lv_sub hl [2, 5, 6, 1, 0] rfl)

abbrev WkX3_runs_2_m1_1_f1_f4 : List (Nat × Nat × Option Nat) := [(36, 36, some 3), (38, 38, some 1), (38, 38, some 2), (38, 38, some 3), (38, 38, some 4), (38, 38, some 5), (38, 38, some 6), (38, 38, some 7)]
set_option maxHeartbeats 4000000 in
set_option maxRecDepth 100000 in
theorem kX3_runs_2_m1_1_f1_f4 (l : Launch) (D : va_G) (ca : Nat → ClassId) (za h : Nat → Nat) (hh : sgH 52 h) (f : sg_F) (L : sg_L) (Q : sg_Q) (hI : sgI loX hiX f) (x2 : Int32) (hf_36_3 : f 36 3 = 1) (hf_36_4 : f 36 4 = 4) (p0 : 1 ≤ (f 36 3).toInt ∧ (f 36 3).toInt ≤ 1) (sz : Nat) : Met l yX3_runs gwX3_runs { frames := 6, cells := 0, slots := 0, locals := 150 } (sgP D vwCl (tyX ca) 52 h (eX ca h) zcX za f L Q sz [.ref (h 36), .int 2, .int (-1), .int x2, .int 1]) (sgQi D vwCl 52 h (eX ca h) sz (fun r f1 L1 Q1 => ((sgI loX hiX f1 ∧ sgK WkX3_runs_2_m1_1_f1_f4 f f1 ∧ L1 = L ∧ Q1 = Q) ∧ True ∧ (8 ≤ (f1 36 3).toInt ∧ (f1 36 3).toInt ≤ 8) ∧ (r, f1) = sX3_runs_2_m1_1_f1_f4 x2 f L))) 0 0 (sgA 52 h sz) := by
  refine sg_ofWi (cc := cX3_runs) (maxL := 5) RX3 (by decide) rfl rfl (Nat.le_of_ble_eq_true rfl) ?_
  intro p e s m below meth cd Qz ls hx hb hml hown hts hK hZ hP hS hl hret
  have hA := sgY.self (n := 52) (h := h) (sz := s.heap.size)
  have hl : lv_has ls 5 [(0, .ref (h 36)), (1, .int 2), (2, .int (-1)), (3, .int x2), (4, .int 1)] := hl
  obtain ⟨H, hH⟩ : ∃ z : Heap, z = s.heap := ⟨_, rfl⟩
  obtain ⟨locs, hlo⟩ : ∃ z : List Loc, z = [] := ⟨_, rfl⟩
  have hP : va_P D vwCl (sgw 52 h (eX ca h) f L Q) H := by rw [hH]; exact hP
  have hS : va_S (sgA 52 h s.heap.size) s.heap H locs := by rw [hH, hlo]; exact hS
  suffices hgo : W p l e ({ frames := 6, cells := 0, slots := 0, locals := 150 }) s m ([.ref (h 36), .int 2, .int (-1), .int x2, .int 1] : List Value).toArray below meth cd H locs 0 0 Qz (F0 m 0 ls []) by rw [hH, hlo] at hgo; exact hgo
  clear hH hlo
  obtain ⟨sp, hsp⟩ : ∃ z : Int32 × sg_F, z = sX3_runs_2_m1_1_f1_f4 x2 f L := ⟨_, rfl⟩
  have hs : sp = sX3_runs_2_m1_1_f1_f4 x2 f L := hsp
  have o_1 : (f 36 3).toInt = 1 := (congrArg Int32.toInt (show f 36 3 = 1 from hf_36_3)).trans (by decide)
  have hF : sgK WkX3_runs_2_m1_1_f1_f4 f f := sgK.rf
  refine lv_iload_n hx hb dX3_runs_0 rfl (lv_at hl 1 rfl) ?_
  refine lv_lookup (x := 2) (off := 122) (tgt := 123) hx hb dX3_runs_1 (by decide) (by decide) (by decide) ?_
  refine lv_aload_n hx hb dX3_runs_123 rfl (lv_at hl 0 rfl) ?_
  refine lv_aload_n hx hb dX3_runs_124 rfl (lv_at hl 0 rfl) ?_
  refine sl_gX_36_4_3 (v := 4) hx hb hts hown hK hP (show f 36 4 = 4 from hf_36_4) dX3_runs_125 ?_
  refine lv_iconst (v := 1) hx hb dX3_runs_128 ic_1 ?_
  refine lv_iload_n hx hb dX3_runs_129 rfl (lv_at hl 3 rfl) ?_
  refine lv_iload hx hb dX3_runs_130 (lv_at hl 4 rfl) ?_
  have q_2 : (f 36 3).toInt = 1 := (congrArg Int32.toInt (show f 36 3 = 1 from hf_36_3)).trans (by decide)
  refine sg_calli (va_runV (As := [.int 4, .int 1, .int x2, .int 1]) (rest := []) ⟨hx, hb, hml, hown, hts⟩ (kX3_does_4_1_1_f1_f4 l D ca za h hh f L Q hI x2 hf_36_3 hf_36_4 (by have k0 : (4 : Int32).toInt = 4 := ti_4; have k1 : (1 : Int32).toInt = 1 := ti_1; have k3 : (1 : Int32).toInt = 1 := ti_1; omega) H.size) (sl_c3_does_5_0_0_124_3 hts ⟨Nat.le_of_ble_eq_true rfl, Nat.le_of_ble_eq_true rfl⟩) (sl_vX_36 hA hK hP hS hZ) rfl rfl hl.1 rfl (lv_room (Nat.le_of_ble_eq_true rfl)) dX3_runs_132 ⟨Nat.le_refl _, Nat.le_refl _⟩) hA hS (fun r_7 f_4 L_5 Q_6 H locs hq hP hS => ?_)
  obtain ⟨⟨hI, hk_f_4, eL9, eQ9⟩, hq, p_8, u_9⟩ := hq
  rw [eL9, eQ9] at hP; clear eL9 eQ9
  have hF : sgK WkX3_runs_2_m1_1_f1_f4 f f_4 := sgK.tr hF hk_f_4 (by decide +kernel)
  obtain ⟨v_10, ev_10⟩ : ∃ z : Int32, z = f_4 36 3 := ⟨_, rfl⟩
  have q_11 : 0 ≤ v_10.toInt ∧ v_10.toInt ≤ 19 := by rw [ev_10]; exact hI 36 3
  have q_12 : (f_4 36 3).toInt = v_10.toInt := (congrArg Int32.toInt (show f_4 36 3 = v_10 from ev_10.symm))
  have k_14 : (4 : Int32).toInt = 4 := by decide
  have k_15 : (1 : Int32).toInt = 1 := by decide
  have k_16 : (1 : Int32).toInt = 1 := by decide
  refine lv_aload_n hx hb dX3_runs_135 rfl (lv_at hl 0 rfl) ?_
  refine lv_aload_n hx hb dX3_runs_136 rfl (lv_at hl 0 rfl) ?_
  refine sl_gX_36_4_3 (v := 4) hx hb hts hown hK hP (show f_4 36 4 = 4 from ((hk_f_4 36 4 (by decide)).trans hf_36_4)) dX3_runs_137 ?_
  refine lv_iconst (v := 2) hx hb dX3_runs_140 ic_2 ?_
  refine lv_iconst (v := 1) hx hb dX3_runs_141 ic_1 ?_
  refine lv_iload hx hb dX3_runs_142 (lv_at hl 4 rfl) ?_
  have c_17 : v_10 = 4 := Int32.toInt_inj.mp (by have k9 : (4 : Int32).toInt = 4 := ti_4; omega)
  have q_18 : (f_4 36 3).toInt = 4 := (congrArg Int32.toInt (show f_4 36 3 = 4 from (Eq.trans ev_10.symm c_17))).trans (by decide)
  refine sg_calli (va_runV (As := [.int 4, .int 2, .int 1, .int 1]) (rest := [.int r_7]) ⟨hx, hb, hml, hown, hts⟩ (kX3_does_4_2_1_f4_f4 l D ca za h hh f_4 L Q hI 1 (Eq.trans ev_10.symm c_17) ((hk_f_4 36 4 (by decide)).trans hf_36_4) (by decide) (by have k0 : (4 : Int32).toInt = 4 := ti_4; have k1 : (2 : Int32).toInt = 2 := ti_2; have k2 : (1 : Int32).toInt = 1 := ti_1; have k3 : (1 : Int32).toInt = 1 := ti_1; omega) H.size) (sl_c3_does_5_0_0_124_3 hts ⟨Nat.le_of_ble_eq_true rfl, Nat.le_of_ble_eq_true rfl⟩) (sl_vX_36 hA hK hP hS hZ) rfl rfl hl.1 rfl (lv_room (Nat.le_of_ble_eq_true rfl)) dX3_runs_144 ⟨Nat.le_refl _, Nat.le_refl _⟩) hA hS (fun r_23 f_20 L_21 Q_22 H locs hq hP hS => ?_)
  obtain ⟨⟨hI, hk_f_20, eL9, eQ9⟩, hq, p_24, u_25⟩ := hq
  rw [eL9, eQ9] at hP; clear eL9 eQ9
  have hF : sgK WkX3_runs_2_m1_1_f1_f4 f f_20 := sgK.tr hF hk_f_20 (by decide +kernel)
  obtain ⟨v_26, ev_26⟩ : ∃ z : Int32, z = f_20 36 3 := ⟨_, rfl⟩
  have q_27 : 0 ≤ v_26.toInt ∧ v_26.toInt ≤ 19 := by rw [ev_26]; exact hI 36 3
  have q_28 : (f_20 36 3).toInt = v_26.toInt := (congrArg Int32.toInt (show f_20 36 3 = v_26 from ev_26.symm))
  have k_30 : (4 : Int32).toInt = 4 := by decide
  have k_31 : (2 : Int32).toInt = 2 := by decide
  have k_32 : (1 : Int32).toInt = 1 := by decide
  have k_33 : (1 : Int32).toInt = 1 := by decide
  refine lv_isub hx hb dX3_runs_147 ?_
  refine lv_topi (fun v_34 ev_34 => ?_)
  exact hret _ _ _ _ (v_34) f_20 L Q dX3_runs_148 hP hS ⟨⟨hI, hF, rfl, rfl⟩, trivial, ⟨by omega, by omega⟩, (Eq.trans (Eq.symm (hs.trans ((spl2_e u_9 (spl_e ev_10 (spl2_e u_25 (spl_e ev_26 (spl_e ev_34 rfl)))))))) hsp)⟩

abbrev WkX3_does_4_3_0_f0_f4 : List (Nat × Nat × Option Nat) := [(36, 36, some 3), (38, 38, some 0), (38, 38, some 1), (38, 38, some 2), (38, 38, some 3), (38, 38, some 4), (38, 38, some 5), (38, 38, some 6), (38, 38, some 7)]
set_option maxHeartbeats 4000000 in
set_option maxRecDepth 100000 in
theorem kX3_does_4_3_0_f0_f4 (l : Launch) (D : va_G) (ca : Nat → ClassId) (za h : Nat → Nat) (hh : sgH 52 h) (f : sg_F) (L : sg_L) (Q : sg_Q) (hI : sgI loX hiX f) (x2 : Int32) (hf_36_3 : f 36 3 = 0) (hf_36_4 : f 36 4 = 4) (p0 : 0 ≤ (f 36 3).toInt ∧ (f 36 3).toInt ≤ 0) (sz : Nat) : Met l yX3_does gwX3_does { frames := 7, cells := 0, slots := 0, locals := 174 } (sgP D vwCl (tyX ca) 52 h (eX ca h) zcX za f L Q sz [.ref (h 36), .int 4, .int 3, .int x2, .int 0]) (sgQi D vwCl 52 h (eX ca h) sz (fun r f1 L1 Q1 => ((sgI loX hiX f1 ∧ sgK WkX3_does_4_3_0_f0_f4 f f1 ∧ L1 = L ∧ Q1 = Q) ∧ True ∧ (8 ≤ (f1 36 3).toInt ∧ (f1 36 3).toInt ≤ 8) ∧ (r, f1) = sX3_does_4_3_0_f0_f4 x2 f L))) 0 0 (sgA 52 h sz) := by
  refine sg_ofWi (cc := cX3_does) (maxL := 7) RX3 (by decide) rfl rfl (Nat.le_of_ble_eq_true rfl) ?_
  intro p e s m below meth cd Qz ls hx hb hml hown hts hK hZ hP hS hl hret
  have hA := sgY.self (n := 52) (h := h) (sz := s.heap.size)
  have hl : lv_has ls 7 [(0, .ref (h 36)), (1, .int 4), (2, .int 3), (3, .int x2), (4, .int 0)] := hl
  obtain ⟨H, hH⟩ : ∃ z : Heap, z = s.heap := ⟨_, rfl⟩
  obtain ⟨locs, hlo⟩ : ∃ z : List Loc, z = [] := ⟨_, rfl⟩
  have hP : va_P D vwCl (sgw 52 h (eX ca h) f L Q) H := by rw [hH]; exact hP
  have hS : va_S (sgA 52 h s.heap.size) s.heap H locs := by rw [hH, hlo]; exact hS
  suffices hgo : W p l e ({ frames := 7, cells := 0, slots := 0, locals := 174 }) s m ([.ref (h 36), .int 4, .int 3, .int x2, .int 0] : List Value).toArray below meth cd H locs 0 0 Qz (F0 m 0 ls []) by rw [hH, hlo] at hgo; exact hgo
  clear hH hlo
  obtain ⟨sp, hsp⟩ : ∃ z : Int32 × sg_F, z = sX3_does_4_3_0_f0_f4 x2 f L := ⟨_, rfl⟩
  have hs : sp = sX3_does_4_3_0_f0_f4 x2 f L := hsp
  have o_1 : (f 36 3).toInt = 0 := (congrArg Int32.toInt (show f 36 3 = 0 from hf_36_3)).trans (by decide)
  have hF : sgK WkX3_does_4_3_0_f0_f4 f f := sgK.rf
  have blk_53 : ∀ (fp_53 : sg_F) (H : Heap) (locs : List Loc) (ls : Array Slot), sp = sX3_does_4_3_0_f0_f4_b53 x2 fp_53 L → 0 ≤ (fp_53 36 3).toInt ∧ (fp_53 36 3).toInt ≤ 0 → 4 ≤ (fp_53 36 4).toInt ∧ (fp_53 36 4).toInt ≤ 4 → sgI loX hiX fp_53 → sgK WkX3_does_4_3_0_f0_f4 f fp_53 → va_P D vwCl (sgw 52 h (eX ca h) fp_53 L Q) H → va_S (sgA 52 h s.heap.size) s.heap H locs → lv_has ls 7 [(0, .ref (h 36)), (3, .int x2), (4, .int 0), (5, .int 0), (6, .int 2)] → W p l e ({ frames := 7, cells := 0, slots := 0, locals := 174 }) s m ([.ref (h 36), .int 4, .int 3, .int x2, .int 0] : List Value).toArray below meth cd H locs 0 0 Qz (F0 m 53 ls []) := by
    intro fp_53 H locs ls hs hy0_53 hy1_53 hI hF hP hS hl
    obtain ⟨v_2, ev_2⟩ : ∃ z : Int32, z = fp_53 36 3 := ⟨_, rfl⟩
    have q_3 : 0 ≤ v_2.toInt ∧ v_2.toInt ≤ 19 := by rw [ev_2]; exact hI 36 3
    have q_4 : (fp_53 36 3).toInt = v_2.toInt := by rw [ev_2]
    obtain ⟨v_5, ev_5⟩ : ∃ z : Int32, z = fp_53 36 4 := ⟨_, rfl⟩
    have q_6 : 0 ≤ v_5.toInt ∧ v_5.toInt ≤ 7 := by rw [ev_5]; exact hI 36 4
    have q_7 : (fp_53 36 4).toInt = v_5.toInt := by rw [ev_5]
    have m_8 : fp_53 36 4 = 4 := (hF 36 4 (by decide)).trans hf_36_4
    refine lv_aload_n hx hb dX3_does_53 rfl (lv_at hl 0 rfl) ?_
    refine lv_dup hx hb dX3_does_54 rfl ?_
    refine sl_gX_36_3_3 (v := v_2) hx hb hts hown hK hP (show fp_53 36 3 = v_2 from ev_2.symm) dX3_does_55 ?_
    refine lv_iconst (v := 1) hx hb dX3_does_58 ic_1 ?_
    refine lv_iadd hx hb dX3_does_59 ?_
    refine lv_topi (fun v_9 ev_9 => ?_)
    have q_10 : v_9.toInt = v_2.toInt + 1 := by rw [ev_9]; first | exact cm_add ti_1 (by omega) (by omega) | (have k1 : (1 : Int32).toInt = 1 := ti_1; exact (bn_addI (by omega) (by omega)).trans (by omega))
    refine sl_pX_36_3_3 (x := v_9) hx hb hts hown hh hA hK hP hS dX3_does_60 (fun f_11 H locs ef_11 hP hS => ?_)
    have hI : sgI loX hiX f_11 := by rw [ef_11]; exact sgI.put hI 36 3 (show 0 ≤ (v_9 : Int32).toInt ∧ (v_9 : Int32).toInt ≤ 19 from ⟨by omega, by omega⟩)
    have hF : sgK WkX3_does_4_3_0_f0_f4 f f_11 := sgK.put hF ef_11 (by rfl)
    refine lv_aload_n hx hb dX3_does_63 rfl (lv_at hl 0 rfl) ?_
    refine lv_iload hx hb dX3_does_64 (lv_at hl 4 rfl) ?_
    refine sg_gets hx hb hZ 2 rfl hS hown (hts _ (List.mem_cons_of_mem _ mw_174)) (fun _ h9 => h9) dX3_does_66 ?_
    refine lv_iload hx hb dX3_does_69 (lv_at hl 3 rfl) ?_
    refine sg_sald hx hb hZ 2 rfl hS (y := 0) (N := 8) (vp_in_iff.mpr (by decide)) dX3_does_71 ?_
    refine W.eq (g2 := F0 m 72 ls [.int (-1), .int 2, .ref (h 36)]) (by rfl) ?_
    refine lv_iload_n hx hb dX3_does_72 rfl (lv_at hl 1 rfl) ?_
    refine lv_iload hx hb dX3_does_73 (lv_at hl 2 rfl) ?_
    refine lv_iconst (v := 1) hx hb dX3_does_75 ic_1 ?_
    refine lv_iadd hx hb dX3_does_76 ?_
    refine W.eq (g2 := F0 m 77 ls [.int 1, .int x2, .int (-1), .int 2, .ref (h 36)]) (by rw [show (0 + 1 : Int32) = 1 from by decide]) ?_
    have c_12 : v_9 = 1 := Int32.toInt_inj.mp (by have k9 : (1 : Int32).toInt = 1 := ti_1; omega)
    have q_13 : (f_11 36 3).toInt = 1 := (congrArg Int32.toInt (show f_11 36 3 = 1 from (Eq.trans (by rw [ef_11, sg_up_s, sgu_s]) c_12))).trans (by decide)
    refine sg_calli (va_runV (As := [.int 2, .int (-1), .int x2, .int 1]) (rest := []) ⟨hx, hb, hml, hown, hts⟩ (kX3_runs_2_m1_1_f1_f4 l D ca za h hh f_11 L Q hI x2 (Eq.trans (by rw [ef_11, sg_up_s, sgu_s]) c_12) (by rw [ef_11, sg_up_s, sgu_n (by decide)]; exact m_8) (by have k0 : (2 : Int32).toInt = 2 := ti_2; have k1 : ((-1) : Int32).toInt = (-1) := ti_m1; have k3 : (1 : Int32).toInt = 1 := ti_1; omega) H.size) (sl_c3_runs_6_0_0_150_3 hts ⟨Nat.le_of_ble_eq_true rfl, Nat.le_of_ble_eq_true rfl⟩) (sl_vX_36 hA hK hP hS hZ) rfl rfl hl.1 rfl (lv_room (Nat.le_of_ble_eq_true rfl)) dX3_does_77 ⟨Nat.le_refl _, Nat.le_refl _⟩) hA hS (fun r_18 f_15 L_16 Q_17 H locs hq hP hS => ?_)
    obtain ⟨⟨hI, hk_f_15, eL9, eQ9⟩, hq, p_19, u_20⟩ := hq
    rw [eL9, eQ9] at hP; clear eL9 eQ9
    have hF : sgK WkX3_does_4_3_0_f0_f4 f f_15 := sgK.tr hF hk_f_15 (by decide +kernel)
    obtain ⟨v_21, ev_21⟩ : ∃ z : Int32, z = f_15 36 3 := ⟨_, rfl⟩
    have q_22 : 0 ≤ v_21.toInt ∧ v_21.toInt ≤ 19 := by rw [ev_21]; exact hI 36 3
    have q_23 : (f_15 36 3).toInt = v_21.toInt := (congrArg Int32.toInt (show f_15 36 3 = v_21 from ev_21.symm))
    have k_25 : (2 : Int32).toInt = 2 := by decide
    have k_26 : ((-1) : Int32).toInt = (-1) := by decide
    have k_27 : (1 : Int32).toInt = 1 := by decide
    exact hret _ _ _ _ (r_18) f_15 L Q dX3_does_80 hP hS ⟨⟨hI, hF, rfl, rfl⟩, trivial, ⟨by omega, by omega⟩, (Eq.trans (Eq.symm (hs.trans ((spl_e ev_2 (spl_e ev_5 (spl_e ev_9 (spl_e ef_11 (spl2_e u_20 (spl_e ev_21 rfl))))))))) hsp)⟩
  refine lv_iload_n hx hb dX3_does_0 rfl (lv_at hl 1 rfl) ?_
  refine lv_iload_n hx hb dX3_does_1 rfl (lv_at hl 2 rfl) ?_
  refine sg_calli (va_runS (As := [.int 4, .int 3]) (rest := []) ⟨hx, hb, hml, hown, hts⟩ (kX3_ownerOf_4_3 l D ca za h hh f L Q hI H.size) (va_cwS 2 hts (gw_S (fun _ h => List.mem_cons_of_mem _ h) mw_189 mw_190 mw_47 mw_188) rfl rfl rfl hd_yX3_ownerOf.2 ⟨Nat.le_of_ble_eq_true rfl, Nat.le_of_ble_eq_true rfl⟩) (sg_preS hA hK hP hS hZ) rfl rfl hl.1 rfl (lv_room (Nat.le_of_ble_eq_true rfl)) dX3_does_2 ⟨Nat.le_refl _, Nat.le_refl _⟩) hA hS (fun r_33 f_30 L_31 Q_32 H locs hq hP hS => ?_)
  obtain ⟨⟨ef9, eL9, eQ9⟩, hq, u_34⟩ := hq
  rw [ef9, eL9, eQ9] at hP; clear ef9 eL9 eQ9
  obtain rfl : r_33 = 0 := Int32.toInt_inj.mp (by have k9 : (0 : Int32).toInt = 0 := ti_0; omega)
  refine lv_istore (lv' := [(5, .int 0), (0, .ref (h 36)), (1, .int 4), (2, .int 3), (3, .int x2), (4, .int 0)]) hx hb dX3_does_5 hl (by decide) rfl (fun ls hl => ?_)
  refine lv_iload hx hb dX3_does_7 (lv_at hl 0 rfl) ?_
  refine lv_if_lt (tgt := 19) hx hb dX3_does_9 (by decide) (fun c => absurd c (by decide)) (fun c => ?_)
  refine lv_iload hx hb dX3_does_12 (lv_at hl 5 rfl) ?_
  refine lv_bipush (v := 40) hx hb dX3_does_14 bp_40 ?_
  refine lv_icmp_le (tgt := 21) hx hb dX3_does_16 (by decide) (fun c => ?_) (fun c => absurd c (by decide))
  refine sg_gets hx hb hZ 3 rfl hS hown (hts _ (List.mem_cons_of_mem _ mw_173)) (fun _ h9 => h9) dX3_does_21 ?_
  refine lv_iload hx hb dX3_does_24 (lv_at hl 0 rfl) ?_
  refine lv_iconst (v := 4) hx hb dX3_does_26 ic_4 ?_
  refine lv_imul hx hb dX3_does_27 ?_
  refine W.eq (g2 := F0 m 28 ls [.int 0, .ref (za 3)]) (by rw [show (0 * 4 : Int32) = 0 from by decide]) ?_
  refine lv_iload_n hx hb dX3_does_28 rfl (lv_at hl 3 rfl) ?_
  refine lv_iadd hx hb dX3_does_29 ?_
  refine W.eq (g2 := F0 m 30 ls [.int 3, .ref (za 3)]) (by rw [show (0 + 3 : Int32) = 3 from by decide]) ?_
  refine sg_sald hx hb hZ 3 rfl hS (y := 3) (N := 32) (vp_in_iff.mpr (by decide)) dX3_does_30 ?_
  refine W.eq (g2 := F0 m 31 ls [.int 2]) (by rfl) ?_
  refine lv_istore (lv' := [(6, .int 2), (5, .int 0), (0, .ref (h 36)), (1, .int 4), (2, .int 3), (3, .int x2), (4, .int 0)]) hx hb dX3_does_31 hl (by decide) rfl (fun ls hl => ?_)
  refine lv_aload_n hx hb dX3_does_33 rfl (lv_at hl 2 rfl) ?_
  refine sl_gX_36_3_3 (v := 0) hx hb hts hown hK hP (show f 36 3 = 0 from hf_36_3) dX3_does_34 ?_
  refine lv_bipush (v := 24) hx hb dX3_does_37 bp_24 ?_
  refine lv_icmp_ge (tgt := 53) hx hb dX3_does_39 (by decide) (fun c => absurd c (by decide)) (fun c => ?_)
  refine lv_aload_n hx hb dX3_does_42 rfl (lv_at hl 2 rfl) ?_
  refine sl_gX_36_1_3 hx hb hts hown hK hP dX3_does_43 ?_
  refine lv_aload_n hx hb dX3_does_46 rfl (lv_at hl 2 rfl) ?_
  refine sl_gX_36_3_3 (v := 0) hx hb hts hown hK hP (show f 36 3 = 0 from hf_36_3) dX3_does_47 ?_
  refine lv_iload hx hb dX3_does_50 (lv_at hl 0 rfl) ?_
  refine sg_iast hx hb hh hA hK hP hS 38 (by decide) 0 (fun _ => rfl) rfl (i := 0) (x := 2) (vp_in_iff.mpr (by decide)) dX3_does_52 (fun f_35 H locs ef_35 hP hS => ?_)
  have ef_35 : f_35 = sg_up f 38 (sgu (f 38) 0 2) := ef_35
  have hI : sgI loX hiX f_35 := by rw [ef_35]; exact sgI.put hI 38 0 (show 0 ≤ (2 : Int32).toInt ∧ (2 : Int32).toInt ≤ 81 from by decide)
  have hF : sgK WkX3_does_4_3_0_f0_f4 f f_35 := sgK.put hF ef_35 (by rfl)
  exact blk_53 f_35 _ _ _ (hs.trans ((spl_e u_34 (spl_e ef_35 rfl)))) (by have zz36_3 : (f_35 36 3).toInt = 0 := (congrArg Int32.toInt (show f_35 36 3 = 0 from (by rw [ef_35, sg_up_n (by decide)]; exact hf_36_3))).trans (by decide); exact ⟨by omega, by omega⟩) (by have zz36_4 : (f_35 36 4).toInt = 4 := (congrArg Int32.toInt (show f_35 36 4 = 4 from (by rw [ef_35, sg_up_n (by decide)]; exact hf_36_4))).trans (by decide); exact ⟨by omega, by omega⟩) hI hF hP hS (lv_sub hl [2, 5, 6, 1, 0] rfl)

set_option maxHeartbeats 4000000 in
set_option maxRecDepth 100000 in
theorem kX3_ownerOf_5_3 (l : Launch) (D : va_G) (ca : Nat → ClassId) (za h : Nat → Nat) (hh : sgH 52 h) (f : sg_F) (L : sg_L) (Q : sg_Q) (hI : sgI loX hiX f) (sz : Nat) : Met l yX3_ownerOf gwX3_ownerOf { frames := 0, cells := 0, slots := 0, locals := 0 } (sgP D vwCl (tyX ca) 52 h (eX ca h) zcX za f L Q sz [.int 5, .int 3]) (sgQi D vwCl 52 h (eX ca h) sz (fun r f1 L1 Q1 => ((f1 = f ∧ L1 = L ∧ Q1 = Q) ∧ (5 ≤ r.toInt ∧ r.toInt ≤ 5) ∧ (r) = sX3_ownerOf_5_3 f L))) 0 0 (sgA 52 h sz) := by
  refine sg_ofWi (cc := cX3_ownerOf) (maxL := 4) RX3 (by decide) rfl rfl (Nat.le_of_ble_eq_true rfl) ?_
  intro p e s m below meth cd Qz ls hx hb hml hown hts hK hZ hP hS hl hret
  have hA := sgY.self (n := 52) (h := h) (sz := s.heap.size)
  have hl : lv_has ls 4 [(0, .int 5), (1, .int 3)] := hl
  obtain ⟨H, hH⟩ : ∃ z : Heap, z = s.heap := ⟨_, rfl⟩
  obtain ⟨locs, hlo⟩ : ∃ z : List Loc, z = [] := ⟨_, rfl⟩
  have hP : va_P D vwCl (sgw 52 h (eX ca h) f L Q) H := by rw [hH]; exact hP
  have hS : va_S (sgA 52 h s.heap.size) s.heap H locs := by rw [hH, hlo]; exact hS
  suffices hgo : W p l e ({ frames := 0, cells := 0, slots := 0, locals := 0 }) s m ([.int 5, .int 3] : List Value).toArray below meth cd H locs 0 0 Qz (F0 m 0 ls []) by rw [hH, hlo] at hgo; exact hgo
  clear hH hlo
  obtain ⟨sp, hsp⟩ : ∃ z : Int32, z = sX3_ownerOf_5_3 f L := ⟨_, rfl⟩
  have hs : sp = sX3_ownerOf_5_3 f L := hsp
  refine lv_iload_n hx hb dX3_ownerOf_0 rfl (lv_at hl 0 rfl) ?_
  refine lv_istore_n (lv' := [(2, .int 5), (0, .int 5), (1, .int 3)]) hx hb dX3_ownerOf_1 rfl hl (by decide) rfl (fun ls hl => ?_)
  refine lv_iconst (v := 0) hx hb dX3_ownerOf_2 ic_0 ?_
  refine lv_istore_n (lv' := [(3, .int 0), (2, .int 5), (0, .int 5), (1, .int 3)]) hx hb dX3_ownerOf_3 rfl hl (by decide) rfl (fun ls hl => ?_)
  refine lv_iload_n hx hb dX3_ownerOf_4 rfl (lv_at hl 0 rfl) ?_
  refine lv_bipush (v := 8) hx hb dX3_ownerOf_5 bp_8 ?_
  refine lv_icmp_ge (tgt := 40) hx hb dX3_ownerOf_7 (by decide) (fun c => absurd c (by decide)) (fun c => ?_)
  refine lv_iload_n hx hb dX3_ownerOf_10 rfl (lv_at hl 1 rfl) ?_
  refine lv_if_lt (tgt := 40) hx hb dX3_ownerOf_11 (by decide) (fun c => absurd c (by decide)) (fun c => ?_)
  refine sg_gets hx hb hZ 3 rfl hS hown (hts _ (List.mem_cons_of_mem _ mw_173)) (fun _ h9 => h9) dX3_ownerOf_14 ?_
  refine lv_iload_n hx hb dX3_ownerOf_17 rfl (lv_at hl 1 rfl) ?_
  refine lv_iconst (v := 4) hx hb dX3_ownerOf_18 ic_4 ?_
  refine lv_imul hx hb dX3_ownerOf_19 ?_
  refine W.eq (g2 := F0 m 20 ls [.int 20, .ref (za 3)]) (by rw [show (5 * 4 : Int32) = 20 from by decide]) ?_
  refine lv_iload_n hx hb dX3_ownerOf_20 rfl (lv_at hl 3 rfl) ?_
  refine lv_iadd hx hb dX3_ownerOf_21 ?_
  refine W.eq (g2 := F0 m 22 ls [.int 23, .ref (za 3)]) (by rw [show (20 + 3 : Int32) = 23 from by decide]) ?_
  refine sg_sald hx hb hZ 3 rfl hS (y := 23) (N := 32) (vp_in_iff.mpr (by decide)) dX3_ownerOf_22 ?_
  refine W.eq (g2 := F0 m 23 ls [.int 60]) (by rfl) ?_
  refine lv_if_eq (tgt := 28) hx hb dX3_ownerOf_23 (by decide) (fun c => absurd c (by decide)) (fun c => ?_)
  refine lv_iload_n hx hb dX3_ownerOf_26 rfl (lv_at hl 1 rfl) ?_
  have k99 : (5 : Int32).toInt = 5 := ti_5
  exact hret _ _ _ _ (5) f L Q dX3_ownerOf_27 hP hS ⟨⟨rfl, rfl, rfl⟩, (by decide), (Eq.trans (Eq.symm hs) hsp)⟩

set_option maxHeartbeats 4000000 in
set_option maxRecDepth 100000 in
theorem kX3_runs_1_m1_6_f6_f5 (l : Launch) (D : va_G) (ca : Nat → ClassId) (za h : Nat → Nat) (hh : sgH 52 h) (f : sg_F) (L : sg_L) (Q : sg_Q) (hI : sgI loX hiX f) (x2 : Int32) (hf_36_3 : f 36 3 = 6) (hf_36_4 : f 36 4 = 5) (p0 : 6 ≤ (f 36 3).toInt ∧ (f 36 3).toInt ≤ 6) (sz : Nat) : Met l yX3_runs gwX3_runs { frames := 0, cells := 0, slots := 0, locals := 0 } (sgP D vwCl (tyX ca) 52 h (eX ca h) zcX za f L Q sz [.ref (h 36), .int 1, .int (-1), .int x2, .int 6]) (sgQi D vwCl 52 h (eX ca h) sz (fun r f1 L1 Q1 => ((f1 = f ∧ L1 = L ∧ Q1 = Q) ∧ True ∧ (6 ≤ (f1 36 3).toInt ∧ (f1 36 3).toInt ≤ 6) ∧ (r) = sX3_runs_1_m1_6_f6_f5 x2 f L))) 0 0 (sgA 52 h sz) := by
  refine sg_ofWi (cc := cX3_runs) (maxL := 5) RX3 (by decide) rfl rfl (Nat.le_of_ble_eq_true rfl) ?_
  intro p e s m below meth cd Qz ls hx hb hml hown hts hK hZ hP hS hl hret
  have hA := sgY.self (n := 52) (h := h) (sz := s.heap.size)
  have hl : lv_has ls 5 [(0, .ref (h 36)), (1, .int 1), (2, .int (-1)), (3, .int x2), (4, .int 6)] := hl
  obtain ⟨H, hH⟩ : ∃ z : Heap, z = s.heap := ⟨_, rfl⟩
  obtain ⟨locs, hlo⟩ : ∃ z : List Loc, z = [] := ⟨_, rfl⟩
  have hP : va_P D vwCl (sgw 52 h (eX ca h) f L Q) H := by rw [hH]; exact hP
  have hS : va_S (sgA 52 h s.heap.size) s.heap H locs := by rw [hH, hlo]; exact hS
  suffices hgo : W p l e ({ frames := 0, cells := 0, slots := 0, locals := 0 }) s m ([.ref (h 36), .int 1, .int (-1), .int x2, .int 6] : List Value).toArray below meth cd H locs 0 0 Qz (F0 m 0 ls []) by rw [hH, hlo] at hgo; exact hgo
  clear hH hlo
  obtain ⟨sp, hsp⟩ : ∃ z : Int32, z = sX3_runs_1_m1_6_f6_f5 x2 f L := ⟨_, rfl⟩
  have hs : sp = sX3_runs_1_m1_6_f6_f5 x2 f L := hsp
  have o_1 : (f 36 3).toInt = 6 := (congrArg Int32.toInt (show f 36 3 = 6 from hf_36_3)).trans (by decide)
  refine lv_iload_n hx hb dX3_runs_0 rfl (lv_at hl 1 rfl) ?_
  refine lv_lookup (x := 1) (off := 115) (tgt := 116) hx hb dX3_runs_1 (by decide) (by decide) (by decide) ?_
  refine lv_iload_n hx hb dX3_runs_116 rfl (lv_at hl 3 rfl) ?_
  refine lv_aload_n hx hb dX3_runs_117 rfl (lv_at hl 0 rfl) ?_
  refine sl_gX_36_5_3 (v := (f 36 5)) hx hb hts hown hK hP rfl dX3_runs_118 ?_
  refine lv_topi (fun v_2 ev_2 => ?_)
  have q_3 : 0 ≤ v_2.toInt ∧ v_2.toInt ≤ 49 := by rw [ev_2]; exact hI 36 5
  refine lv_iadd hx hb dX3_runs_121 ?_
  refine lv_topi (fun v_4 ev_4 => ?_)
  have q_5 : (f 36 3).toInt = 6 := (congrArg Int32.toInt (show f 36 3 = 6 from hf_36_3)).trans (by decide)
  exact hret _ _ _ _ (v_4) f L Q dX3_runs_122 hP hS ⟨⟨rfl, rfl, rfl⟩, trivial, ⟨by omega, by omega⟩, (Eq.trans (Eq.symm (hs.trans ((spl_e ev_2 (spl_e ev_4 rfl))))) hsp)⟩

abbrev WkX3_does_5_0_5_f5_f5 : List (Nat × Nat × Option Nat) := [(36, 36, some 3), (38, 38, some 5)]
set_option maxHeartbeats 4000000 in
set_option maxRecDepth 100000 in
theorem kX3_does_5_0_5_f5_f5 (l : Launch) (D : va_G) (ca : Nat → ClassId) (za h : Nat → Nat) (hh : sgH 52 h) (f : sg_F) (L : sg_L) (Q : sg_Q) (hI : sgI loX hiX f) (x2 : Int32) (hf_36_3 : f 36 3 = 5) (hf_36_4 : f 36 4 = 5) (p0 : 5 ≤ (f 36 3).toInt ∧ (f 36 3).toInt ≤ 5) (sz : Nat) : Met l yX3_does gwX3_does { frames := 1, cells := 0, slots := 0, locals := 24 } (sgP D vwCl (tyX ca) 52 h (eX ca h) zcX za f L Q sz [.ref (h 36), .int 5, .int 0, .int x2, .int 5]) (sgQi D vwCl 52 h (eX ca h) sz (fun r f1 L1 Q1 => ((sgI loX hiX f1 ∧ sgK WkX3_does_5_0_5_f5_f5 f f1 ∧ L1 = L ∧ Q1 = Q) ∧ True ∧ (6 ≤ (f1 36 3).toInt ∧ (f1 36 3).toInt ≤ 6) ∧ (r, f1) = sX3_does_5_0_5_f5_f5 x2 f L))) 0 0 (sgA 52 h sz) := by
  refine sg_ofWi (cc := cX3_does) (maxL := 7) RX3 (by decide) rfl rfl (Nat.le_of_ble_eq_true rfl) ?_
  intro p e s m below meth cd Qz ls hx hb hml hown hts hK hZ hP hS hl hret
  have hA := sgY.self (n := 52) (h := h) (sz := s.heap.size)
  have hl : lv_has ls 7 [(0, .ref (h 36)), (1, .int 5), (2, .int 0), (3, .int x2), (4, .int 5)] := hl
  obtain ⟨H, hH⟩ : ∃ z : Heap, z = s.heap := ⟨_, rfl⟩
  obtain ⟨locs, hlo⟩ : ∃ z : List Loc, z = [] := ⟨_, rfl⟩
  have hP : va_P D vwCl (sgw 52 h (eX ca h) f L Q) H := by rw [hH]; exact hP
  have hS : va_S (sgA 52 h s.heap.size) s.heap H locs := by rw [hH, hlo]; exact hS
  suffices hgo : W p l e ({ frames := 1, cells := 0, slots := 0, locals := 24 }) s m ([.ref (h 36), .int 5, .int 0, .int x2, .int 5] : List Value).toArray below meth cd H locs 0 0 Qz (F0 m 0 ls []) by rw [hH, hlo] at hgo; exact hgo
  clear hH hlo
  obtain ⟨sp, hsp⟩ : ∃ z : Int32 × sg_F, z = sX3_does_5_0_5_f5_f5 x2 f L := ⟨_, rfl⟩
  have hs : sp = sX3_does_5_0_5_f5_f5 x2 f L := hsp
  have o_1 : (f 36 3).toInt = 5 := (congrArg Int32.toInt (show f 36 3 = 5 from hf_36_3)).trans (by decide)
  have hF : sgK WkX3_does_5_0_5_f5_f5 f f := sgK.rf
  have blk_53 : ∀ (fp_53 : sg_F) (H : Heap) (locs : List Loc) (ls : Array Slot), sp = sX3_does_5_0_5_f5_f5_b53 x2 fp_53 L → 5 ≤ (fp_53 36 3).toInt ∧ (fp_53 36 3).toInt ≤ 5 → 5 ≤ (fp_53 36 4).toInt ∧ (fp_53 36 4).toInt ≤ 5 → sgI loX hiX fp_53 → sgK WkX3_does_5_0_5_f5_f5 f fp_53 → va_P D vwCl (sgw 52 h (eX ca h) fp_53 L Q) H → va_S (sgA 52 h s.heap.size) s.heap H locs → lv_has ls 7 [(0, .ref (h 36)), (3, .int x2), (4, .int 5), (5, .int 0), (6, .int 1)] → W p l e ({ frames := 1, cells := 0, slots := 0, locals := 24 }) s m ([.ref (h 36), .int 5, .int 0, .int x2, .int 5] : List Value).toArray below meth cd H locs 0 0 Qz (F0 m 53 ls []) := by
    intro fp_53 H locs ls hs hy0_53 hy1_53 hI hF hP hS hl
    obtain ⟨v_2, ev_2⟩ : ∃ z : Int32, z = fp_53 36 3 := ⟨_, rfl⟩
    have q_3 : 0 ≤ v_2.toInt ∧ v_2.toInt ≤ 19 := by rw [ev_2]; exact hI 36 3
    have q_4 : (fp_53 36 3).toInt = v_2.toInt := by rw [ev_2]
    obtain ⟨v_5, ev_5⟩ : ∃ z : Int32, z = fp_53 36 4 := ⟨_, rfl⟩
    have q_6 : 0 ≤ v_5.toInt ∧ v_5.toInt ≤ 7 := by rw [ev_5]; exact hI 36 4
    have q_7 : (fp_53 36 4).toInt = v_5.toInt := by rw [ev_5]
    have m_8 : fp_53 36 4 = 5 := (hF 36 4 (by decide)).trans hf_36_4
    refine lv_aload_n hx hb dX3_does_53 rfl (lv_at hl 0 rfl) ?_
    refine lv_dup hx hb dX3_does_54 rfl ?_
    refine sl_gX_36_3_3 (v := v_2) hx hb hts hown hK hP (show fp_53 36 3 = v_2 from ev_2.symm) dX3_does_55 ?_
    refine lv_iconst (v := 1) hx hb dX3_does_58 ic_1 ?_
    refine lv_iadd hx hb dX3_does_59 ?_
    refine lv_topi (fun v_9 ev_9 => ?_)
    have q_10 : v_9.toInt = v_2.toInt + 1 := by rw [ev_9]; first | exact cm_add ti_1 (by omega) (by omega) | (have k1 : (1 : Int32).toInt = 1 := ti_1; exact (bn_addI (by omega) (by omega)).trans (by omega))
    refine sl_pX_36_3_3 (x := v_9) hx hb hts hown hh hA hK hP hS dX3_does_60 (fun f_11 H locs ef_11 hP hS => ?_)
    have hI : sgI loX hiX f_11 := by rw [ef_11]; exact sgI.put hI 36 3 (show 0 ≤ (v_9 : Int32).toInt ∧ (v_9 : Int32).toInt ≤ 19 from ⟨by omega, by omega⟩)
    have hF : sgK WkX3_does_5_0_5_f5_f5 f f_11 := sgK.put hF ef_11 (by rfl)
    refine lv_aload_n hx hb dX3_does_63 rfl (lv_at hl 0 rfl) ?_
    refine lv_iload hx hb dX3_does_64 (lv_at hl 4 rfl) ?_
    refine sg_gets hx hb hZ 2 rfl hS hown (hts _ (List.mem_cons_of_mem _ mw_174)) (fun _ h9 => h9) dX3_does_66 ?_
    refine lv_iload hx hb dX3_does_69 (lv_at hl 3 rfl) ?_
    refine sg_sald hx hb hZ 2 rfl hS (y := 0) (N := 8) (vp_in_iff.mpr (by decide)) dX3_does_71 ?_
    refine W.eq (g2 := F0 m 72 ls [.int (-1), .int 1, .ref (h 36)]) (by rfl) ?_
    refine lv_iload_n hx hb dX3_does_72 rfl (lv_at hl 1 rfl) ?_
    refine lv_iload hx hb dX3_does_73 (lv_at hl 2 rfl) ?_
    refine lv_iconst (v := 1) hx hb dX3_does_75 ic_1 ?_
    refine lv_iadd hx hb dX3_does_76 ?_
    refine W.eq (g2 := F0 m 77 ls [.int 6, .int x2, .int (-1), .int 1, .ref (h 36)]) (by rw [show (5 + 1 : Int32) = 6 from by decide]) ?_
    have c_12 : v_9 = 6 := Int32.toInt_inj.mp (by have k9 : (6 : Int32).toInt = 6 := ti_6; omega)
    have q_13 : (f_11 36 3).toInt = 6 := (congrArg Int32.toInt (show f_11 36 3 = 6 from (Eq.trans (by rw [ef_11, sg_up_s, sgu_s]) c_12))).trans (by decide)
    refine sg_calli (va_runV (As := [.int 1, .int (-1), .int x2, .int 6]) (rest := []) ⟨hx, hb, hml, hown, hts⟩ (kX3_runs_1_m1_6_f6_f5 l D ca za h hh f_11 L Q hI x2 (Eq.trans (by rw [ef_11, sg_up_s, sgu_s]) c_12) (by rw [ef_11, sg_up_s, sgu_n (by decide)]; exact m_8) (by have k0 : (1 : Int32).toInt = 1 := ti_1; have k1 : ((-1) : Int32).toInt = (-1) := ti_m1; have k3 : (6 : Int32).toInt = 6 := ti_6; omega) H.size) (sl_c3_runs_0_0_0_0_3 hts ⟨Nat.le_of_ble_eq_true rfl, Nat.le_of_ble_eq_true rfl⟩) (sl_vX_36 hA hK hP hS hZ) rfl rfl hl.1 rfl (lv_room (Nat.le_of_ble_eq_true rfl)) dX3_does_77 ⟨Nat.le_refl _, Nat.le_refl _⟩) hA hS (fun r_18 f_15 L_16 Q_17 H locs hq hP hS => ?_)
    obtain ⟨⟨ef9, eL9, eQ9⟩, hq, p_19, u_20⟩ := hq
    rw [ef9, eL9, eQ9] at hP; clear ef9 eL9 eQ9
    have k_23 : (1 : Int32).toInt = 1 := by decide
    have k_24 : ((-1) : Int32).toInt = (-1) := by decide
    have k_25 : (6 : Int32).toInt = 6 := by decide
    exact hret _ _ _ _ (r_18) f_11 L Q dX3_does_80 hP hS ⟨⟨hI, hF, rfl, rfl⟩, trivial, ⟨by omega, by omega⟩, (Eq.trans (Eq.symm (hs.trans ((spl_e ev_2 (spl_e ev_5 (spl_e ev_9 (spl_e ef_11 (spl_e u_20 rfl)))))))) hsp)⟩
  refine lv_iload_n hx hb dX3_does_0 rfl (lv_at hl 1 rfl) ?_
  refine lv_iload_n hx hb dX3_does_1 rfl (lv_at hl 2 rfl) ?_
  refine sg_calli (va_runS (As := [.int 5, .int 0]) (rest := []) ⟨hx, hb, hml, hown, hts⟩ (kX3_ownerOf_5_0 l D ca za h hh f L Q hI H.size) (va_cwS 2 hts (gw_S (fun _ h => List.mem_cons_of_mem _ h) mw_189 mw_190 mw_47 mw_188) rfl rfl rfl hd_yX3_ownerOf.2 ⟨Nat.le_of_ble_eq_true rfl, Nat.le_of_ble_eq_true rfl⟩) (sg_preS hA hK hP hS hZ) rfl rfl hl.1 rfl (lv_room (Nat.le_of_ble_eq_true rfl)) dX3_does_2 ⟨Nat.le_refl _, Nat.le_refl _⟩) hA hS (fun r_31 f_28 L_29 Q_30 H locs hq hP hS => ?_)
  obtain ⟨⟨ef9, eL9, eQ9⟩, hq, u_32⟩ := hq
  rw [ef9, eL9, eQ9] at hP; clear ef9 eL9 eQ9
  obtain rfl : r_31 = 0 := Int32.toInt_inj.mp (by have k9 : (0 : Int32).toInt = 0 := ti_0; omega)
  refine lv_istore (lv' := [(5, .int 0), (0, .ref (h 36)), (1, .int 5), (2, .int 0), (3, .int x2), (4, .int 5)]) hx hb dX3_does_5 hl (by decide) rfl (fun ls hl => ?_)
  refine lv_iload hx hb dX3_does_7 (lv_at hl 0 rfl) ?_
  refine lv_if_lt (tgt := 19) hx hb dX3_does_9 (by decide) (fun c => absurd c (by decide)) (fun c => ?_)
  refine lv_iload hx hb dX3_does_12 (lv_at hl 5 rfl) ?_
  refine lv_bipush (v := 40) hx hb dX3_does_14 bp_40 ?_
  refine lv_icmp_le (tgt := 21) hx hb dX3_does_16 (by decide) (fun c => ?_) (fun c => absurd c (by decide))
  refine sg_gets hx hb hZ 3 rfl hS hown (hts _ (List.mem_cons_of_mem _ mw_173)) (fun _ h9 => h9) dX3_does_21 ?_
  refine lv_iload hx hb dX3_does_24 (lv_at hl 0 rfl) ?_
  refine lv_iconst (v := 4) hx hb dX3_does_26 ic_4 ?_
  refine lv_imul hx hb dX3_does_27 ?_
  refine W.eq (g2 := F0 m 28 ls [.int 0, .ref (za 3)]) (by rw [show (0 * 4 : Int32) = 0 from by decide]) ?_
  refine lv_iload_n hx hb dX3_does_28 rfl (lv_at hl 3 rfl) ?_
  refine lv_iadd hx hb dX3_does_29 ?_
  refine W.eq (g2 := F0 m 30 ls [.int 0, .ref (za 3)]) (by rw [show (0 + 0 : Int32) = 0 from by decide]) ?_
  refine sg_sald hx hb hZ 3 rfl hS (y := 0) (N := 32) (vp_in_iff.mpr (by decide)) dX3_does_30 ?_
  refine W.eq (g2 := F0 m 31 ls [.int 1]) (by rfl) ?_
  refine lv_istore (lv' := [(6, .int 1), (5, .int 0), (0, .ref (h 36)), (1, .int 5), (2, .int 0), (3, .int x2), (4, .int 5)]) hx hb dX3_does_31 hl (by decide) rfl (fun ls hl => ?_)
  refine lv_aload_n hx hb dX3_does_33 rfl (lv_at hl 2 rfl) ?_
  refine sl_gX_36_3_3 (v := 5) hx hb hts hown hK hP (show f 36 3 = 5 from hf_36_3) dX3_does_34 ?_
  refine lv_bipush (v := 24) hx hb dX3_does_37 bp_24 ?_
  refine lv_icmp_ge (tgt := 53) hx hb dX3_does_39 (by decide) (fun c => absurd c (by decide)) (fun c => ?_)
  refine lv_aload_n hx hb dX3_does_42 rfl (lv_at hl 2 rfl) ?_
  refine sl_gX_36_1_3 hx hb hts hown hK hP dX3_does_43 ?_
  refine lv_aload_n hx hb dX3_does_46 rfl (lv_at hl 2 rfl) ?_
  refine sl_gX_36_3_3 (v := 5) hx hb hts hown hK hP (show f 36 3 = 5 from hf_36_3) dX3_does_47 ?_
  refine lv_iload hx hb dX3_does_50 (lv_at hl 0 rfl) ?_
  refine sg_iast hx hb hh hA hK hP hS 38 (by decide) 0 (fun _ => rfl) rfl (i := 5) (x := 1) (vp_in_iff.mpr (by decide)) dX3_does_52 (fun f_33 H locs ef_33 hP hS => ?_)
  have ef_33 : f_33 = sg_up f 38 (sgu (f 38) 5 1) := ef_33
  have hI : sgI loX hiX f_33 := by rw [ef_33]; exact sgI.put hI 38 5 (show 0 ≤ (1 : Int32).toInt ∧ (1 : Int32).toInt ≤ 81 from by decide)
  have hF : sgK WkX3_does_5_0_5_f5_f5 f f_33 := sgK.put hF ef_33 (by rfl)
  exact blk_53 f_33 _ _ _ (hs.trans ((spl_e u_32 (spl_e ef_33 rfl)))) (by have zz36_3 : (f_33 36 3).toInt = 5 := (congrArg Int32.toInt (show f_33 36 3 = 5 from (by rw [ef_33, sg_up_n (by decide)]; exact hf_36_3))).trans (by decide); exact ⟨by omega, by omega⟩) (by have zz36_4 : (f_33 36 4).toInt = 5 := (congrArg Int32.toInt (show f_33 36 4 = 5 from (by rw [ef_33, sg_up_n (by decide)]; exact hf_36_4))).trans (by decide); exact ⟨by omega, by omega⟩) hI hF hP hS (lv_sub hl [2, 5, 6, 1, 0] rfl)

abbrev WkX3_runs_10_m1_5_f5_f5 : List (Nat × Nat × Option Nat) := [(36, 36, some 3), (38, 38, some 5)]
set_option maxHeartbeats 4000000 in
set_option maxRecDepth 100000 in
theorem kX3_runs_10_m1_5_f5_f5 (l : Launch) (D : va_G) (ca : Nat → ClassId) (za h : Nat → Nat) (hh : sgH 52 h) (f : sg_F) (L : sg_L) (Q : sg_Q) (hI : sgI loX hiX f) (x2 : Int32) (hf_36_3 : f 36 3 = 5) (hf_36_4 : f 36 4 = 5) (p0 : 5 ≤ (f 36 3).toInt ∧ (f 36 3).toInt ≤ 5) (sz : Nat) : Met l yX3_runs gwX3_runs { frames := 2, cells := 0, slots := 0, locals := 50 } (sgP D vwCl (tyX ca) 52 h (eX ca h) zcX za f L Q sz [.ref (h 36), .int 10, .int (-1), .int x2, .int 5]) (sgQi D vwCl 52 h (eX ca h) sz (fun r f1 L1 Q1 => ((sgI loX hiX f1 ∧ sgK WkX3_runs_10_m1_5_f5_f5 f f1 ∧ L1 = L ∧ Q1 = Q) ∧ True ∧ (6 ≤ (f1 36 3).toInt ∧ (f1 36 3).toInt ≤ 6) ∧ (r, f1) = sX3_runs_10_m1_5_f5_f5 x2 f L))) 0 0 (sgA 52 h sz) := by
  refine sg_ofWi (cc := cX3_runs) (maxL := 5) RX3 (by decide) rfl rfl (Nat.le_of_ble_eq_true rfl) ?_
  intro p e s m below meth cd Qz ls hx hb hml hown hts hK hZ hP hS hl hret
  have hA := sgY.self (n := 52) (h := h) (sz := s.heap.size)
  have hl : lv_has ls 5 [(0, .ref (h 36)), (1, .int 10), (2, .int (-1)), (3, .int x2), (4, .int 5)] := hl
  obtain ⟨H, hH⟩ : ∃ z : Heap, z = s.heap := ⟨_, rfl⟩
  obtain ⟨locs, hlo⟩ : ∃ z : List Loc, z = [] := ⟨_, rfl⟩
  have hP : va_P D vwCl (sgw 52 h (eX ca h) f L Q) H := by rw [hH]; exact hP
  have hS : va_S (sgA 52 h s.heap.size) s.heap H locs := by rw [hH, hlo]; exact hS
  suffices hgo : W p l e ({ frames := 2, cells := 0, slots := 0, locals := 50 }) s m ([.ref (h 36), .int 10, .int (-1), .int x2, .int 5] : List Value).toArray below meth cd H locs 0 0 Qz (F0 m 0 ls []) by rw [hH, hlo] at hgo; exact hgo
  clear hH hlo
  obtain ⟨sp, hsp⟩ : ∃ z : Int32 × sg_F, z = sX3_runs_10_m1_5_f5_f5 x2 f L := ⟨_, rfl⟩
  have hs : sp = sX3_runs_10_m1_5_f5_f5 x2 f L := hsp
  have o_1 : (f 36 3).toInt = 5 := (congrArg Int32.toInt (show f 36 3 = 5 from hf_36_3)).trans (by decide)
  have hF : sgK WkX3_runs_10_m1_5_f5_f5 f f := sgK.rf
  refine lv_iload_n hx hb dX3_runs_0 rfl (lv_at hl 1 rfl) ?_
  refine lv_lookup (x := 10) (off := 148) (tgt := 149) hx hb dX3_runs_1 (by decide) (by decide) (by decide) ?_
  refine lv_aload_n hx hb dX3_runs_149 rfl (lv_at hl 0 rfl) ?_
  refine lv_aload_n hx hb dX3_runs_150 rfl (lv_at hl 0 rfl) ?_
  refine sl_gX_36_4_3 (v := 5) hx hb hts hown hK hP (show f 36 4 = 5 from hf_36_4) dX3_runs_151 ?_
  refine lv_iconst (v := 0) hx hb dX3_runs_154 ic_0 ?_
  refine lv_iload_n hx hb dX3_runs_155 rfl (lv_at hl 3 rfl) ?_
  refine lv_iload hx hb dX3_runs_156 (lv_at hl 4 rfl) ?_
  have q_2 : (f 36 3).toInt = 5 := (congrArg Int32.toInt (show f 36 3 = 5 from hf_36_3)).trans (by decide)
  refine sg_calli (va_runV (As := [.int 5, .int 0, .int x2, .int 5]) (rest := []) ⟨hx, hb, hml, hown, hts⟩ (kX3_does_5_0_5_f5_f5 l D ca za h hh f L Q hI x2 hf_36_3 hf_36_4 (by have k0 : (5 : Int32).toInt = 5 := ti_5; have k1 : (0 : Int32).toInt = 0 := ti_0; have k3 : (5 : Int32).toInt = 5 := ti_5; omega) H.size) (sl_c3_does_1_0_0_24_3 hts ⟨Nat.le_of_ble_eq_true rfl, Nat.le_of_ble_eq_true rfl⟩) (sl_vX_36 hA hK hP hS hZ) rfl rfl hl.1 rfl (lv_room (Nat.le_of_ble_eq_true rfl)) dX3_runs_158 ⟨Nat.le_refl _, Nat.le_refl _⟩) hA hS (fun r_7 f_4 L_5 Q_6 H locs hq hP hS => ?_)
  obtain ⟨⟨hI, hk_f_4, eL9, eQ9⟩, hq, p_8, u_9⟩ := hq
  rw [eL9, eQ9] at hP; clear eL9 eQ9
  have hF : sgK WkX3_runs_10_m1_5_f5_f5 f f_4 := sgK.tr hF hk_f_4 (by decide +kernel)
  obtain ⟨v_10, ev_10⟩ : ∃ z : Int32, z = f_4 36 3 := ⟨_, rfl⟩
  have q_11 : 0 ≤ v_10.toInt ∧ v_10.toInt ≤ 19 := by rw [ev_10]; exact hI 36 3
  have q_12 : (f_4 36 3).toInt = v_10.toInt := (congrArg Int32.toInt (show f_4 36 3 = v_10 from ev_10.symm))
  have k_14 : (5 : Int32).toInt = 5 := by decide
  have k_15 : (0 : Int32).toInt = 0 := by decide
  have k_16 : (5 : Int32).toInt = 5 := by decide
  refine lv_iconst (v := 2) hx hb dX3_runs_161 ic_2 ?_
  refine lv_imul hx hb dX3_runs_162 ?_
  refine lv_topi (fun v_17 ev_17 => ?_)
  exact hret _ _ _ _ (v_17) f_4 L Q dX3_runs_163 hP hS ⟨⟨hI, hF, rfl, rfl⟩, trivial, ⟨by omega, by omega⟩, (Eq.trans (Eq.symm (hs.trans ((spl2_e u_9 (spl_e ev_10 (spl_e ev_17 rfl)))))) hsp)⟩

abbrev WkX3_does_0_1_4_f4_f5 : List (Nat × Nat × Option Nat) := [(36, 36, some 3), (38, 38, some 4), (38, 38, some 5)]
set_option maxHeartbeats 4000000 in
set_option maxRecDepth 100000 in
theorem kX3_does_0_1_4_f4_f5 (l : Launch) (D : va_G) (ca : Nat → ClassId) (za h : Nat → Nat) (hh : sgH 52 h) (f : sg_F) (L : sg_L) (Q : sg_Q) (hI : sgI loX hiX f) (x2 : Int32) (hf_36_3 : f 36 3 = 4) (hf_36_4 : f 36 4 = 5) (p0 : 4 ≤ (f 36 3).toInt ∧ (f 36 3).toInt ≤ 4) (sz : Nat) : Met l yX3_does gwX3_does { frames := 3, cells := 0, slots := 0, locals := 74 } (sgP D vwCl (tyX ca) 52 h (eX ca h) zcX za f L Q sz [.ref (h 36), .int 0, .int 1, .int x2, .int 4]) (sgQi D vwCl 52 h (eX ca h) sz (fun r f1 L1 Q1 => ((sgI loX hiX f1 ∧ sgK WkX3_does_0_1_4_f4_f5 f f1 ∧ L1 = L ∧ Q1 = Q) ∧ True ∧ (6 ≤ (f1 36 3).toInt ∧ (f1 36 3).toInt ≤ 6) ∧ (r, f1) = sX3_does_0_1_4_f4_f5 x2 f L))) 0 0 (sgA 52 h sz) := by
  refine sg_ofWi (cc := cX3_does) (maxL := 7) RX3 (by decide) rfl rfl (Nat.le_of_ble_eq_true rfl) ?_
  intro p e s m below meth cd Qz ls hx hb hml hown hts hK hZ hP hS hl hret
  have hA := sgY.self (n := 52) (h := h) (sz := s.heap.size)
  have hl : lv_has ls 7 [(0, .ref (h 36)), (1, .int 0), (2, .int 1), (3, .int x2), (4, .int 4)] := hl
  obtain ⟨H, hH⟩ : ∃ z : Heap, z = s.heap := ⟨_, rfl⟩
  obtain ⟨locs, hlo⟩ : ∃ z : List Loc, z = [] := ⟨_, rfl⟩
  have hP : va_P D vwCl (sgw 52 h (eX ca h) f L Q) H := by rw [hH]; exact hP
  have hS : va_S (sgA 52 h s.heap.size) s.heap H locs := by rw [hH, hlo]; exact hS
  suffices hgo : W p l e ({ frames := 3, cells := 0, slots := 0, locals := 74 }) s m ([.ref (h 36), .int 0, .int 1, .int x2, .int 4] : List Value).toArray below meth cd H locs 0 0 Qz (F0 m 0 ls []) by rw [hH, hlo] at hgo; exact hgo
  clear hH hlo
  obtain ⟨sp, hsp⟩ : ∃ z : Int32 × sg_F, z = sX3_does_0_1_4_f4_f5 x2 f L := ⟨_, rfl⟩
  have hs : sp = sX3_does_0_1_4_f4_f5 x2 f L := hsp
  have o_1 : (f 36 3).toInt = 4 := (congrArg Int32.toInt (show f 36 3 = 4 from hf_36_3)).trans (by decide)
  have hF : sgK WkX3_does_0_1_4_f4_f5 f f := sgK.rf
  have blk_53 : ∀ (fp_53 : sg_F) (H : Heap) (locs : List Loc) (ls : Array Slot), sp = sX3_does_0_1_4_f4_f5_b53 x2 fp_53 L → 4 ≤ (fp_53 36 3).toInt ∧ (fp_53 36 3).toInt ≤ 4 → 5 ≤ (fp_53 36 4).toInt ∧ (fp_53 36 4).toInt ≤ 5 → sgI loX hiX fp_53 → sgK WkX3_does_0_1_4_f4_f5 f fp_53 → va_P D vwCl (sgw 52 h (eX ca h) fp_53 L Q) H → va_S (sgA 52 h s.heap.size) s.heap H locs → lv_has ls 7 [(0, .ref (h 36)), (3, .int x2), (4, .int 4), (5, .int 0), (6, .int 10)] → W p l e ({ frames := 3, cells := 0, slots := 0, locals := 74 }) s m ([.ref (h 36), .int 0, .int 1, .int x2, .int 4] : List Value).toArray below meth cd H locs 0 0 Qz (F0 m 53 ls []) := by
    intro fp_53 H locs ls hs hy0_53 hy1_53 hI hF hP hS hl
    obtain ⟨v_2, ev_2⟩ : ∃ z : Int32, z = fp_53 36 3 := ⟨_, rfl⟩
    have q_3 : 0 ≤ v_2.toInt ∧ v_2.toInt ≤ 19 := by rw [ev_2]; exact hI 36 3
    have q_4 : (fp_53 36 3).toInt = v_2.toInt := by rw [ev_2]
    obtain ⟨v_5, ev_5⟩ : ∃ z : Int32, z = fp_53 36 4 := ⟨_, rfl⟩
    have q_6 : 0 ≤ v_5.toInt ∧ v_5.toInt ≤ 7 := by rw [ev_5]; exact hI 36 4
    have q_7 : (fp_53 36 4).toInt = v_5.toInt := by rw [ev_5]
    have m_8 : fp_53 36 4 = 5 := (hF 36 4 (by decide)).trans hf_36_4
    refine lv_aload_n hx hb dX3_does_53 rfl (lv_at hl 0 rfl) ?_
    refine lv_dup hx hb dX3_does_54 rfl ?_
    refine sl_gX_36_3_3 (v := v_2) hx hb hts hown hK hP (show fp_53 36 3 = v_2 from ev_2.symm) dX3_does_55 ?_
    refine lv_iconst (v := 1) hx hb dX3_does_58 ic_1 ?_
    refine lv_iadd hx hb dX3_does_59 ?_
    refine lv_topi (fun v_9 ev_9 => ?_)
    have q_10 : v_9.toInt = v_2.toInt + 1 := by rw [ev_9]; first | exact cm_add ti_1 (by omega) (by omega) | (have k1 : (1 : Int32).toInt = 1 := ti_1; exact (bn_addI (by omega) (by omega)).trans (by omega))
    refine sl_pX_36_3_3 (x := v_9) hx hb hts hown hh hA hK hP hS dX3_does_60 (fun f_11 H locs ef_11 hP hS => ?_)
    have hI : sgI loX hiX f_11 := by rw [ef_11]; exact sgI.put hI 36 3 (show 0 ≤ (v_9 : Int32).toInt ∧ (v_9 : Int32).toInt ≤ 19 from ⟨by omega, by omega⟩)
    have hF : sgK WkX3_does_0_1_4_f4_f5 f f_11 := sgK.put hF ef_11 (by rfl)
    refine lv_aload_n hx hb dX3_does_63 rfl (lv_at hl 0 rfl) ?_
    refine lv_iload hx hb dX3_does_64 (lv_at hl 4 rfl) ?_
    refine sg_gets hx hb hZ 2 rfl hS hown (hts _ (List.mem_cons_of_mem _ mw_174)) (fun _ h9 => h9) dX3_does_66 ?_
    refine lv_iload hx hb dX3_does_69 (lv_at hl 3 rfl) ?_
    refine sg_sald hx hb hZ 2 rfl hS (y := 0) (N := 8) (vp_in_iff.mpr (by decide)) dX3_does_71 ?_
    refine W.eq (g2 := F0 m 72 ls [.int (-1), .int 10, .ref (h 36)]) (by rfl) ?_
    refine lv_iload_n hx hb dX3_does_72 rfl (lv_at hl 1 rfl) ?_
    refine lv_iload hx hb dX3_does_73 (lv_at hl 2 rfl) ?_
    refine lv_iconst (v := 1) hx hb dX3_does_75 ic_1 ?_
    refine lv_iadd hx hb dX3_does_76 ?_
    refine W.eq (g2 := F0 m 77 ls [.int 5, .int x2, .int (-1), .int 10, .ref (h 36)]) (by rw [show (4 + 1 : Int32) = 5 from by decide]) ?_
    have c_12 : v_9 = 5 := Int32.toInt_inj.mp (by have k9 : (5 : Int32).toInt = 5 := ti_5; omega)
    have q_13 : (f_11 36 3).toInt = 5 := (congrArg Int32.toInt (show f_11 36 3 = 5 from (Eq.trans (by rw [ef_11, sg_up_s, sgu_s]) c_12))).trans (by decide)
    refine sg_calli (va_runV (As := [.int 10, .int (-1), .int x2, .int 5]) (rest := []) ⟨hx, hb, hml, hown, hts⟩ (kX3_runs_10_m1_5_f5_f5 l D ca za h hh f_11 L Q hI x2 (Eq.trans (by rw [ef_11, sg_up_s, sgu_s]) c_12) (by rw [ef_11, sg_up_s, sgu_n (by decide)]; exact m_8) (by have k0 : (10 : Int32).toInt = 10 := ti_10; have k1 : ((-1) : Int32).toInt = (-1) := ti_m1; have k3 : (5 : Int32).toInt = 5 := ti_5; omega) H.size) (sl_c3_runs_2_0_0_50_3 hts ⟨Nat.le_of_ble_eq_true rfl, Nat.le_of_ble_eq_true rfl⟩) (sl_vX_36 hA hK hP hS hZ) rfl rfl hl.1 rfl (lv_room (Nat.le_of_ble_eq_true rfl)) dX3_does_77 ⟨Nat.le_refl _, Nat.le_refl _⟩) hA hS (fun r_18 f_15 L_16 Q_17 H locs hq hP hS => ?_)
    obtain ⟨⟨hI, hk_f_15, eL9, eQ9⟩, hq, p_19, u_20⟩ := hq
    rw [eL9, eQ9] at hP; clear eL9 eQ9
    have hF : sgK WkX3_does_0_1_4_f4_f5 f f_15 := sgK.tr hF hk_f_15 (by decide +kernel)
    obtain ⟨v_21, ev_21⟩ : ∃ z : Int32, z = f_15 36 3 := ⟨_, rfl⟩
    have q_22 : 0 ≤ v_21.toInt ∧ v_21.toInt ≤ 19 := by rw [ev_21]; exact hI 36 3
    have q_23 : (f_15 36 3).toInt = v_21.toInt := (congrArg Int32.toInt (show f_15 36 3 = v_21 from ev_21.symm))
    have k_25 : (10 : Int32).toInt = 10 := by decide
    have k_26 : ((-1) : Int32).toInt = (-1) := by decide
    have k_27 : (5 : Int32).toInt = 5 := by decide
    exact hret _ _ _ _ (r_18) f_15 L Q dX3_does_80 hP hS ⟨⟨hI, hF, rfl, rfl⟩, trivial, ⟨by omega, by omega⟩, (Eq.trans (Eq.symm (hs.trans ((spl_e ev_2 (spl_e ev_5 (spl_e ev_9 (spl_e ef_11 (spl2_e u_20 (spl_e ev_21 rfl))))))))) hsp)⟩
  refine lv_iload_n hx hb dX3_does_0 rfl (lv_at hl 1 rfl) ?_
  refine lv_iload_n hx hb dX3_does_1 rfl (lv_at hl 2 rfl) ?_
  refine sg_calli (va_runS (As := [.int 0, .int 1]) (rest := []) ⟨hx, hb, hml, hown, hts⟩ (kX3_ownerOf_0_1 l D ca za h hh f L Q hI H.size) (va_cwS 2 hts (gw_S (fun _ h => List.mem_cons_of_mem _ h) mw_189 mw_190 mw_47 mw_188) rfl rfl rfl hd_yX3_ownerOf.2 ⟨Nat.le_of_ble_eq_true rfl, Nat.le_of_ble_eq_true rfl⟩) (sg_preS hA hK hP hS hZ) rfl rfl hl.1 rfl (lv_room (Nat.le_of_ble_eq_true rfl)) dX3_does_2 ⟨Nat.le_refl _, Nat.le_refl _⟩) hA hS (fun r_33 f_30 L_31 Q_32 H locs hq hP hS => ?_)
  obtain ⟨⟨ef9, eL9, eQ9⟩, hq, u_34⟩ := hq
  rw [ef9, eL9, eQ9] at hP; clear ef9 eL9 eQ9
  obtain rfl : r_33 = 0 := Int32.toInt_inj.mp (by have k9 : (0 : Int32).toInt = 0 := ti_0; omega)
  refine lv_istore (lv' := [(5, .int 0), (0, .ref (h 36)), (1, .int 0), (2, .int 1), (3, .int x2), (4, .int 4)]) hx hb dX3_does_5 hl (by decide) rfl (fun ls hl => ?_)
  refine lv_iload hx hb dX3_does_7 (lv_at hl 0 rfl) ?_
  refine lv_if_lt (tgt := 19) hx hb dX3_does_9 (by decide) (fun c => absurd c (by decide)) (fun c => ?_)
  refine lv_iload hx hb dX3_does_12 (lv_at hl 5 rfl) ?_
  refine lv_bipush (v := 40) hx hb dX3_does_14 bp_40 ?_
  refine lv_icmp_le (tgt := 21) hx hb dX3_does_16 (by decide) (fun c => ?_) (fun c => absurd c (by decide))
  refine sg_gets hx hb hZ 3 rfl hS hown (hts _ (List.mem_cons_of_mem _ mw_173)) (fun _ h9 => h9) dX3_does_21 ?_
  refine lv_iload hx hb dX3_does_24 (lv_at hl 0 rfl) ?_
  refine lv_iconst (v := 4) hx hb dX3_does_26 ic_4 ?_
  refine lv_imul hx hb dX3_does_27 ?_
  refine W.eq (g2 := F0 m 28 ls [.int 0, .ref (za 3)]) (by rw [show (0 * 4 : Int32) = 0 from by decide]) ?_
  refine lv_iload_n hx hb dX3_does_28 rfl (lv_at hl 3 rfl) ?_
  refine lv_iadd hx hb dX3_does_29 ?_
  refine W.eq (g2 := F0 m 30 ls [.int 1, .ref (za 3)]) (by rw [show (0 + 1 : Int32) = 1 from by decide]) ?_
  refine sg_sald hx hb hZ 3 rfl hS (y := 1) (N := 32) (vp_in_iff.mpr (by decide)) dX3_does_30 ?_
  refine W.eq (g2 := F0 m 31 ls [.int 10]) (by rfl) ?_
  refine lv_istore (lv' := [(6, .int 10), (5, .int 0), (0, .ref (h 36)), (1, .int 0), (2, .int 1), (3, .int x2), (4, .int 4)]) hx hb dX3_does_31 hl (by decide) rfl (fun ls hl => ?_)
  refine lv_aload_n hx hb dX3_does_33 rfl (lv_at hl 2 rfl) ?_
  refine sl_gX_36_3_3 (v := 4) hx hb hts hown hK hP (show f 36 3 = 4 from hf_36_3) dX3_does_34 ?_
  refine lv_bipush (v := 24) hx hb dX3_does_37 bp_24 ?_
  refine lv_icmp_ge (tgt := 53) hx hb dX3_does_39 (by decide) (fun c => absurd c (by decide)) (fun c => ?_)
  refine lv_aload_n hx hb dX3_does_42 rfl (lv_at hl 2 rfl) ?_
  refine sl_gX_36_1_3 hx hb hts hown hK hP dX3_does_43 ?_
  refine lv_aload_n hx hb dX3_does_46 rfl (lv_at hl 2 rfl) ?_
  refine sl_gX_36_3_3 (v := 4) hx hb hts hown hK hP (show f 36 3 = 4 from hf_36_3) dX3_does_47 ?_
  refine lv_iload hx hb dX3_does_50 (lv_at hl 0 rfl) ?_
  refine sg_iast hx hb hh hA hK hP hS 38 (by decide) 0 (fun _ => rfl) rfl (i := 4) (x := 10) (vp_in_iff.mpr (by decide)) dX3_does_52 (fun f_35 H locs ef_35 hP hS => ?_)
  have ef_35 : f_35 = sg_up f 38 (sgu (f 38) 4 10) := ef_35
  have hI : sgI loX hiX f_35 := by rw [ef_35]; exact sgI.put hI 38 4 (show 0 ≤ (10 : Int32).toInt ∧ (10 : Int32).toInt ≤ 81 from by decide)
  have hF : sgK WkX3_does_0_1_4_f4_f5 f f_35 := sgK.put hF ef_35 (by rfl)
  exact blk_53 f_35 _ _ _ (hs.trans ((spl_e u_34 (spl_e ef_35 rfl)))) (by have zz36_3 : (f_35 36 3).toInt = 4 := (congrArg Int32.toInt (show f_35 36 3 = 4 from (by rw [ef_35, sg_up_n (by decide)]; exact hf_36_3))).trans (by decide); exact ⟨by omega, by omega⟩) (by have zz36_4 : (f_35 36 4).toInt = 5 := (congrArg Int32.toInt (show f_35 36 4 = 5 from (by rw [ef_35, sg_up_n (by decide)]; exact hf_36_4))).trans (by decide); exact ⟨by omega, by omega⟩) hI hF hP hS (lv_sub hl [2, 5, 6, 1, 0] rfl)

abbrev WkX3_runs_30_0_4_f4_f5 : List (Nat × Nat × Option Nat) := [(36, 36, some 3), (38, 38, some 4), (38, 38, some 5)]
set_option maxHeartbeats 4000000 in
set_option maxRecDepth 100000 in
theorem kX3_runs_30_0_4_f4_f5 (l : Launch) (D : va_G) (ca : Nat → ClassId) (za h : Nat → Nat) (hh : sgH 52 h) (f : sg_F) (L : sg_L) (Q : sg_Q) (hI : sgI loX hiX f) (x2 : Int32) (hf_36_3 : f 36 3 = 4) (hf_36_4 : f 36 4 = 5) (p0 : 4 ≤ (f 36 3).toInt ∧ (f 36 3).toInt ≤ 4) (sz : Nat) : Met l yX3_runs gwX3_runs { frames := 4, cells := 0, slots := 0, locals := 100 } (sgP D vwCl (tyX ca) 52 h (eX ca h) zcX za f L Q sz [.ref (h 36), .int 30, .int 0, .int x2, .int 4]) (sgQi D vwCl 52 h (eX ca h) sz (fun r f1 L1 Q1 => ((sgI loX hiX f1 ∧ sgK WkX3_runs_30_0_4_f4_f5 f f1 ∧ L1 = L ∧ Q1 = Q) ∧ True ∧ (6 ≤ (f1 36 3).toInt ∧ (f1 36 3).toInt ≤ 6) ∧ (r, f1) = sX3_runs_30_0_4_f4_f5 x2 f L))) 0 0 (sgA 52 h sz) := by
  refine sg_ofWi (cc := cX3_runs) (maxL := 5) RX3 (by decide) rfl rfl (Nat.le_of_ble_eq_true rfl) ?_
  intro p e s m below meth cd Qz ls hx hb hml hown hts hK hZ hP hS hl hret
  have hA := sgY.self (n := 52) (h := h) (sz := s.heap.size)
  have hl : lv_has ls 5 [(0, .ref (h 36)), (1, .int 30), (2, .int 0), (3, .int x2), (4, .int 4)] := hl
  obtain ⟨H, hH⟩ : ∃ z : Heap, z = s.heap := ⟨_, rfl⟩
  obtain ⟨locs, hlo⟩ : ∃ z : List Loc, z = [] := ⟨_, rfl⟩
  have hP : va_P D vwCl (sgw 52 h (eX ca h) f L Q) H := by rw [hH]; exact hP
  have hS : va_S (sgA 52 h s.heap.size) s.heap H locs := by rw [hH, hlo]; exact hS
  suffices hgo : W p l e ({ frames := 4, cells := 0, slots := 0, locals := 100 }) s m ([.ref (h 36), .int 30, .int 0, .int x2, .int 4] : List Value).toArray below meth cd H locs 0 0 Qz (F0 m 0 ls []) by rw [hH, hlo] at hgo; exact hgo
  clear hH hlo
  obtain ⟨sp, hsp⟩ : ∃ z : Int32 × sg_F, z = sX3_runs_30_0_4_f4_f5 x2 f L := ⟨_, rfl⟩
  have hs : sp = sX3_runs_30_0_4_f4_f5 x2 f L := hsp
  have o_1 : (f 36 3).toInt = 4 := (congrArg Int32.toInt (show f 36 3 = 4 from hf_36_3)).trans (by decide)
  have hF : sgK WkX3_runs_30_0_4_f4_f5 f f := sgK.rf
  refine lv_iload_n hx hb dX3_runs_0 rfl (lv_at hl 1 rfl) ?_
  refine lv_lookup (x := 30) (off := 182) (tgt := 183) hx hb dX3_runs_1 (by decide) (by decide) (by decide) ?_
  refine lv_aload_n hx hb dX3_runs_183 rfl (lv_at hl 0 rfl) ?_
  refine lv_iload_n hx hb dX3_runs_184 rfl (lv_at hl 2 rfl) ?_
  refine lv_iconst (v := 1) hx hb dX3_runs_185 ic_1 ?_
  refine lv_iload_n hx hb dX3_runs_186 rfl (lv_at hl 3 rfl) ?_
  refine lv_iload hx hb dX3_runs_187 (lv_at hl 4 rfl) ?_
  have q_2 : (f 36 3).toInt = 4 := (congrArg Int32.toInt (show f 36 3 = 4 from hf_36_3)).trans (by decide)
  refine sg_calli (va_runV (As := [.int 0, .int 1, .int x2, .int 4]) (rest := []) ⟨hx, hb, hml, hown, hts⟩ (kX3_does_0_1_4_f4_f5 l D ca za h hh f L Q hI x2 hf_36_3 hf_36_4 (by have k0 : (0 : Int32).toInt = 0 := ti_0; have k1 : (1 : Int32).toInt = 1 := ti_1; have k3 : (4 : Int32).toInt = 4 := ti_4; omega) H.size) (sl_c3_does_3_0_0_74_3 hts ⟨Nat.le_of_ble_eq_true rfl, Nat.le_of_ble_eq_true rfl⟩) (sl_vX_36 hA hK hP hS hZ) rfl rfl hl.1 rfl (lv_room (Nat.le_of_ble_eq_true rfl)) dX3_runs_189 ⟨Nat.le_refl _, Nat.le_refl _⟩) hA hS (fun r_7 f_4 L_5 Q_6 H locs hq hP hS => ?_)
  obtain ⟨⟨hI, hk_f_4, eL9, eQ9⟩, hq, p_8, u_9⟩ := hq
  rw [eL9, eQ9] at hP; clear eL9 eQ9
  have hF : sgK WkX3_runs_30_0_4_f4_f5 f f_4 := sgK.tr hF hk_f_4 (by decide +kernel)
  obtain ⟨v_10, ev_10⟩ : ∃ z : Int32, z = f_4 36 3 := ⟨_, rfl⟩
  have q_11 : 0 ≤ v_10.toInt ∧ v_10.toInt ≤ 19 := by rw [ev_10]; exact hI 36 3
  have q_12 : (f_4 36 3).toInt = v_10.toInt := (congrArg Int32.toInt (show f_4 36 3 = v_10 from ev_10.symm))
  have k_14 : (0 : Int32).toInt = 0 := by decide
  have k_15 : (1 : Int32).toInt = 1 := by decide
  have k_16 : (4 : Int32).toInt = 4 := by decide
  refine lv_ineg hx hb dX3_runs_192 ?_
  refine lv_topi (fun v_17 ev_17 => ?_)
  exact hret _ _ _ _ (v_17) f_4 L Q dX3_runs_193 hP hS ⟨⟨hI, hF, rfl, rfl⟩, trivial, ⟨by omega, by omega⟩, (Eq.trans (Eq.symm (hs.trans ((spl2_e u_9 (spl_e ev_10 (spl_e ev_17 rfl)))))) hsp)⟩

abbrev WkX3_does_2_1_3_f3_f5 : List (Nat × Nat × Option Nat) := [(36, 36, some 3), (38, 38, some 3), (38, 38, some 4), (38, 38, some 5)]
set_option maxHeartbeats 4000000 in
set_option maxRecDepth 100000 in
theorem kX3_does_2_1_3_f3_f5 (l : Launch) (D : va_G) (ca : Nat → ClassId) (za h : Nat → Nat) (hh : sgH 52 h) (f : sg_F) (L : sg_L) (Q : sg_Q) (hI : sgI loX hiX f) (x2 : Int32) (hf_36_3 : f 36 3 = 3) (hf_36_4 : f 36 4 = 5) (p0 : 3 ≤ (f 36 3).toInt ∧ (f 36 3).toInt ≤ 3) (sz : Nat) : Met l yX3_does gwX3_does { frames := 5, cells := 0, slots := 0, locals := 124 } (sgP D vwCl (tyX ca) 52 h (eX ca h) zcX za f L Q sz [.ref (h 36), .int 2, .int 1, .int x2, .int 3]) (sgQi D vwCl 52 h (eX ca h) sz (fun r f1 L1 Q1 => ((sgI loX hiX f1 ∧ sgK WkX3_does_2_1_3_f3_f5 f f1 ∧ L1 = L ∧ Q1 = Q) ∧ True ∧ (6 ≤ (f1 36 3).toInt ∧ (f1 36 3).toInt ≤ 6) ∧ (r, f1) = sX3_does_2_1_3_f3_f5 x2 f L))) 0 0 (sgA 52 h sz) := by
  refine sg_ofWi (cc := cX3_does) (maxL := 7) RX3 (by decide) rfl rfl (Nat.le_of_ble_eq_true rfl) ?_
  intro p e s m below meth cd Qz ls hx hb hml hown hts hK hZ hP hS hl hret
  have hA := sgY.self (n := 52) (h := h) (sz := s.heap.size)
  have hl : lv_has ls 7 [(0, .ref (h 36)), (1, .int 2), (2, .int 1), (3, .int x2), (4, .int 3)] := hl
  obtain ⟨H, hH⟩ : ∃ z : Heap, z = s.heap := ⟨_, rfl⟩
  obtain ⟨locs, hlo⟩ : ∃ z : List Loc, z = [] := ⟨_, rfl⟩
  have hP : va_P D vwCl (sgw 52 h (eX ca h) f L Q) H := by rw [hH]; exact hP
  have hS : va_S (sgA 52 h s.heap.size) s.heap H locs := by rw [hH, hlo]; exact hS
  suffices hgo : W p l e ({ frames := 5, cells := 0, slots := 0, locals := 124 }) s m ([.ref (h 36), .int 2, .int 1, .int x2, .int 3] : List Value).toArray below meth cd H locs 0 0 Qz (F0 m 0 ls []) by rw [hH, hlo] at hgo; exact hgo
  clear hH hlo
  obtain ⟨sp, hsp⟩ : ∃ z : Int32 × sg_F, z = sX3_does_2_1_3_f3_f5 x2 f L := ⟨_, rfl⟩
  have hs : sp = sX3_does_2_1_3_f3_f5 x2 f L := hsp
  have o_1 : (f 36 3).toInt = 3 := (congrArg Int32.toInt (show f 36 3 = 3 from hf_36_3)).trans (by decide)
  have hF : sgK WkX3_does_2_1_3_f3_f5 f f := sgK.rf
  have blk_53 : ∀ (fp_53 : sg_F) (H : Heap) (locs : List Loc) (ls : Array Slot), sp = sX3_does_2_1_3_f3_f5_b53 x2 fp_53 L → 3 ≤ (fp_53 36 3).toInt ∧ (fp_53 36 3).toInt ≤ 3 → 5 ≤ (fp_53 36 4).toInt ∧ (fp_53 36 4).toInt ≤ 5 → sgI loX hiX fp_53 → sgK WkX3_does_2_1_3_f3_f5 f fp_53 → va_P D vwCl (sgw 52 h (eX ca h) fp_53 L Q) H → va_S (sgA 52 h s.heap.size) s.heap H locs → lv_has ls 7 [(0, .ref (h 36)), (3, .int x2), (4, .int 3), (5, .int 2), (6, .int 30)] → W p l e ({ frames := 5, cells := 0, slots := 0, locals := 124 }) s m ([.ref (h 36), .int 2, .int 1, .int x2, .int 3] : List Value).toArray below meth cd H locs 0 0 Qz (F0 m 53 ls []) := by
    intro fp_53 H locs ls hs hy0_53 hy1_53 hI hF hP hS hl
    obtain ⟨v_2, ev_2⟩ : ∃ z : Int32, z = fp_53 36 3 := ⟨_, rfl⟩
    have q_3 : 0 ≤ v_2.toInt ∧ v_2.toInt ≤ 19 := by rw [ev_2]; exact hI 36 3
    have q_4 : (fp_53 36 3).toInt = v_2.toInt := by rw [ev_2]
    obtain ⟨v_5, ev_5⟩ : ∃ z : Int32, z = fp_53 36 4 := ⟨_, rfl⟩
    have q_6 : 0 ≤ v_5.toInt ∧ v_5.toInt ≤ 7 := by rw [ev_5]; exact hI 36 4
    have q_7 : (fp_53 36 4).toInt = v_5.toInt := by rw [ev_5]
    have m_8 : fp_53 36 4 = 5 := (hF 36 4 (by decide)).trans hf_36_4
    refine lv_aload_n hx hb dX3_does_53 rfl (lv_at hl 0 rfl) ?_
    refine lv_dup hx hb dX3_does_54 rfl ?_
    refine sl_gX_36_3_3 (v := v_2) hx hb hts hown hK hP (show fp_53 36 3 = v_2 from ev_2.symm) dX3_does_55 ?_
    refine lv_iconst (v := 1) hx hb dX3_does_58 ic_1 ?_
    refine lv_iadd hx hb dX3_does_59 ?_
    refine lv_topi (fun v_9 ev_9 => ?_)
    have q_10 : v_9.toInt = v_2.toInt + 1 := by rw [ev_9]; first | exact cm_add ti_1 (by omega) (by omega) | (have k1 : (1 : Int32).toInt = 1 := ti_1; exact (bn_addI (by omega) (by omega)).trans (by omega))
    refine sl_pX_36_3_3 (x := v_9) hx hb hts hown hh hA hK hP hS dX3_does_60 (fun f_11 H locs ef_11 hP hS => ?_)
    have hI : sgI loX hiX f_11 := by rw [ef_11]; exact sgI.put hI 36 3 (show 0 ≤ (v_9 : Int32).toInt ∧ (v_9 : Int32).toInt ≤ 19 from ⟨by omega, by omega⟩)
    have hF : sgK WkX3_does_2_1_3_f3_f5 f f_11 := sgK.put hF ef_11 (by rfl)
    refine lv_aload_n hx hb dX3_does_63 rfl (lv_at hl 0 rfl) ?_
    refine lv_iload hx hb dX3_does_64 (lv_at hl 4 rfl) ?_
    refine sg_gets hx hb hZ 2 rfl hS hown (hts _ (List.mem_cons_of_mem _ mw_174)) (fun _ h9 => h9) dX3_does_66 ?_
    refine lv_iload hx hb dX3_does_69 (lv_at hl 3 rfl) ?_
    refine sg_sald hx hb hZ 2 rfl hS (y := 2) (N := 8) (vp_in_iff.mpr (by decide)) dX3_does_71 ?_
    refine W.eq (g2 := F0 m 72 ls [.int 0, .int 30, .ref (h 36)]) (by rfl) ?_
    refine lv_iload_n hx hb dX3_does_72 rfl (lv_at hl 1 rfl) ?_
    refine lv_iload hx hb dX3_does_73 (lv_at hl 2 rfl) ?_
    refine lv_iconst (v := 1) hx hb dX3_does_75 ic_1 ?_
    refine lv_iadd hx hb dX3_does_76 ?_
    refine W.eq (g2 := F0 m 77 ls [.int 4, .int x2, .int 0, .int 30, .ref (h 36)]) (by rw [show (3 + 1 : Int32) = 4 from by decide]) ?_
    have c_12 : v_9 = 4 := Int32.toInt_inj.mp (by have k9 : (4 : Int32).toInt = 4 := ti_4; omega)
    have q_13 : (f_11 36 3).toInt = 4 := (congrArg Int32.toInt (show f_11 36 3 = 4 from (Eq.trans (by rw [ef_11, sg_up_s, sgu_s]) c_12))).trans (by decide)
    refine sg_calli (va_runV (As := [.int 30, .int 0, .int x2, .int 4]) (rest := []) ⟨hx, hb, hml, hown, hts⟩ (kX3_runs_30_0_4_f4_f5 l D ca za h hh f_11 L Q hI x2 (Eq.trans (by rw [ef_11, sg_up_s, sgu_s]) c_12) (by rw [ef_11, sg_up_s, sgu_n (by decide)]; exact m_8) (by have k0 : (30 : Int32).toInt = 30 := ti_30; have k1 : (0 : Int32).toInt = 0 := ti_0; have k3 : (4 : Int32).toInt = 4 := ti_4; omega) H.size) (sl_c3_runs_4_0_0_100_3 hts ⟨Nat.le_of_ble_eq_true rfl, Nat.le_of_ble_eq_true rfl⟩) (sl_vX_36 hA hK hP hS hZ) rfl rfl hl.1 rfl (lv_room (Nat.le_of_ble_eq_true rfl)) dX3_does_77 ⟨Nat.le_refl _, Nat.le_refl _⟩) hA hS (fun r_18 f_15 L_16 Q_17 H locs hq hP hS => ?_)
    obtain ⟨⟨hI, hk_f_15, eL9, eQ9⟩, hq, p_19, u_20⟩ := hq
    rw [eL9, eQ9] at hP; clear eL9 eQ9
    have hF : sgK WkX3_does_2_1_3_f3_f5 f f_15 := sgK.tr hF hk_f_15 (by decide +kernel)
    obtain ⟨v_21, ev_21⟩ : ∃ z : Int32, z = f_15 36 3 := ⟨_, rfl⟩
    have q_22 : 0 ≤ v_21.toInt ∧ v_21.toInt ≤ 19 := by rw [ev_21]; exact hI 36 3
    have q_23 : (f_15 36 3).toInt = v_21.toInt := (congrArg Int32.toInt (show f_15 36 3 = v_21 from ev_21.symm))
    have k_25 : (30 : Int32).toInt = 30 := by decide
    have k_26 : (0 : Int32).toInt = 0 := by decide
    have k_27 : (4 : Int32).toInt = 4 := by decide
    exact hret _ _ _ _ (r_18) f_15 L Q dX3_does_80 hP hS ⟨⟨hI, hF, rfl, rfl⟩, trivial, ⟨by omega, by omega⟩, (Eq.trans (Eq.symm (hs.trans ((spl_e ev_2 (spl_e ev_5 (spl_e ev_9 (spl_e ef_11 (spl2_e u_20 (spl_e ev_21 rfl))))))))) hsp)⟩
  refine lv_iload_n hx hb dX3_does_0 rfl (lv_at hl 1 rfl) ?_
  refine lv_iload_n hx hb dX3_does_1 rfl (lv_at hl 2 rfl) ?_
  refine sg_calli (va_runS (As := [.int 2, .int 1]) (rest := []) ⟨hx, hb, hml, hown, hts⟩ (kX3_ownerOf_2_1 l D ca za h hh f L Q hI H.size) (va_cwS 2 hts (gw_S (fun _ h => List.mem_cons_of_mem _ h) mw_189 mw_190 mw_47 mw_188) rfl rfl rfl hd_yX3_ownerOf.2 ⟨Nat.le_of_ble_eq_true rfl, Nat.le_of_ble_eq_true rfl⟩) (sg_preS hA hK hP hS hZ) rfl rfl hl.1 rfl (lv_room (Nat.le_of_ble_eq_true rfl)) dX3_does_2 ⟨Nat.le_refl _, Nat.le_refl _⟩) hA hS (fun r_33 f_30 L_31 Q_32 H locs hq hP hS => ?_)
  obtain ⟨⟨ef9, eL9, eQ9⟩, hq, u_34⟩ := hq
  rw [ef9, eL9, eQ9] at hP; clear ef9 eL9 eQ9
  obtain rfl : r_33 = 2 := Int32.toInt_inj.mp (by have k9 : (2 : Int32).toInt = 2 := ti_2; omega)
  refine lv_istore (lv' := [(5, .int 2), (0, .ref (h 36)), (1, .int 2), (2, .int 1), (3, .int x2), (4, .int 3)]) hx hb dX3_does_5 hl (by decide) rfl (fun ls hl => ?_)
  refine lv_iload hx hb dX3_does_7 (lv_at hl 0 rfl) ?_
  refine lv_if_lt (tgt := 19) hx hb dX3_does_9 (by decide) (fun c => absurd c (by decide)) (fun c => ?_)
  refine lv_iload hx hb dX3_does_12 (lv_at hl 5 rfl) ?_
  refine lv_bipush (v := 40) hx hb dX3_does_14 bp_40 ?_
  refine lv_icmp_le (tgt := 21) hx hb dX3_does_16 (by decide) (fun c => ?_) (fun c => absurd c (by decide))
  refine sg_gets hx hb hZ 3 rfl hS hown (hts _ (List.mem_cons_of_mem _ mw_173)) (fun _ h9 => h9) dX3_does_21 ?_
  refine lv_iload hx hb dX3_does_24 (lv_at hl 0 rfl) ?_
  refine lv_iconst (v := 4) hx hb dX3_does_26 ic_4 ?_
  refine lv_imul hx hb dX3_does_27 ?_
  refine W.eq (g2 := F0 m 28 ls [.int 8, .ref (za 3)]) (by rw [show (2 * 4 : Int32) = 8 from by decide]) ?_
  refine lv_iload_n hx hb dX3_does_28 rfl (lv_at hl 3 rfl) ?_
  refine lv_iadd hx hb dX3_does_29 ?_
  refine W.eq (g2 := F0 m 30 ls [.int 9, .ref (za 3)]) (by rw [show (8 + 1 : Int32) = 9 from by decide]) ?_
  refine sg_sald hx hb hZ 3 rfl hS (y := 9) (N := 32) (vp_in_iff.mpr (by decide)) dX3_does_30 ?_
  refine W.eq (g2 := F0 m 31 ls [.int 30]) (by rfl) ?_
  refine lv_istore (lv' := [(6, .int 30), (5, .int 2), (0, .ref (h 36)), (1, .int 2), (2, .int 1), (3, .int x2), (4, .int 3)]) hx hb dX3_does_31 hl (by decide) rfl (fun ls hl => ?_)
  refine lv_aload_n hx hb dX3_does_33 rfl (lv_at hl 2 rfl) ?_
  refine sl_gX_36_3_3 (v := 3) hx hb hts hown hK hP (show f 36 3 = 3 from hf_36_3) dX3_does_34 ?_
  refine lv_bipush (v := 24) hx hb dX3_does_37 bp_24 ?_
  refine lv_icmp_ge (tgt := 53) hx hb dX3_does_39 (by decide) (fun c => absurd c (by decide)) (fun c => ?_)
  refine lv_aload_n hx hb dX3_does_42 rfl (lv_at hl 2 rfl) ?_
  refine sl_gX_36_1_3 hx hb hts hown hK hP dX3_does_43 ?_
  refine lv_aload_n hx hb dX3_does_46 rfl (lv_at hl 2 rfl) ?_
  refine sl_gX_36_3_3 (v := 3) hx hb hts hown hK hP (show f 36 3 = 3 from hf_36_3) dX3_does_47 ?_
  refine lv_iload hx hb dX3_does_50 (lv_at hl 0 rfl) ?_
  refine sg_iast hx hb hh hA hK hP hS 38 (by decide) 0 (fun _ => rfl) rfl (i := 3) (x := 30) (vp_in_iff.mpr (by decide)) dX3_does_52 (fun f_35 H locs ef_35 hP hS => ?_)
  have ef_35 : f_35 = sg_up f 38 (sgu (f 38) 3 30) := ef_35
  have hI : sgI loX hiX f_35 := by rw [ef_35]; exact sgI.put hI 38 3 (show 0 ≤ (30 : Int32).toInt ∧ (30 : Int32).toInt ≤ 81 from by decide)
  have hF : sgK WkX3_does_2_1_3_f3_f5 f f_35 := sgK.put hF ef_35 (by rfl)
  exact blk_53 f_35 _ _ _ (hs.trans ((spl_e u_34 (spl_e ef_35 rfl)))) (by have zz36_3 : (f_35 36 3).toInt = 3 := (congrArg Int32.toInt (show f_35 36 3 = 3 from (by rw [ef_35, sg_up_n (by decide)]; exact hf_36_3))).trans (by decide); exact ⟨by omega, by omega⟩) (by have zz36_4 : (f_35 36 4).toInt = 5 := (congrArg Int32.toInt (show f_35 36 4 = 5 from (by rw [ef_35, sg_up_n (by decide)]; exact hf_36_4))).trans (by decide); exact ⟨by omega, by omega⟩) hI hF hP hS (lv_sub hl [2, 5, 6, 1, 0] rfl)

abbrev WkX3_runs_41_2_3_f3_f5 : List (Nat × Nat × Option Nat) := [(36, 36, some 3), (38, 38, some 3), (38, 38, some 4), (38, 38, some 5)]
set_option maxHeartbeats 4000000 in
set_option maxRecDepth 100000 in
theorem kX3_runs_41_2_3_f3_f5 (l : Launch) (D : va_G) (ca : Nat → ClassId) (za h : Nat → Nat) (hh : sgH 52 h) (f : sg_F) (L : sg_L) (Q : sg_Q) (hI : sgI loX hiX f) (x2 : Int32) (hf_36_3 : f 36 3 = 3) (hf_36_4 : f 36 4 = 5) (p0 : 3 ≤ (f 36 3).toInt ∧ (f 36 3).toInt ≤ 3) (sz : Nat) : Met l yX3_runs gwX3_runs { frames := 6, cells := 0, slots := 0, locals := 150 } (sgP D vwCl (tyX ca) 52 h (eX ca h) zcX za f L Q sz [.ref (h 36), .int 41, .int 2, .int x2, .int 3]) (sgQi D vwCl 52 h (eX ca h) sz (fun r f1 L1 Q1 => ((sgI loX hiX f1 ∧ sgK WkX3_runs_41_2_3_f3_f5 f f1 ∧ L1 = L ∧ Q1 = Q) ∧ True ∧ (6 ≤ (f1 36 3).toInt ∧ (f1 36 3).toInt ≤ 6) ∧ (r, f1) = sX3_runs_41_2_3_f3_f5 x2 f L))) 0 0 (sgA 52 h sz) := by
  refine sg_ofWi (cc := cX3_runs) (maxL := 5) RX3 (by decide) rfl rfl (Nat.le_of_ble_eq_true rfl) ?_
  intro p e s m below meth cd Qz ls hx hb hml hown hts hK hZ hP hS hl hret
  have hA := sgY.self (n := 52) (h := h) (sz := s.heap.size)
  have hl : lv_has ls 5 [(0, .ref (h 36)), (1, .int 41), (2, .int 2), (3, .int x2), (4, .int 3)] := hl
  obtain ⟨H, hH⟩ : ∃ z : Heap, z = s.heap := ⟨_, rfl⟩
  obtain ⟨locs, hlo⟩ : ∃ z : List Loc, z = [] := ⟨_, rfl⟩
  have hP : va_P D vwCl (sgw 52 h (eX ca h) f L Q) H := by rw [hH]; exact hP
  have hS : va_S (sgA 52 h s.heap.size) s.heap H locs := by rw [hH, hlo]; exact hS
  suffices hgo : W p l e ({ frames := 6, cells := 0, slots := 0, locals := 150 }) s m ([.ref (h 36), .int 41, .int 2, .int x2, .int 3] : List Value).toArray below meth cd H locs 0 0 Qz (F0 m 0 ls []) by rw [hH, hlo] at hgo; exact hgo
  clear hH hlo
  obtain ⟨sp, hsp⟩ : ∃ z : Int32 × sg_F, z = sX3_runs_41_2_3_f3_f5 x2 f L := ⟨_, rfl⟩
  have hs : sp = sX3_runs_41_2_3_f3_f5 x2 f L := hsp
  have o_1 : (f 36 3).toInt = 3 := (congrArg Int32.toInt (show f 36 3 = 3 from hf_36_3)).trans (by decide)
  have hF : sgK WkX3_runs_41_2_3_f3_f5 f f := sgK.rf
  refine lv_iload_n hx hb dX3_runs_0 rfl (lv_at hl 1 rfl) ?_
  refine lv_lookup (x := 41) (off := 205) (tgt := 206) hx hb dX3_runs_1 (by decide) (by decide) (by decide) ?_
  refine lv_aload_n hx hb dX3_runs_206 rfl (lv_at hl 0 rfl) ?_
  refine lv_iload_n hx hb dX3_runs_207 rfl (lv_at hl 2 rfl) ?_
  refine lv_iconst (v := 1) hx hb dX3_runs_208 ic_1 ?_
  refine lv_iload_n hx hb dX3_runs_209 rfl (lv_at hl 3 rfl) ?_
  refine lv_iconst (v := 1) hx hb dX3_runs_210 ic_1 ?_
  refine lv_iadd hx hb dX3_runs_211 ?_
  refine lv_topi (fun v_2 ev_2 => ?_)
  refine lv_iload hx hb dX3_runs_212 (lv_at hl 4 rfl) ?_
  have q_3 : (f 36 3).toInt = 3 := (congrArg Int32.toInt (show f 36 3 = 3 from hf_36_3)).trans (by decide)
  refine sg_calli (va_runV (As := [.int 2, .int 1, .int v_2, .int 3]) (rest := []) ⟨hx, hb, hml, hown, hts⟩ (kX3_does_2_1_3_f3_f5 l D ca za h hh f L Q hI v_2 hf_36_3 hf_36_4 (by have k0 : (2 : Int32).toInt = 2 := ti_2; have k1 : (1 : Int32).toInt = 1 := ti_1; have k3 : (3 : Int32).toInt = 3 := ti_3; omega) H.size) (sl_c3_does_5_0_0_124_3 hts ⟨Nat.le_of_ble_eq_true rfl, Nat.le_of_ble_eq_true rfl⟩) (sl_vX_36 hA hK hP hS hZ) rfl rfl hl.1 rfl (lv_room (Nat.le_of_ble_eq_true rfl)) dX3_runs_214 ⟨Nat.le_refl _, Nat.le_refl _⟩) hA hS (fun r_8 f_5 L_6 Q_7 H locs hq hP hS => ?_)
  obtain ⟨⟨hI, hk_f_5, eL9, eQ9⟩, hq, p_9, u_10⟩ := hq
  rw [eL9, eQ9] at hP; clear eL9 eQ9
  have hF : sgK WkX3_runs_41_2_3_f3_f5 f f_5 := sgK.tr hF hk_f_5 (by decide +kernel)
  obtain ⟨v_11, ev_11⟩ : ∃ z : Int32, z = f_5 36 3 := ⟨_, rfl⟩
  have q_12 : 0 ≤ v_11.toInt ∧ v_11.toInt ≤ 19 := by rw [ev_11]; exact hI 36 3
  have q_13 : (f_5 36 3).toInt = v_11.toInt := (congrArg Int32.toInt (show f_5 36 3 = v_11 from ev_11.symm))
  have k_15 : (2 : Int32).toInt = 2 := by decide
  have k_16 : (1 : Int32).toInt = 1 := by decide
  have k_17 : (3 : Int32).toInt = 3 := by decide
  exact hret _ _ _ _ (r_8) f_5 L Q dX3_runs_217 hP hS ⟨⟨hI, hF, rfl, rfl⟩, trivial, ⟨by omega, by omega⟩, (Eq.trans (Eq.symm (hs.trans ((spl_e ev_2 (spl2_e u_10 (spl_e ev_11 rfl)))))) hsp)⟩

abbrev WkX3_does_5_1_2_f2_f5 : List (Nat × Nat × Option Nat) := [(36, 36, some 3), (38, 38, some 2), (38, 38, some 3), (38, 38, some 4), (38, 38, some 5)]
set_option maxHeartbeats 4000000 in
set_option maxRecDepth 100000 in
theorem kX3_does_5_1_2_f2_f5 (l : Launch) (D : va_G) (ca : Nat → ClassId) (za h : Nat → Nat) (hh : sgH 52 h) (f : sg_F) (L : sg_L) (Q : sg_Q) (hI : sgI loX hiX f) (x2 : Int32) (hf_36_3 : f 36 3 = 2) (hf_36_4 : f 36 4 = 5) (p0 : 2 ≤ (f 36 3).toInt ∧ (f 36 3).toInt ≤ 2) (sz : Nat) : Met l yX3_does gwX3_does { frames := 7, cells := 0, slots := 0, locals := 174 } (sgP D vwCl (tyX ca) 52 h (eX ca h) zcX za f L Q sz [.ref (h 36), .int 5, .int 1, .int x2, .int 2]) (sgQi D vwCl 52 h (eX ca h) sz (fun r f1 L1 Q1 => ((sgI loX hiX f1 ∧ sgK WkX3_does_5_1_2_f2_f5 f f1 ∧ L1 = L ∧ Q1 = Q) ∧ True ∧ (6 ≤ (f1 36 3).toInt ∧ (f1 36 3).toInt ≤ 6) ∧ (r, f1) = sX3_does_5_1_2_f2_f5 x2 f L))) 0 0 (sgA 52 h sz) := by
  refine sg_ofWi (cc := cX3_does) (maxL := 7) RX3 (by decide) rfl rfl (Nat.le_of_ble_eq_true rfl) ?_
  intro p e s m below meth cd Qz ls hx hb hml hown hts hK hZ hP hS hl hret
  have hA := sgY.self (n := 52) (h := h) (sz := s.heap.size)
  have hl : lv_has ls 7 [(0, .ref (h 36)), (1, .int 5), (2, .int 1), (3, .int x2), (4, .int 2)] := hl
  obtain ⟨H, hH⟩ : ∃ z : Heap, z = s.heap := ⟨_, rfl⟩
  obtain ⟨locs, hlo⟩ : ∃ z : List Loc, z = [] := ⟨_, rfl⟩
  have hP : va_P D vwCl (sgw 52 h (eX ca h) f L Q) H := by rw [hH]; exact hP
  have hS : va_S (sgA 52 h s.heap.size) s.heap H locs := by rw [hH, hlo]; exact hS
  suffices hgo : W p l e ({ frames := 7, cells := 0, slots := 0, locals := 174 }) s m ([.ref (h 36), .int 5, .int 1, .int x2, .int 2] : List Value).toArray below meth cd H locs 0 0 Qz (F0 m 0 ls []) by rw [hH, hlo] at hgo; exact hgo
  clear hH hlo
  obtain ⟨sp, hsp⟩ : ∃ z : Int32 × sg_F, z = sX3_does_5_1_2_f2_f5 x2 f L := ⟨_, rfl⟩
  have hs : sp = sX3_does_5_1_2_f2_f5 x2 f L := hsp
  have o_1 : (f 36 3).toInt = 2 := (congrArg Int32.toInt (show f 36 3 = 2 from hf_36_3)).trans (by decide)
  have hF : sgK WkX3_does_5_1_2_f2_f5 f f := sgK.rf
  have blk_53 : ∀ (fp_53 : sg_F) (H : Heap) (locs : List Loc) (ls : Array Slot), sp = sX3_does_5_1_2_f2_f5_b53 x2 fp_53 L → 2 ≤ (fp_53 36 3).toInt ∧ (fp_53 36 3).toInt ≤ 2 → 5 ≤ (fp_53 36 4).toInt ∧ (fp_53 36 4).toInt ≤ 5 → sgI loX hiX fp_53 → sgK WkX3_does_5_1_2_f2_f5 f fp_53 → va_P D vwCl (sgw 52 h (eX ca h) fp_53 L Q) H → va_S (sgA 52 h s.heap.size) s.heap H locs → lv_has ls 7 [(0, .ref (h 36)), (3, .int x2), (4, .int 2), (5, .int 3), (6, .int 41)] → W p l e ({ frames := 7, cells := 0, slots := 0, locals := 174 }) s m ([.ref (h 36), .int 5, .int 1, .int x2, .int 2] : List Value).toArray below meth cd H locs 0 0 Qz (F0 m 53 ls []) := by
    intro fp_53 H locs ls hs hy0_53 hy1_53 hI hF hP hS hl
    obtain ⟨v_2, ev_2⟩ : ∃ z : Int32, z = fp_53 36 3 := ⟨_, rfl⟩
    have q_3 : 0 ≤ v_2.toInt ∧ v_2.toInt ≤ 19 := by rw [ev_2]; exact hI 36 3
    have q_4 : (fp_53 36 3).toInt = v_2.toInt := by rw [ev_2]
    obtain ⟨v_5, ev_5⟩ : ∃ z : Int32, z = fp_53 36 4 := ⟨_, rfl⟩
    have q_6 : 0 ≤ v_5.toInt ∧ v_5.toInt ≤ 7 := by rw [ev_5]; exact hI 36 4
    have q_7 : (fp_53 36 4).toInt = v_5.toInt := by rw [ev_5]
    have m_8 : fp_53 36 4 = 5 := (hF 36 4 (by decide)).trans hf_36_4
    refine lv_aload_n hx hb dX3_does_53 rfl (lv_at hl 0 rfl) ?_
    refine lv_dup hx hb dX3_does_54 rfl ?_
    refine sl_gX_36_3_3 (v := v_2) hx hb hts hown hK hP (show fp_53 36 3 = v_2 from ev_2.symm) dX3_does_55 ?_
    refine lv_iconst (v := 1) hx hb dX3_does_58 ic_1 ?_
    refine lv_iadd hx hb dX3_does_59 ?_
    refine lv_topi (fun v_9 ev_9 => ?_)
    have q_10 : v_9.toInt = v_2.toInt + 1 := by rw [ev_9]; first | exact cm_add ti_1 (by omega) (by omega) | (have k1 : (1 : Int32).toInt = 1 := ti_1; exact (bn_addI (by omega) (by omega)).trans (by omega))
    refine sl_pX_36_3_3 (x := v_9) hx hb hts hown hh hA hK hP hS dX3_does_60 (fun f_11 H locs ef_11 hP hS => ?_)
    have hI : sgI loX hiX f_11 := by rw [ef_11]; exact sgI.put hI 36 3 (show 0 ≤ (v_9 : Int32).toInt ∧ (v_9 : Int32).toInt ≤ 19 from ⟨by omega, by omega⟩)
    have hF : sgK WkX3_does_5_1_2_f2_f5 f f_11 := sgK.put hF ef_11 (by rfl)
    refine lv_aload_n hx hb dX3_does_63 rfl (lv_at hl 0 rfl) ?_
    refine lv_iload hx hb dX3_does_64 (lv_at hl 4 rfl) ?_
    refine sg_gets hx hb hZ 2 rfl hS hown (hts _ (List.mem_cons_of_mem _ mw_174)) (fun _ h9 => h9) dX3_does_66 ?_
    refine lv_iload hx hb dX3_does_69 (lv_at hl 3 rfl) ?_
    refine sg_sald hx hb hZ 2 rfl hS (y := 3) (N := 8) (vp_in_iff.mpr (by decide)) dX3_does_71 ?_
    refine W.eq (g2 := F0 m 72 ls [.int 2, .int 41, .ref (h 36)]) (by rfl) ?_
    refine lv_iload_n hx hb dX3_does_72 rfl (lv_at hl 1 rfl) ?_
    refine lv_iload hx hb dX3_does_73 (lv_at hl 2 rfl) ?_
    refine lv_iconst (v := 1) hx hb dX3_does_75 ic_1 ?_
    refine lv_iadd hx hb dX3_does_76 ?_
    refine W.eq (g2 := F0 m 77 ls [.int 3, .int x2, .int 2, .int 41, .ref (h 36)]) (by rw [show (2 + 1 : Int32) = 3 from by decide]) ?_
    have c_12 : v_9 = 3 := Int32.toInt_inj.mp (by have k9 : (3 : Int32).toInt = 3 := ti_3; omega)
    have q_13 : (f_11 36 3).toInt = 3 := (congrArg Int32.toInt (show f_11 36 3 = 3 from (Eq.trans (by rw [ef_11, sg_up_s, sgu_s]) c_12))).trans (by decide)
    refine sg_calli (va_runV (As := [.int 41, .int 2, .int x2, .int 3]) (rest := []) ⟨hx, hb, hml, hown, hts⟩ (kX3_runs_41_2_3_f3_f5 l D ca za h hh f_11 L Q hI x2 (Eq.trans (by rw [ef_11, sg_up_s, sgu_s]) c_12) (by rw [ef_11, sg_up_s, sgu_n (by decide)]; exact m_8) (by have k0 : (41 : Int32).toInt = 41 := ti_41; have k1 : (2 : Int32).toInt = 2 := ti_2; have k3 : (3 : Int32).toInt = 3 := ti_3; omega) H.size) (sl_c3_runs_6_0_0_150_3 hts ⟨Nat.le_of_ble_eq_true rfl, Nat.le_of_ble_eq_true rfl⟩) (sl_vX_36 hA hK hP hS hZ) rfl rfl hl.1 rfl (lv_room (Nat.le_of_ble_eq_true rfl)) dX3_does_77 ⟨Nat.le_refl _, Nat.le_refl _⟩) hA hS (fun r_18 f_15 L_16 Q_17 H locs hq hP hS => ?_)
    obtain ⟨⟨hI, hk_f_15, eL9, eQ9⟩, hq, p_19, u_20⟩ := hq
    rw [eL9, eQ9] at hP; clear eL9 eQ9
    have hF : sgK WkX3_does_5_1_2_f2_f5 f f_15 := sgK.tr hF hk_f_15 (by decide +kernel)
    obtain ⟨v_21, ev_21⟩ : ∃ z : Int32, z = f_15 36 3 := ⟨_, rfl⟩
    have q_22 : 0 ≤ v_21.toInt ∧ v_21.toInt ≤ 19 := by rw [ev_21]; exact hI 36 3
    have q_23 : (f_15 36 3).toInt = v_21.toInt := (congrArg Int32.toInt (show f_15 36 3 = v_21 from ev_21.symm))
    have k_25 : (41 : Int32).toInt = 41 := by decide
    have k_26 : (2 : Int32).toInt = 2 := by decide
    have k_27 : (3 : Int32).toInt = 3 := by decide
    exact hret _ _ _ _ (r_18) f_15 L Q dX3_does_80 hP hS ⟨⟨hI, hF, rfl, rfl⟩, trivial, ⟨by omega, by omega⟩, (Eq.trans (Eq.symm (hs.trans ((spl_e ev_2 (spl_e ev_5 (spl_e ev_9 (spl_e ef_11 (spl2_e u_20 (spl_e ev_21 rfl))))))))) hsp)⟩
  refine lv_iload_n hx hb dX3_does_0 rfl (lv_at hl 1 rfl) ?_
  refine lv_iload_n hx hb dX3_does_1 rfl (lv_at hl 2 rfl) ?_
  refine sg_calli (va_runS (As := [.int 5, .int 1]) (rest := []) ⟨hx, hb, hml, hown, hts⟩ (kX3_ownerOf_5_1 l D ca za h hh f L Q hI H.size) (va_cwS 2 hts (gw_S (fun _ h => List.mem_cons_of_mem _ h) mw_189 mw_190 mw_47 mw_188) rfl rfl rfl hd_yX3_ownerOf.2 ⟨Nat.le_of_ble_eq_true rfl, Nat.le_of_ble_eq_true rfl⟩) (sg_preS hA hK hP hS hZ) rfl rfl hl.1 rfl (lv_room (Nat.le_of_ble_eq_true rfl)) dX3_does_2 ⟨Nat.le_refl _, Nat.le_refl _⟩) hA hS (fun r_33 f_30 L_31 Q_32 H locs hq hP hS => ?_)
  obtain ⟨⟨ef9, eL9, eQ9⟩, hq, u_34⟩ := hq
  rw [ef9, eL9, eQ9] at hP; clear ef9 eL9 eQ9
  obtain rfl : r_33 = 3 := Int32.toInt_inj.mp (by have k9 : (3 : Int32).toInt = 3 := ti_3; omega)
  refine lv_istore (lv' := [(5, .int 3), (0, .ref (h 36)), (1, .int 5), (2, .int 1), (3, .int x2), (4, .int 2)]) hx hb dX3_does_5 hl (by decide) rfl (fun ls hl => ?_)
  refine lv_iload hx hb dX3_does_7 (lv_at hl 0 rfl) ?_
  refine lv_if_lt (tgt := 19) hx hb dX3_does_9 (by decide) (fun c => absurd c (by decide)) (fun c => ?_)
  refine lv_iload hx hb dX3_does_12 (lv_at hl 5 rfl) ?_
  refine lv_bipush (v := 40) hx hb dX3_does_14 bp_40 ?_
  refine lv_icmp_le (tgt := 21) hx hb dX3_does_16 (by decide) (fun c => ?_) (fun c => absurd c (by decide))
  refine sg_gets hx hb hZ 3 rfl hS hown (hts _ (List.mem_cons_of_mem _ mw_173)) (fun _ h9 => h9) dX3_does_21 ?_
  refine lv_iload hx hb dX3_does_24 (lv_at hl 0 rfl) ?_
  refine lv_iconst (v := 4) hx hb dX3_does_26 ic_4 ?_
  refine lv_imul hx hb dX3_does_27 ?_
  refine W.eq (g2 := F0 m 28 ls [.int 12, .ref (za 3)]) (by rw [show (3 * 4 : Int32) = 12 from by decide]) ?_
  refine lv_iload_n hx hb dX3_does_28 rfl (lv_at hl 3 rfl) ?_
  refine lv_iadd hx hb dX3_does_29 ?_
  refine W.eq (g2 := F0 m 30 ls [.int 13, .ref (za 3)]) (by rw [show (12 + 1 : Int32) = 13 from by decide]) ?_
  refine sg_sald hx hb hZ 3 rfl hS (y := 13) (N := 32) (vp_in_iff.mpr (by decide)) dX3_does_30 ?_
  refine W.eq (g2 := F0 m 31 ls [.int 41]) (by rfl) ?_
  refine lv_istore (lv' := [(6, .int 41), (5, .int 3), (0, .ref (h 36)), (1, .int 5), (2, .int 1), (3, .int x2), (4, .int 2)]) hx hb dX3_does_31 hl (by decide) rfl (fun ls hl => ?_)
  refine lv_aload_n hx hb dX3_does_33 rfl (lv_at hl 2 rfl) ?_
  refine sl_gX_36_3_3 (v := 2) hx hb hts hown hK hP (show f 36 3 = 2 from hf_36_3) dX3_does_34 ?_
  refine lv_bipush (v := 24) hx hb dX3_does_37 bp_24 ?_
  refine lv_icmp_ge (tgt := 53) hx hb dX3_does_39 (by decide) (fun c => absurd c (by decide)) (fun c => ?_)
  refine lv_aload_n hx hb dX3_does_42 rfl (lv_at hl 2 rfl) ?_
  refine sl_gX_36_1_3 hx hb hts hown hK hP dX3_does_43 ?_
  refine lv_aload_n hx hb dX3_does_46 rfl (lv_at hl 2 rfl) ?_
  refine sl_gX_36_3_3 (v := 2) hx hb hts hown hK hP (show f 36 3 = 2 from hf_36_3) dX3_does_47 ?_
  refine lv_iload hx hb dX3_does_50 (lv_at hl 0 rfl) ?_
  refine sg_iast hx hb hh hA hK hP hS 38 (by decide) 0 (fun _ => rfl) rfl (i := 2) (x := 41) (vp_in_iff.mpr (by decide)) dX3_does_52 (fun f_35 H locs ef_35 hP hS => ?_)
  have ef_35 : f_35 = sg_up f 38 (sgu (f 38) 2 41) := ef_35
  have hI : sgI loX hiX f_35 := by rw [ef_35]; exact sgI.put hI 38 2 (show 0 ≤ (41 : Int32).toInt ∧ (41 : Int32).toInt ≤ 81 from by decide)
  have hF : sgK WkX3_does_5_1_2_f2_f5 f f_35 := sgK.put hF ef_35 (by rfl)
  exact blk_53 f_35 _ _ _ (hs.trans ((spl_e u_34 (spl_e ef_35 rfl)))) (by have zz36_3 : (f_35 36 3).toInt = 2 := (congrArg Int32.toInt (show f_35 36 3 = 2 from (by rw [ef_35, sg_up_n (by decide)]; exact hf_36_3))).trans (by decide); exact ⟨by omega, by omega⟩) (by have zz36_4 : (f_35 36 4).toInt = 5 := (congrArg Int32.toInt (show f_35 36 4 = 5 from (by rw [ef_35, sg_up_n (by decide)]; exact hf_36_4))).trans (by decide); exact ⟨by omega, by omega⟩) hI hF hP hS (lv_sub hl [2, 5, 6, 1, 0] rfl)

set_option maxHeartbeats 4000000 in
set_option maxRecDepth 100000 in
theorem kX3_runs_11_m1_4_f8_f5 (l : Launch) (D : va_G) (ca : Nat → ClassId) (za h : Nat → Nat) (hh : sgH 52 h) (f : sg_F) (L : sg_L) (Q : sg_Q) (hI : sgI loX hiX f) (x2 : Int32) (hf_36_3 : f 36 3 = 8) (hf_36_4 : f 36 4 = 5) (b2 : 1 ≤ x2.toInt ∧ x2.toInt ≤ 1) (p0 : 8 ≤ (f 36 3).toInt ∧ (f 36 3).toInt ≤ 8) (sz : Nat) : Met l yX3_runs gwX3_runs { frames := 0, cells := 0, slots := 0, locals := 0 } (sgP D vwCl (tyX ca) 52 h (eX ca h) zcX za f L Q sz [.ref (h 36), .int 11, .int (-1), .int x2, .int 4]) (sgQi D vwCl 52 h (eX ca h) sz (fun r f1 L1 Q1 => ((f1 = f ∧ L1 = L ∧ Q1 = Q) ∧ True ∧ (8 ≤ (f1 36 3).toInt ∧ (f1 36 3).toInt ≤ 8) ∧ (r) = sX3_runs_11_m1_4_f8_f5 x2 f L))) 0 0 (sgA 52 h sz) := by
  refine sg_ofWi (cc := cX3_runs) (maxL := 5) RX3 (by decide) rfl rfl (Nat.le_of_ble_eq_true rfl) ?_
  intro p e s m below meth cd Qz ls hx hb hml hown hts hK hZ hP hS hl hret
  have hA := sgY.self (n := 52) (h := h) (sz := s.heap.size)
  have hl : lv_has ls 5 [(0, .ref (h 36)), (1, .int 11), (2, .int (-1)), (3, .int x2), (4, .int 4)] := hl
  obtain ⟨H, hH⟩ : ∃ z : Heap, z = s.heap := ⟨_, rfl⟩
  obtain ⟨locs, hlo⟩ : ∃ z : List Loc, z = [] := ⟨_, rfl⟩
  have hP : va_P D vwCl (sgw 52 h (eX ca h) f L Q) H := by rw [hH]; exact hP
  have hS : va_S (sgA 52 h s.heap.size) s.heap H locs := by rw [hH, hlo]; exact hS
  suffices hgo : W p l e ({ frames := 0, cells := 0, slots := 0, locals := 0 }) s m ([.ref (h 36), .int 11, .int (-1), .int x2, .int 4] : List Value).toArray below meth cd H locs 0 0 Qz (F0 m 0 ls []) by rw [hH, hlo] at hgo; exact hgo
  clear hH hlo
  obtain ⟨sp, hsp⟩ : ∃ z : Int32, z = sX3_runs_11_m1_4_f8_f5 x2 f L := ⟨_, rfl⟩
  have hs : sp = sX3_runs_11_m1_4_f8_f5 x2 f L := hsp
  have o_1 : (f 36 3).toInt = 8 := (congrArg Int32.toInt (show f 36 3 = 8 from hf_36_3)).trans (by decide)
  refine lv_iload_n hx hb dX3_runs_0 rfl (lv_at hl 1 rfl) ?_
  refine lv_lookup (x := 11) (off := 163) (tgt := 164) hx hb dX3_runs_1 (by decide) (by decide) (by decide) ?_
  refine lv_iload_n hx hb dX3_runs_164 rfl (lv_at hl 3 rfl) ?_
  refine lv_aload_n hx hb dX3_runs_165 rfl (lv_at hl 0 rfl) ?_
  refine sl_gX_36_5_3 (v := (f 36 5)) hx hb hts hown hK hP rfl dX3_runs_166 ?_
  refine lv_topi (fun v_2 ev_2 => ?_)
  have q_3 : 0 ≤ v_2.toInt ∧ v_2.toInt ≤ 49 := by rw [ev_2]; exact hI 36 5
  refine lv_ixor hx hb dX3_runs_169 ?_
  refine lv_topi (fun v_4 ev_4 => ?_)
  have q_5 : (f 36 3).toInt = 8 := (congrArg Int32.toInt (show f 36 3 = 8 from hf_36_3)).trans (by decide)
  exact hret _ _ _ _ (v_4) f L Q dX3_runs_170 hP hS ⟨⟨rfl, rfl, rfl⟩, trivial, ⟨by omega, by omega⟩, (Eq.trans (Eq.symm (hs.trans ((spl_e ev_2 (spl_e ev_4 rfl))))) hsp)⟩

abbrev WkX3_does_2_2_3_f7_f5 : List (Nat × Nat × Option Nat) := [(36, 36, some 3), (38, 38, some 7)]
set_option maxHeartbeats 4000000 in
set_option maxRecDepth 100000 in
theorem kX3_does_2_2_3_f7_f5 (l : Launch) (D : va_G) (ca : Nat → ClassId) (za h : Nat → Nat) (hh : sgH 52 h) (f : sg_F) (L : sg_L) (Q : sg_Q) (hI : sgI loX hiX f) (x2 : Int32) (hf_36_3 : f 36 3 = 7) (hf_36_4 : f 36 4 = 5) (b2 : 1 ≤ x2.toInt ∧ x2.toInt ≤ 1) (p0 : 7 ≤ (f 36 3).toInt ∧ (f 36 3).toInt ≤ 7) (sz : Nat) : Met l yX3_does gwX3_does { frames := 1, cells := 0, slots := 0, locals := 24 } (sgP D vwCl (tyX ca) 52 h (eX ca h) zcX za f L Q sz [.ref (h 36), .int 2, .int 2, .int x2, .int 3]) (sgQi D vwCl 52 h (eX ca h) sz (fun r f1 L1 Q1 => ((sgI loX hiX f1 ∧ sgK WkX3_does_2_2_3_f7_f5 f f1 ∧ L1 = L ∧ Q1 = Q) ∧ True ∧ (8 ≤ (f1 36 3).toInt ∧ (f1 36 3).toInt ≤ 8) ∧ (r, f1) = sX3_does_2_2_3_f7_f5 x2 f L))) 0 0 (sgA 52 h sz) := by
  refine sg_ofWi (cc := cX3_does) (maxL := 7) RX3 (by decide) rfl rfl (Nat.le_of_ble_eq_true rfl) ?_
  intro p e s m below meth cd Qz ls hx hb hml hown hts hK hZ hP hS hl hret
  have hA := sgY.self (n := 52) (h := h) (sz := s.heap.size)
  have hl : lv_has ls 7 [(0, .ref (h 36)), (1, .int 2), (2, .int 2), (3, .int x2), (4, .int 3)] := hl
  obtain ⟨H, hH⟩ : ∃ z : Heap, z = s.heap := ⟨_, rfl⟩
  obtain ⟨locs, hlo⟩ : ∃ z : List Loc, z = [] := ⟨_, rfl⟩
  have hP : va_P D vwCl (sgw 52 h (eX ca h) f L Q) H := by rw [hH]; exact hP
  have hS : va_S (sgA 52 h s.heap.size) s.heap H locs := by rw [hH, hlo]; exact hS
  suffices hgo : W p l e ({ frames := 1, cells := 0, slots := 0, locals := 24 }) s m ([.ref (h 36), .int 2, .int 2, .int x2, .int 3] : List Value).toArray below meth cd H locs 0 0 Qz (F0 m 0 ls []) by rw [hH, hlo] at hgo; exact hgo
  clear hH hlo
  obtain ⟨sp, hsp⟩ : ∃ z : Int32 × sg_F, z = sX3_does_2_2_3_f7_f5 x2 f L := ⟨_, rfl⟩
  have hs : sp = sX3_does_2_2_3_f7_f5 x2 f L := hsp
  have o_1 : (f 36 3).toInt = 7 := (congrArg Int32.toInt (show f 36 3 = 7 from hf_36_3)).trans (by decide)
  have hF : sgK WkX3_does_2_2_3_f7_f5 f f := sgK.rf
  have blk_53 : ∀ (fp_53 : sg_F) (H : Heap) (locs : List Loc) (ls : Array Slot), sp = sX3_does_2_2_3_f7_f5_b53 x2 fp_53 L → 7 ≤ (fp_53 36 3).toInt ∧ (fp_53 36 3).toInt ≤ 7 → 5 ≤ (fp_53 36 4).toInt ∧ (fp_53 36 4).toInt ≤ 5 → sgI loX hiX fp_53 → sgK WkX3_does_2_2_3_f7_f5 f fp_53 → va_P D vwCl (sgw 52 h (eX ca h) fp_53 L Q) H → va_S (sgA 52 h s.heap.size) s.heap H locs → lv_has ls 7 [(0, .ref (h 36)), (3, .int x2), (4, .int 3), (5, .int 0), (6, .int 11)] → W p l e ({ frames := 1, cells := 0, slots := 0, locals := 24 }) s m ([.ref (h 36), .int 2, .int 2, .int x2, .int 3] : List Value).toArray below meth cd H locs 0 0 Qz (F0 m 53 ls []) := by
    intro fp_53 H locs ls hs hy0_53 hy1_53 hI hF hP hS hl
    obtain ⟨v_2, ev_2⟩ : ∃ z : Int32, z = fp_53 36 3 := ⟨_, rfl⟩
    have q_3 : 0 ≤ v_2.toInt ∧ v_2.toInt ≤ 19 := by rw [ev_2]; exact hI 36 3
    have q_4 : (fp_53 36 3).toInt = v_2.toInt := by rw [ev_2]
    obtain ⟨v_5, ev_5⟩ : ∃ z : Int32, z = fp_53 36 4 := ⟨_, rfl⟩
    have q_6 : 0 ≤ v_5.toInt ∧ v_5.toInt ≤ 7 := by rw [ev_5]; exact hI 36 4
    have q_7 : (fp_53 36 4).toInt = v_5.toInt := by rw [ev_5]
    have m_8 : fp_53 36 4 = 5 := (hF 36 4 (by decide)).trans hf_36_4
    refine lv_aload_n hx hb dX3_does_53 rfl (lv_at hl 0 rfl) ?_
    refine lv_dup hx hb dX3_does_54 rfl ?_
    refine sl_gX_36_3_3 (v := v_2) hx hb hts hown hK hP (show fp_53 36 3 = v_2 from ev_2.symm) dX3_does_55 ?_
    refine lv_iconst (v := 1) hx hb dX3_does_58 ic_1 ?_
    refine lv_iadd hx hb dX3_does_59 ?_
    refine lv_topi (fun v_9 ev_9 => ?_)
    have q_10 : v_9.toInt = v_2.toInt + 1 := by rw [ev_9]; first | exact cm_add ti_1 (by omega) (by omega) | (have k1 : (1 : Int32).toInt = 1 := ti_1; exact (bn_addI (by omega) (by omega)).trans (by omega))
    refine sl_pX_36_3_3 (x := v_9) hx hb hts hown hh hA hK hP hS dX3_does_60 (fun f_11 H locs ef_11 hP hS => ?_)
    have hI : sgI loX hiX f_11 := by rw [ef_11]; exact sgI.put hI 36 3 (show 0 ≤ (v_9 : Int32).toInt ∧ (v_9 : Int32).toInt ≤ 19 from ⟨by omega, by omega⟩)
    have hF : sgK WkX3_does_2_2_3_f7_f5 f f_11 := sgK.put hF ef_11 (by rfl)
    refine lv_aload_n hx hb dX3_does_63 rfl (lv_at hl 0 rfl) ?_
    refine lv_iload hx hb dX3_does_64 (lv_at hl 4 rfl) ?_
    refine sg_gets hx hb hZ 2 rfl hS hown (hts _ (List.mem_cons_of_mem _ mw_174)) (fun _ h9 => h9) dX3_does_66 ?_
    refine lv_iload hx hb dX3_does_69 (lv_at hl 3 rfl) ?_
    refine sg_sald hx hb hZ 2 rfl hS (y := 0) (N := 8) (vp_in_iff.mpr (by decide)) dX3_does_71 ?_
    refine W.eq (g2 := F0 m 72 ls [.int (-1), .int 11, .ref (h 36)]) (by rfl) ?_
    refine lv_iload_n hx hb dX3_does_72 rfl (lv_at hl 1 rfl) ?_
    refine lv_iload hx hb dX3_does_73 (lv_at hl 2 rfl) ?_
    refine lv_iconst (v := 1) hx hb dX3_does_75 ic_1 ?_
    refine lv_iadd hx hb dX3_does_76 ?_
    refine W.eq (g2 := F0 m 77 ls [.int 4, .int x2, .int (-1), .int 11, .ref (h 36)]) (by rw [show (3 + 1 : Int32) = 4 from by decide]) ?_
    have c_12 : v_9 = 8 := Int32.toInt_inj.mp (by have k9 : (8 : Int32).toInt = 8 := ti_8; omega)
    have q_13 : (f_11 36 3).toInt = 8 := (congrArg Int32.toInt (show f_11 36 3 = 8 from (Eq.trans (by rw [ef_11, sg_up_s, sgu_s]) c_12))).trans (by decide)
    refine sg_calli (va_runV (As := [.int 11, .int (-1), .int x2, .int 4]) (rest := []) ⟨hx, hb, hml, hown, hts⟩ (kX3_runs_11_m1_4_f8_f5 l D ca za h hh f_11 L Q hI x2 (Eq.trans (by rw [ef_11, sg_up_s, sgu_s]) c_12) (by rw [ef_11, sg_up_s, sgu_n (by decide)]; exact m_8) b2 (by have k0 : (11 : Int32).toInt = 11 := ti_11; have k1 : ((-1) : Int32).toInt = (-1) := ti_m1; have k3 : (4 : Int32).toInt = 4 := ti_4; omega) H.size) (sl_c3_runs_0_0_0_0_3 hts ⟨Nat.le_of_ble_eq_true rfl, Nat.le_of_ble_eq_true rfl⟩) (sl_vX_36 hA hK hP hS hZ) rfl rfl hl.1 rfl (lv_room (Nat.le_of_ble_eq_true rfl)) dX3_does_77 ⟨Nat.le_refl _, Nat.le_refl _⟩) hA hS (fun r_18 f_15 L_16 Q_17 H locs hq hP hS => ?_)
    obtain ⟨⟨ef9, eL9, eQ9⟩, hq, p_19, u_20⟩ := hq
    rw [ef9, eL9, eQ9] at hP; clear ef9 eL9 eQ9
    have k_23 : (11 : Int32).toInt = 11 := by decide
    have k_24 : ((-1) : Int32).toInt = (-1) := by decide
    have k_25 : (4 : Int32).toInt = 4 := by decide
    exact hret _ _ _ _ (r_18) f_11 L Q dX3_does_80 hP hS ⟨⟨hI, hF, rfl, rfl⟩, trivial, ⟨by omega, by omega⟩, (Eq.trans (Eq.symm (hs.trans ((spl_e ev_2 (spl_e ev_5 (spl_e ev_9 (spl_e ef_11 (spl_e u_20 rfl)))))))) hsp)⟩
  refine lv_iload_n hx hb dX3_does_0 rfl (lv_at hl 1 rfl) ?_
  refine lv_iload_n hx hb dX3_does_1 rfl (lv_at hl 2 rfl) ?_
  refine sg_calli (va_runS (As := [.int 2, .int 2]) (rest := []) ⟨hx, hb, hml, hown, hts⟩ (kX3_ownerOf_2_2 l D ca za h hh f L Q hI H.size) (va_cwS 2 hts (gw_S (fun _ h => List.mem_cons_of_mem _ h) mw_189 mw_190 mw_47 mw_188) rfl rfl rfl hd_yX3_ownerOf.2 ⟨Nat.le_of_ble_eq_true rfl, Nat.le_of_ble_eq_true rfl⟩) (sg_preS hA hK hP hS hZ) rfl rfl hl.1 rfl (lv_room (Nat.le_of_ble_eq_true rfl)) dX3_does_2 ⟨Nat.le_refl _, Nat.le_refl _⟩) hA hS (fun r_31 f_28 L_29 Q_30 H locs hq hP hS => ?_)
  obtain ⟨⟨ef9, eL9, eQ9⟩, hq, u_32⟩ := hq
  rw [ef9, eL9, eQ9] at hP; clear ef9 eL9 eQ9
  obtain rfl : r_31 = 0 := Int32.toInt_inj.mp (by have k9 : (0 : Int32).toInt = 0 := ti_0; omega)
  refine lv_istore (lv' := [(5, .int 0), (0, .ref (h 36)), (1, .int 2), (2, .int 2), (3, .int x2), (4, .int 3)]) hx hb dX3_does_5 hl (by decide) rfl (fun ls hl => ?_)
  refine lv_iload hx hb dX3_does_7 (lv_at hl 0 rfl) ?_
  refine lv_if_lt (tgt := 19) hx hb dX3_does_9 (by decide) (fun c => absurd c (by decide)) (fun c => ?_)
  refine lv_iload hx hb dX3_does_12 (lv_at hl 5 rfl) ?_
  refine lv_bipush (v := 40) hx hb dX3_does_14 bp_40 ?_
  refine lv_icmp_le (tgt := 21) hx hb dX3_does_16 (by decide) (fun c => ?_) (fun c => absurd c (by decide))
  refine sg_gets hx hb hZ 3 rfl hS hown (hts _ (List.mem_cons_of_mem _ mw_173)) (fun _ h9 => h9) dX3_does_21 ?_
  refine lv_iload hx hb dX3_does_24 (lv_at hl 0 rfl) ?_
  refine lv_iconst (v := 4) hx hb dX3_does_26 ic_4 ?_
  refine lv_imul hx hb dX3_does_27 ?_
  refine W.eq (g2 := F0 m 28 ls [.int 0, .ref (za 3)]) (by rw [show (0 * 4 : Int32) = 0 from by decide]) ?_
  refine lv_iload_n hx hb dX3_does_28 rfl (lv_at hl 3 rfl) ?_
  refine lv_iadd hx hb dX3_does_29 ?_
  refine W.eq (g2 := F0 m 30 ls [.int 2, .ref (za 3)]) (by rw [show (0 + 2 : Int32) = 2 from by decide]) ?_
  refine sg_sald hx hb hZ 3 rfl hS (y := 2) (N := 32) (vp_in_iff.mpr (by decide)) dX3_does_30 ?_
  refine W.eq (g2 := F0 m 31 ls [.int 11]) (by rfl) ?_
  refine lv_istore (lv' := [(6, .int 11), (5, .int 0), (0, .ref (h 36)), (1, .int 2), (2, .int 2), (3, .int x2), (4, .int 3)]) hx hb dX3_does_31 hl (by decide) rfl (fun ls hl => ?_)
  refine lv_aload_n hx hb dX3_does_33 rfl (lv_at hl 2 rfl) ?_
  refine sl_gX_36_3_3 (v := 7) hx hb hts hown hK hP (show f 36 3 = 7 from hf_36_3) dX3_does_34 ?_
  refine lv_bipush (v := 24) hx hb dX3_does_37 bp_24 ?_
  refine lv_icmp_ge (tgt := 53) hx hb dX3_does_39 (by decide) (fun c => absurd c (by decide)) (fun c => ?_)
  refine lv_aload_n hx hb dX3_does_42 rfl (lv_at hl 2 rfl) ?_
  refine sl_gX_36_1_3 hx hb hts hown hK hP dX3_does_43 ?_
  refine lv_aload_n hx hb dX3_does_46 rfl (lv_at hl 2 rfl) ?_
  refine sl_gX_36_3_3 (v := 7) hx hb hts hown hK hP (show f 36 3 = 7 from hf_36_3) dX3_does_47 ?_
  refine lv_iload hx hb dX3_does_50 (lv_at hl 0 rfl) ?_
  refine sg_iast hx hb hh hA hK hP hS 38 (by decide) 0 (fun _ => rfl) rfl (i := 7) (x := 11) (vp_in_iff.mpr (by decide)) dX3_does_52 (fun f_33 H locs ef_33 hP hS => ?_)
  have ef_33 : f_33 = sg_up f 38 (sgu (f 38) 7 11) := ef_33
  have hI : sgI loX hiX f_33 := by rw [ef_33]; exact sgI.put hI 38 7 (show 0 ≤ (11 : Int32).toInt ∧ (11 : Int32).toInt ≤ 81 from by decide)
  have hF : sgK WkX3_does_2_2_3_f7_f5 f f_33 := sgK.put hF ef_33 (by rfl)
  exact blk_53 f_33 _ _ _ (hs.trans ((spl_e u_32 (spl_e ef_33 rfl)))) (by have zz36_3 : (f_33 36 3).toInt = 7 := (congrArg Int32.toInt (show f_33 36 3 = 7 from (by rw [ef_33, sg_up_n (by decide)]; exact hf_36_3))).trans (by decide); exact ⟨by omega, by omega⟩) (by have zz36_4 : (f_33 36 4).toInt = 5 := (congrArg Int32.toInt (show f_33 36 4 = 5 from (by rw [ef_33, sg_up_n (by decide)]; exact hf_36_4))).trans (by decide); exact ⟨by omega, by omega⟩) hI hF hP hS (lv_sub hl [2, 5, 6, 1, 0] rfl)

abbrev WkX3_runs_40_2_3_f7_f5 : List (Nat × Nat × Option Nat) := [(36, 36, some 3), (38, 38, some 7)]
set_option maxHeartbeats 4000000 in
set_option maxRecDepth 100000 in
theorem kX3_runs_40_2_3_f7_f5 (l : Launch) (D : va_G) (ca : Nat → ClassId) (za h : Nat → Nat) (hh : sgH 52 h) (f : sg_F) (L : sg_L) (Q : sg_Q) (hI : sgI loX hiX f) (x2 : Int32) (hf_36_3 : f 36 3 = 7) (hf_36_4 : f 36 4 = 5) (b2 : 1 ≤ x2.toInt ∧ x2.toInt ≤ 1) (p0 : 7 ≤ (f 36 3).toInt ∧ (f 36 3).toInt ≤ 7) (sz : Nat) : Met l yX3_runs gwX3_runs { frames := 2, cells := 0, slots := 0, locals := 50 } (sgP D vwCl (tyX ca) 52 h (eX ca h) zcX za f L Q sz [.ref (h 36), .int 40, .int 2, .int x2, .int 3]) (sgQi D vwCl 52 h (eX ca h) sz (fun r f1 L1 Q1 => ((sgI loX hiX f1 ∧ sgK WkX3_runs_40_2_3_f7_f5 f f1 ∧ L1 = L ∧ Q1 = Q) ∧ True ∧ (8 ≤ (f1 36 3).toInt ∧ (f1 36 3).toInt ≤ 8) ∧ (r, f1) = sX3_runs_40_2_3_f7_f5 x2 f L))) 0 0 (sgA 52 h sz) := by
  refine sg_ofWi (cc := cX3_runs) (maxL := 5) RX3 (by decide) rfl rfl (Nat.le_of_ble_eq_true rfl) ?_
  intro p e s m below meth cd Qz ls hx hb hml hown hts hK hZ hP hS hl hret
  have hA := sgY.self (n := 52) (h := h) (sz := s.heap.size)
  have hl : lv_has ls 5 [(0, .ref (h 36)), (1, .int 40), (2, .int 2), (3, .int x2), (4, .int 3)] := hl
  obtain ⟨H, hH⟩ : ∃ z : Heap, z = s.heap := ⟨_, rfl⟩
  obtain ⟨locs, hlo⟩ : ∃ z : List Loc, z = [] := ⟨_, rfl⟩
  have hP : va_P D vwCl (sgw 52 h (eX ca h) f L Q) H := by rw [hH]; exact hP
  have hS : va_S (sgA 52 h s.heap.size) s.heap H locs := by rw [hH, hlo]; exact hS
  suffices hgo : W p l e ({ frames := 2, cells := 0, slots := 0, locals := 50 }) s m ([.ref (h 36), .int 40, .int 2, .int x2, .int 3] : List Value).toArray below meth cd H locs 0 0 Qz (F0 m 0 ls []) by rw [hH, hlo] at hgo; exact hgo
  clear hH hlo
  obtain ⟨sp, hsp⟩ : ∃ z : Int32 × sg_F, z = sX3_runs_40_2_3_f7_f5 x2 f L := ⟨_, rfl⟩
  have hs : sp = sX3_runs_40_2_3_f7_f5 x2 f L := hsp
  have o_1 : (f 36 3).toInt = 7 := (congrArg Int32.toInt (show f 36 3 = 7 from hf_36_3)).trans (by decide)
  have hF : sgK WkX3_runs_40_2_3_f7_f5 f f := sgK.rf
  refine lv_iload_n hx hb dX3_runs_0 rfl (lv_at hl 1 rfl) ?_
  refine lv_lookup (x := 40) (off := 193) (tgt := 194) hx hb dX3_runs_1 (by decide) (by decide) (by decide) ?_
  refine lv_aload_n hx hb dX3_runs_194 rfl (lv_at hl 0 rfl) ?_
  refine lv_iload_n hx hb dX3_runs_195 rfl (lv_at hl 2 rfl) ?_
  refine lv_iconst (v := 2) hx hb dX3_runs_196 ic_2 ?_
  refine lv_iload_n hx hb dX3_runs_197 rfl (lv_at hl 3 rfl) ?_
  refine lv_iload hx hb dX3_runs_198 (lv_at hl 4 rfl) ?_
  have q_2 : (f 36 3).toInt = 7 := (congrArg Int32.toInt (show f 36 3 = 7 from hf_36_3)).trans (by decide)
  refine sg_calli (va_runV (As := [.int 2, .int 2, .int x2, .int 3]) (rest := []) ⟨hx, hb, hml, hown, hts⟩ (kX3_does_2_2_3_f7_f5 l D ca za h hh f L Q hI x2 hf_36_3 hf_36_4 b2 (by have k0 : (2 : Int32).toInt = 2 := ti_2; have k1 : (2 : Int32).toInt = 2 := ti_2; have k3 : (3 : Int32).toInt = 3 := ti_3; omega) H.size) (sl_c3_does_1_0_0_24_3 hts ⟨Nat.le_of_ble_eq_true rfl, Nat.le_of_ble_eq_true rfl⟩) (sl_vX_36 hA hK hP hS hZ) rfl rfl hl.1 rfl (lv_room (Nat.le_of_ble_eq_true rfl)) dX3_runs_200 ⟨Nat.le_refl _, Nat.le_refl _⟩) hA hS (fun r_7 f_4 L_5 Q_6 H locs hq hP hS => ?_)
  obtain ⟨⟨hI, hk_f_4, eL9, eQ9⟩, hq, p_8, u_9⟩ := hq
  rw [eL9, eQ9] at hP; clear eL9 eQ9
  have hF : sgK WkX3_runs_40_2_3_f7_f5 f f_4 := sgK.tr hF hk_f_4 (by decide +kernel)
  obtain ⟨v_10, ev_10⟩ : ∃ z : Int32, z = f_4 36 3 := ⟨_, rfl⟩
  have q_11 : 0 ≤ v_10.toInt ∧ v_10.toInt ≤ 19 := by rw [ev_10]; exact hI 36 3
  have q_12 : (f_4 36 3).toInt = v_10.toInt := (congrArg Int32.toInt (show f_4 36 3 = v_10 from ev_10.symm))
  have k_14 : (2 : Int32).toInt = 2 := by decide
  have k_15 : (2 : Int32).toInt = 2 := by decide
  have k_16 : (3 : Int32).toInt = 3 := by decide
  refine lv_iconst (v := 3) hx hb dX3_runs_203 ic_3 ?_
  refine lv_imul hx hb dX3_runs_204 ?_
  refine lv_topi (fun v_17 ev_17 => ?_)
  exact hret _ _ _ _ (v_17) f_4 L Q dX3_runs_205 hP hS ⟨⟨hI, hF, rfl, rfl⟩, trivial, ⟨by omega, by omega⟩, (Eq.trans (Eq.symm (hs.trans ((spl2_e u_9 (spl_e ev_10 (spl_e ev_17 rfl)))))) hsp)⟩

abbrev WkX3_does_5_2_2_f6_f5 : List (Nat × Nat × Option Nat) := [(36, 36, some 3), (38, 38, some 6), (38, 38, some 7)]
set_option maxHeartbeats 4000000 in
set_option maxRecDepth 100000 in
theorem kX3_does_5_2_2_f6_f5 (l : Launch) (D : va_G) (ca : Nat → ClassId) (za h : Nat → Nat) (hh : sgH 52 h) (f : sg_F) (L : sg_L) (Q : sg_Q) (hI : sgI loX hiX f) (x2 : Int32) (hf_36_3 : f 36 3 = 6) (hf_36_4 : f 36 4 = 5) (b2 : 1 ≤ x2.toInt ∧ x2.toInt ≤ 1) (p0 : 6 ≤ (f 36 3).toInt ∧ (f 36 3).toInt ≤ 6) (sz : Nat) : Met l yX3_does gwX3_does { frames := 3, cells := 0, slots := 0, locals := 74 } (sgP D vwCl (tyX ca) 52 h (eX ca h) zcX za f L Q sz [.ref (h 36), .int 5, .int 2, .int x2, .int 2]) (sgQi D vwCl 52 h (eX ca h) sz (fun r f1 L1 Q1 => ((sgI loX hiX f1 ∧ sgK WkX3_does_5_2_2_f6_f5 f f1 ∧ L1 = L ∧ Q1 = Q) ∧ True ∧ (8 ≤ (f1 36 3).toInt ∧ (f1 36 3).toInt ≤ 8) ∧ (r, f1) = sX3_does_5_2_2_f6_f5 x2 f L))) 0 0 (sgA 52 h sz) := by
  refine sg_ofWi (cc := cX3_does) (maxL := 7) RX3 (by decide) rfl rfl (Nat.le_of_ble_eq_true rfl) ?_
  intro p e s m below meth cd Qz ls hx hb hml hown hts hK hZ hP hS hl hret
  have hA := sgY.self (n := 52) (h := h) (sz := s.heap.size)
  have hl : lv_has ls 7 [(0, .ref (h 36)), (1, .int 5), (2, .int 2), (3, .int x2), (4, .int 2)] := hl
  obtain ⟨H, hH⟩ : ∃ z : Heap, z = s.heap := ⟨_, rfl⟩
  obtain ⟨locs, hlo⟩ : ∃ z : List Loc, z = [] := ⟨_, rfl⟩
  have hP : va_P D vwCl (sgw 52 h (eX ca h) f L Q) H := by rw [hH]; exact hP
  have hS : va_S (sgA 52 h s.heap.size) s.heap H locs := by rw [hH, hlo]; exact hS
  suffices hgo : W p l e ({ frames := 3, cells := 0, slots := 0, locals := 74 }) s m ([.ref (h 36), .int 5, .int 2, .int x2, .int 2] : List Value).toArray below meth cd H locs 0 0 Qz (F0 m 0 ls []) by rw [hH, hlo] at hgo; exact hgo
  clear hH hlo
  obtain ⟨sp, hsp⟩ : ∃ z : Int32 × sg_F, z = sX3_does_5_2_2_f6_f5 x2 f L := ⟨_, rfl⟩
  have hs : sp = sX3_does_5_2_2_f6_f5 x2 f L := hsp
  have o_1 : (f 36 3).toInt = 6 := (congrArg Int32.toInt (show f 36 3 = 6 from hf_36_3)).trans (by decide)
  have hF : sgK WkX3_does_5_2_2_f6_f5 f f := sgK.rf
  have blk_53 : ∀ (fp_53 : sg_F) (H : Heap) (locs : List Loc) (ls : Array Slot), sp = sX3_does_5_2_2_f6_f5_b53 x2 fp_53 L → 6 ≤ (fp_53 36 3).toInt ∧ (fp_53 36 3).toInt ≤ 6 → 5 ≤ (fp_53 36 4).toInt ∧ (fp_53 36 4).toInt ≤ 5 → sgI loX hiX fp_53 → sgK WkX3_does_5_2_2_f6_f5 f fp_53 → va_P D vwCl (sgw 52 h (eX ca h) fp_53 L Q) H → va_S (sgA 52 h s.heap.size) s.heap H locs → lv_has ls 7 [(0, .ref (h 36)), (3, .int x2), (4, .int 2), (5, .int 3), (6, .int 40)] → W p l e ({ frames := 3, cells := 0, slots := 0, locals := 74 }) s m ([.ref (h 36), .int 5, .int 2, .int x2, .int 2] : List Value).toArray below meth cd H locs 0 0 Qz (F0 m 53 ls []) := by
    intro fp_53 H locs ls hs hy0_53 hy1_53 hI hF hP hS hl
    obtain ⟨v_2, ev_2⟩ : ∃ z : Int32, z = fp_53 36 3 := ⟨_, rfl⟩
    have q_3 : 0 ≤ v_2.toInt ∧ v_2.toInt ≤ 19 := by rw [ev_2]; exact hI 36 3
    have q_4 : (fp_53 36 3).toInt = v_2.toInt := by rw [ev_2]
    obtain ⟨v_5, ev_5⟩ : ∃ z : Int32, z = fp_53 36 4 := ⟨_, rfl⟩
    have q_6 : 0 ≤ v_5.toInt ∧ v_5.toInt ≤ 7 := by rw [ev_5]; exact hI 36 4
    have q_7 : (fp_53 36 4).toInt = v_5.toInt := by rw [ev_5]
    have m_8 : fp_53 36 4 = 5 := (hF 36 4 (by decide)).trans hf_36_4
    refine lv_aload_n hx hb dX3_does_53 rfl (lv_at hl 0 rfl) ?_
    refine lv_dup hx hb dX3_does_54 rfl ?_
    refine sl_gX_36_3_3 (v := v_2) hx hb hts hown hK hP (show fp_53 36 3 = v_2 from ev_2.symm) dX3_does_55 ?_
    refine lv_iconst (v := 1) hx hb dX3_does_58 ic_1 ?_
    refine lv_iadd hx hb dX3_does_59 ?_
    refine lv_topi (fun v_9 ev_9 => ?_)
    have q_10 : v_9.toInt = v_2.toInt + 1 := by rw [ev_9]; first | exact cm_add ti_1 (by omega) (by omega) | (have k1 : (1 : Int32).toInt = 1 := ti_1; exact (bn_addI (by omega) (by omega)).trans (by omega))
    refine sl_pX_36_3_3 (x := v_9) hx hb hts hown hh hA hK hP hS dX3_does_60 (fun f_11 H locs ef_11 hP hS => ?_)
    have hI : sgI loX hiX f_11 := by rw [ef_11]; exact sgI.put hI 36 3 (show 0 ≤ (v_9 : Int32).toInt ∧ (v_9 : Int32).toInt ≤ 19 from ⟨by omega, by omega⟩)
    have hF : sgK WkX3_does_5_2_2_f6_f5 f f_11 := sgK.put hF ef_11 (by rfl)
    refine lv_aload_n hx hb dX3_does_63 rfl (lv_at hl 0 rfl) ?_
    refine lv_iload hx hb dX3_does_64 (lv_at hl 4 rfl) ?_
    refine sg_gets hx hb hZ 2 rfl hS hown (hts _ (List.mem_cons_of_mem _ mw_174)) (fun _ h9 => h9) dX3_does_66 ?_
    refine lv_iload hx hb dX3_does_69 (lv_at hl 3 rfl) ?_
    refine sg_sald hx hb hZ 2 rfl hS (y := 3) (N := 8) (vp_in_iff.mpr (by decide)) dX3_does_71 ?_
    refine W.eq (g2 := F0 m 72 ls [.int 2, .int 40, .ref (h 36)]) (by rfl) ?_
    refine lv_iload_n hx hb dX3_does_72 rfl (lv_at hl 1 rfl) ?_
    refine lv_iload hx hb dX3_does_73 (lv_at hl 2 rfl) ?_
    refine lv_iconst (v := 1) hx hb dX3_does_75 ic_1 ?_
    refine lv_iadd hx hb dX3_does_76 ?_
    refine W.eq (g2 := F0 m 77 ls [.int 3, .int x2, .int 2, .int 40, .ref (h 36)]) (by rw [show (2 + 1 : Int32) = 3 from by decide]) ?_
    have c_12 : v_9 = 7 := Int32.toInt_inj.mp (by have k9 : (7 : Int32).toInt = 7 := ti_7; omega)
    have q_13 : (f_11 36 3).toInt = 7 := (congrArg Int32.toInt (show f_11 36 3 = 7 from (Eq.trans (by rw [ef_11, sg_up_s, sgu_s]) c_12))).trans (by decide)
    refine sg_calli (va_runV (As := [.int 40, .int 2, .int x2, .int 3]) (rest := []) ⟨hx, hb, hml, hown, hts⟩ (kX3_runs_40_2_3_f7_f5 l D ca za h hh f_11 L Q hI x2 (Eq.trans (by rw [ef_11, sg_up_s, sgu_s]) c_12) (by rw [ef_11, sg_up_s, sgu_n (by decide)]; exact m_8) b2 (by have k0 : (40 : Int32).toInt = 40 := ti_40; have k1 : (2 : Int32).toInt = 2 := ti_2; have k3 : (3 : Int32).toInt = 3 := ti_3; omega) H.size) (sl_c3_runs_2_0_0_50_3 hts ⟨Nat.le_of_ble_eq_true rfl, Nat.le_of_ble_eq_true rfl⟩) (sl_vX_36 hA hK hP hS hZ) rfl rfl hl.1 rfl (lv_room (Nat.le_of_ble_eq_true rfl)) dX3_does_77 ⟨Nat.le_refl _, Nat.le_refl _⟩) hA hS (fun r_18 f_15 L_16 Q_17 H locs hq hP hS => ?_)
    obtain ⟨⟨hI, hk_f_15, eL9, eQ9⟩, hq, p_19, u_20⟩ := hq
    rw [eL9, eQ9] at hP; clear eL9 eQ9
    have hF : sgK WkX3_does_5_2_2_f6_f5 f f_15 := sgK.tr hF hk_f_15 (by decide +kernel)
    obtain ⟨v_21, ev_21⟩ : ∃ z : Int32, z = f_15 36 3 := ⟨_, rfl⟩
    have q_22 : 0 ≤ v_21.toInt ∧ v_21.toInt ≤ 19 := by rw [ev_21]; exact hI 36 3
    have q_23 : (f_15 36 3).toInt = v_21.toInt := (congrArg Int32.toInt (show f_15 36 3 = v_21 from ev_21.symm))
    have k_25 : (40 : Int32).toInt = 40 := by decide
    have k_26 : (2 : Int32).toInt = 2 := by decide
    have k_27 : (3 : Int32).toInt = 3 := by decide
    exact hret _ _ _ _ (r_18) f_15 L Q dX3_does_80 hP hS ⟨⟨hI, hF, rfl, rfl⟩, trivial, ⟨by omega, by omega⟩, (Eq.trans (Eq.symm (hs.trans ((spl_e ev_2 (spl_e ev_5 (spl_e ev_9 (spl_e ef_11 (spl2_e u_20 (spl_e ev_21 rfl))))))))) hsp)⟩
  refine lv_iload_n hx hb dX3_does_0 rfl (lv_at hl 1 rfl) ?_
  refine lv_iload_n hx hb dX3_does_1 rfl (lv_at hl 2 rfl) ?_
  refine sg_calli (va_runS (As := [.int 5, .int 2]) (rest := []) ⟨hx, hb, hml, hown, hts⟩ (kX3_ownerOf_5_2 l D ca za h hh f L Q hI H.size) (va_cwS 2 hts (gw_S (fun _ h => List.mem_cons_of_mem _ h) mw_189 mw_190 mw_47 mw_188) rfl rfl rfl hd_yX3_ownerOf.2 ⟨Nat.le_of_ble_eq_true rfl, Nat.le_of_ble_eq_true rfl⟩) (sg_preS hA hK hP hS hZ) rfl rfl hl.1 rfl (lv_room (Nat.le_of_ble_eq_true rfl)) dX3_does_2 ⟨Nat.le_refl _, Nat.le_refl _⟩) hA hS (fun r_33 f_30 L_31 Q_32 H locs hq hP hS => ?_)
  obtain ⟨⟨ef9, eL9, eQ9⟩, hq, u_34⟩ := hq
  rw [ef9, eL9, eQ9] at hP; clear ef9 eL9 eQ9
  obtain rfl : r_33 = 3 := Int32.toInt_inj.mp (by have k9 : (3 : Int32).toInt = 3 := ti_3; omega)
  refine lv_istore (lv' := [(5, .int 3), (0, .ref (h 36)), (1, .int 5), (2, .int 2), (3, .int x2), (4, .int 2)]) hx hb dX3_does_5 hl (by decide) rfl (fun ls hl => ?_)
  refine lv_iload hx hb dX3_does_7 (lv_at hl 0 rfl) ?_
  refine lv_if_lt (tgt := 19) hx hb dX3_does_9 (by decide) (fun c => absurd c (by decide)) (fun c => ?_)
  refine lv_iload hx hb dX3_does_12 (lv_at hl 5 rfl) ?_
  refine lv_bipush (v := 40) hx hb dX3_does_14 bp_40 ?_
  refine lv_icmp_le (tgt := 21) hx hb dX3_does_16 (by decide) (fun c => ?_) (fun c => absurd c (by decide))
  refine sg_gets hx hb hZ 3 rfl hS hown (hts _ (List.mem_cons_of_mem _ mw_173)) (fun _ h9 => h9) dX3_does_21 ?_
  refine lv_iload hx hb dX3_does_24 (lv_at hl 0 rfl) ?_
  refine lv_iconst (v := 4) hx hb dX3_does_26 ic_4 ?_
  refine lv_imul hx hb dX3_does_27 ?_
  refine W.eq (g2 := F0 m 28 ls [.int 12, .ref (za 3)]) (by rw [show (3 * 4 : Int32) = 12 from by decide]) ?_
  refine lv_iload_n hx hb dX3_does_28 rfl (lv_at hl 3 rfl) ?_
  refine lv_iadd hx hb dX3_does_29 ?_
  refine W.eq (g2 := F0 m 30 ls [.int 14, .ref (za 3)]) (by rw [show (12 + 2 : Int32) = 14 from by decide]) ?_
  refine sg_sald hx hb hZ 3 rfl hS (y := 14) (N := 32) (vp_in_iff.mpr (by decide)) dX3_does_30 ?_
  refine W.eq (g2 := F0 m 31 ls [.int 40]) (by rfl) ?_
  refine lv_istore (lv' := [(6, .int 40), (5, .int 3), (0, .ref (h 36)), (1, .int 5), (2, .int 2), (3, .int x2), (4, .int 2)]) hx hb dX3_does_31 hl (by decide) rfl (fun ls hl => ?_)
  refine lv_aload_n hx hb dX3_does_33 rfl (lv_at hl 2 rfl) ?_
  refine sl_gX_36_3_3 (v := 6) hx hb hts hown hK hP (show f 36 3 = 6 from hf_36_3) dX3_does_34 ?_
  refine lv_bipush (v := 24) hx hb dX3_does_37 bp_24 ?_
  refine lv_icmp_ge (tgt := 53) hx hb dX3_does_39 (by decide) (fun c => absurd c (by decide)) (fun c => ?_)
  refine lv_aload_n hx hb dX3_does_42 rfl (lv_at hl 2 rfl) ?_
  refine sl_gX_36_1_3 hx hb hts hown hK hP dX3_does_43 ?_
  refine lv_aload_n hx hb dX3_does_46 rfl (lv_at hl 2 rfl) ?_
  refine sl_gX_36_3_3 (v := 6) hx hb hts hown hK hP (show f 36 3 = 6 from hf_36_3) dX3_does_47 ?_
  refine lv_iload hx hb dX3_does_50 (lv_at hl 0 rfl) ?_
  refine sg_iast hx hb hh hA hK hP hS 38 (by decide) 0 (fun _ => rfl) rfl (i := 6) (x := 40) (vp_in_iff.mpr (by decide)) dX3_does_52 (fun f_35 H locs ef_35 hP hS => ?_)
  have ef_35 : f_35 = sg_up f 38 (sgu (f 38) 6 40) := ef_35
  have hI : sgI loX hiX f_35 := by rw [ef_35]; exact sgI.put hI 38 6 (show 0 ≤ (40 : Int32).toInt ∧ (40 : Int32).toInt ≤ 81 from by decide)
  have hF : sgK WkX3_does_5_2_2_f6_f5 f f_35 := sgK.put hF ef_35 (by rfl)
  exact blk_53 f_35 _ _ _ (hs.trans ((spl_e u_34 (spl_e ef_35 rfl)))) (by have zz36_3 : (f_35 36 3).toInt = 6 := (congrArg Int32.toInt (show f_35 36 3 = 6 from (by rw [ef_35, sg_up_n (by decide)]; exact hf_36_3))).trans (by decide); exact ⟨by omega, by omega⟩) (by have zz36_4 : (f_35 36 4).toInt = 5 := (congrArg Int32.toInt (show f_35 36 4 = 5 from (by rw [ef_35, sg_up_n (by decide)]; exact hf_36_4))).trans (by decide); exact ⟨by omega, by omega⟩) hI hF hP hS (lv_sub hl [2, 5, 6, 1, 0] rfl)

abbrev WkX3_runs_2_m1_2_f2_f5 : List (Nat × Nat × Option Nat) := [(36, 36, some 3), (38, 38, some 2), (38, 38, some 3), (38, 38, some 4), (38, 38, some 5), (38, 38, some 6), (38, 38, some 7)]
set_option maxHeartbeats 4000000 in
set_option maxRecDepth 100000 in
theorem kX3_runs_2_m1_2_f2_f5 (l : Launch) (D : va_G) (ca : Nat → ClassId) (za h : Nat → Nat) (hh : sgH 52 h) (f : sg_F) (L : sg_L) (Q : sg_Q) (hI : sgI loX hiX f) (x2 : Int32) (hf_36_3 : f 36 3 = 2) (hf_36_4 : f 36 4 = 5) (p0 : 2 ≤ (f 36 3).toInt ∧ (f 36 3).toInt ≤ 2) (sz : Nat) : Met l yX3_runs gwX3_runs { frames := 8, cells := 0, slots := 0, locals := 200 } (sgP D vwCl (tyX ca) 52 h (eX ca h) zcX za f L Q sz [.ref (h 36), .int 2, .int (-1), .int x2, .int 2]) (sgQi D vwCl 52 h (eX ca h) sz (fun r f1 L1 Q1 => ((sgI loX hiX f1 ∧ sgK WkX3_runs_2_m1_2_f2_f5 f f1 ∧ L1 = L ∧ Q1 = Q) ∧ True ∧ (8 ≤ (f1 36 3).toInt ∧ (f1 36 3).toInt ≤ 8) ∧ (r, f1) = sX3_runs_2_m1_2_f2_f5 x2 f L))) 0 0 (sgA 52 h sz) := by
  refine sg_ofWi (cc := cX3_runs) (maxL := 5) RX3 (by decide) rfl rfl (Nat.le_of_ble_eq_true rfl) ?_
  intro p e s m below meth cd Qz ls hx hb hml hown hts hK hZ hP hS hl hret
  have hA := sgY.self (n := 52) (h := h) (sz := s.heap.size)
  have hl : lv_has ls 5 [(0, .ref (h 36)), (1, .int 2), (2, .int (-1)), (3, .int x2), (4, .int 2)] := hl
  obtain ⟨H, hH⟩ : ∃ z : Heap, z = s.heap := ⟨_, rfl⟩
  obtain ⟨locs, hlo⟩ : ∃ z : List Loc, z = [] := ⟨_, rfl⟩
  have hP : va_P D vwCl (sgw 52 h (eX ca h) f L Q) H := by rw [hH]; exact hP
  have hS : va_S (sgA 52 h s.heap.size) s.heap H locs := by rw [hH, hlo]; exact hS
  suffices hgo : W p l e ({ frames := 8, cells := 0, slots := 0, locals := 200 }) s m ([.ref (h 36), .int 2, .int (-1), .int x2, .int 2] : List Value).toArray below meth cd H locs 0 0 Qz (F0 m 0 ls []) by rw [hH, hlo] at hgo; exact hgo
  clear hH hlo
  obtain ⟨sp, hsp⟩ : ∃ z : Int32 × sg_F, z = sX3_runs_2_m1_2_f2_f5 x2 f L := ⟨_, rfl⟩
  have hs : sp = sX3_runs_2_m1_2_f2_f5 x2 f L := hsp
  have o_1 : (f 36 3).toInt = 2 := (congrArg Int32.toInt (show f 36 3 = 2 from hf_36_3)).trans (by decide)
  have hF : sgK WkX3_runs_2_m1_2_f2_f5 f f := sgK.rf
  refine lv_iload_n hx hb dX3_runs_0 rfl (lv_at hl 1 rfl) ?_
  refine lv_lookup (x := 2) (off := 122) (tgt := 123) hx hb dX3_runs_1 (by decide) (by decide) (by decide) ?_
  refine lv_aload_n hx hb dX3_runs_123 rfl (lv_at hl 0 rfl) ?_
  refine lv_aload_n hx hb dX3_runs_124 rfl (lv_at hl 0 rfl) ?_
  refine sl_gX_36_4_3 (v := 5) hx hb hts hown hK hP (show f 36 4 = 5 from hf_36_4) dX3_runs_125 ?_
  refine lv_iconst (v := 1) hx hb dX3_runs_128 ic_1 ?_
  refine lv_iload_n hx hb dX3_runs_129 rfl (lv_at hl 3 rfl) ?_
  refine lv_iload hx hb dX3_runs_130 (lv_at hl 4 rfl) ?_
  have q_2 : (f 36 3).toInt = 2 := (congrArg Int32.toInt (show f 36 3 = 2 from hf_36_3)).trans (by decide)
  refine sg_calli (va_runV (As := [.int 5, .int 1, .int x2, .int 2]) (rest := []) ⟨hx, hb, hml, hown, hts⟩ (kX3_does_5_1_2_f2_f5 l D ca za h hh f L Q hI x2 hf_36_3 hf_36_4 (by have k0 : (5 : Int32).toInt = 5 := ti_5; have k1 : (1 : Int32).toInt = 1 := ti_1; have k3 : (2 : Int32).toInt = 2 := ti_2; omega) H.size) (sl_c3_does_7_0_0_174_3 hts ⟨Nat.le_of_ble_eq_true rfl, Nat.le_of_ble_eq_true rfl⟩) (sl_vX_36 hA hK hP hS hZ) rfl rfl hl.1 rfl (lv_room (Nat.le_of_ble_eq_true rfl)) dX3_runs_132 ⟨Nat.le_refl _, Nat.le_refl _⟩) hA hS (fun r_7 f_4 L_5 Q_6 H locs hq hP hS => ?_)
  obtain ⟨⟨hI, hk_f_4, eL9, eQ9⟩, hq, p_8, u_9⟩ := hq
  rw [eL9, eQ9] at hP; clear eL9 eQ9
  have hF : sgK WkX3_runs_2_m1_2_f2_f5 f f_4 := sgK.tr hF hk_f_4 (by decide +kernel)
  obtain ⟨v_10, ev_10⟩ : ∃ z : Int32, z = f_4 36 3 := ⟨_, rfl⟩
  have q_11 : 0 ≤ v_10.toInt ∧ v_10.toInt ≤ 19 := by rw [ev_10]; exact hI 36 3
  have q_12 : (f_4 36 3).toInt = v_10.toInt := (congrArg Int32.toInt (show f_4 36 3 = v_10 from ev_10.symm))
  have k_14 : (5 : Int32).toInt = 5 := by decide
  have k_15 : (1 : Int32).toInt = 1 := by decide
  have k_16 : (2 : Int32).toInt = 2 := by decide
  refine lv_aload_n hx hb dX3_runs_135 rfl (lv_at hl 0 rfl) ?_
  refine lv_aload_n hx hb dX3_runs_136 rfl (lv_at hl 0 rfl) ?_
  refine sl_gX_36_4_3 (v := 5) hx hb hts hown hK hP (show f_4 36 4 = 5 from ((hk_f_4 36 4 (by decide)).trans hf_36_4)) dX3_runs_137 ?_
  refine lv_iconst (v := 2) hx hb dX3_runs_140 ic_2 ?_
  refine lv_iconst (v := 1) hx hb dX3_runs_141 ic_1 ?_
  refine lv_iload hx hb dX3_runs_142 (lv_at hl 4 rfl) ?_
  have c_17 : v_10 = 6 := Int32.toInt_inj.mp (by have k9 : (6 : Int32).toInt = 6 := ti_6; omega)
  have q_18 : (f_4 36 3).toInt = 6 := (congrArg Int32.toInt (show f_4 36 3 = 6 from (Eq.trans ev_10.symm c_17))).trans (by decide)
  refine sg_calli (va_runV (As := [.int 5, .int 2, .int 1, .int 2]) (rest := [.int r_7]) ⟨hx, hb, hml, hown, hts⟩ (kX3_does_5_2_2_f6_f5 l D ca za h hh f_4 L Q hI 1 (Eq.trans ev_10.symm c_17) ((hk_f_4 36 4 (by decide)).trans hf_36_4) (by decide) (by have k0 : (5 : Int32).toInt = 5 := ti_5; have k1 : (2 : Int32).toInt = 2 := ti_2; have k2 : (1 : Int32).toInt = 1 := ti_1; have k3 : (2 : Int32).toInt = 2 := ti_2; omega) H.size) (sl_c3_does_3_0_0_74_3 hts ⟨Nat.le_of_ble_eq_true rfl, Nat.le_of_ble_eq_true rfl⟩) (sl_vX_36 hA hK hP hS hZ) rfl rfl hl.1 rfl (lv_room (Nat.le_of_ble_eq_true rfl)) dX3_runs_144 ⟨Nat.le_refl _, Nat.le_refl _⟩) hA hS (fun r_23 f_20 L_21 Q_22 H locs hq hP hS => ?_)
  obtain ⟨⟨hI, hk_f_20, eL9, eQ9⟩, hq, p_24, u_25⟩ := hq
  rw [eL9, eQ9] at hP; clear eL9 eQ9
  have hF : sgK WkX3_runs_2_m1_2_f2_f5 f f_20 := sgK.tr hF hk_f_20 (by decide +kernel)
  obtain ⟨v_26, ev_26⟩ : ∃ z : Int32, z = f_20 36 3 := ⟨_, rfl⟩
  have q_27 : 0 ≤ v_26.toInt ∧ v_26.toInt ≤ 19 := by rw [ev_26]; exact hI 36 3
  have q_28 : (f_20 36 3).toInt = v_26.toInt := (congrArg Int32.toInt (show f_20 36 3 = v_26 from ev_26.symm))
  have k_30 : (5 : Int32).toInt = 5 := by decide
  have k_31 : (2 : Int32).toInt = 2 := by decide
  have k_32 : (1 : Int32).toInt = 1 := by decide
  have k_33 : (2 : Int32).toInt = 2 := by decide
  refine lv_isub hx hb dX3_runs_147 ?_
  refine lv_topi (fun v_34 ev_34 => ?_)
  exact hret _ _ _ _ (v_34) f_20 L Q dX3_runs_148 hP hS ⟨⟨hI, hF, rfl, rfl⟩, trivial, ⟨by omega, by omega⟩, (Eq.trans (Eq.symm (hs.trans ((spl2_e u_9 (spl_e ev_10 (spl2_e u_25 (spl_e ev_26 (spl_e ev_34 rfl)))))))) hsp)⟩

abbrev WkX3_does_3_3_1_f1_f5 : List (Nat × Nat × Option Nat) := [(36, 36, some 3), (38, 38, some 1), (38, 38, some 2), (38, 38, some 3), (38, 38, some 4), (38, 38, some 5), (38, 38, some 6), (38, 38, some 7)]
set_option maxHeartbeats 4000000 in
set_option maxRecDepth 100000 in
theorem kX3_does_3_3_1_f1_f5 (l : Launch) (D : va_G) (ca : Nat → ClassId) (za h : Nat → Nat) (hh : sgH 52 h) (f : sg_F) (L : sg_L) (Q : sg_Q) (hI : sgI loX hiX f) (x2 : Int32) (hf_36_3 : f 36 3 = 1) (hf_36_4 : f 36 4 = 5) (p0 : 1 ≤ (f 36 3).toInt ∧ (f 36 3).toInt ≤ 1) (sz : Nat) : Met l yX3_does gwX3_does { frames := 9, cells := 0, slots := 0, locals := 224 } (sgP D vwCl (tyX ca) 52 h (eX ca h) zcX za f L Q sz [.ref (h 36), .int 3, .int 3, .int x2, .int 1]) (sgQi D vwCl 52 h (eX ca h) sz (fun r f1 L1 Q1 => ((sgI loX hiX f1 ∧ sgK WkX3_does_3_3_1_f1_f5 f f1 ∧ L1 = L ∧ Q1 = Q) ∧ True ∧ (8 ≤ (f1 36 3).toInt ∧ (f1 36 3).toInt ≤ 8) ∧ (r, f1) = sX3_does_3_3_1_f1_f5 x2 f L))) 0 0 (sgA 52 h sz) := by
  refine sg_ofWi (cc := cX3_does) (maxL := 7) RX3 (by decide) rfl rfl (Nat.le_of_ble_eq_true rfl) ?_
  intro p e s m below meth cd Qz ls hx hb hml hown hts hK hZ hP hS hl hret
  have hA := sgY.self (n := 52) (h := h) (sz := s.heap.size)
  have hl : lv_has ls 7 [(0, .ref (h 36)), (1, .int 3), (2, .int 3), (3, .int x2), (4, .int 1)] := hl
  obtain ⟨H, hH⟩ : ∃ z : Heap, z = s.heap := ⟨_, rfl⟩
  obtain ⟨locs, hlo⟩ : ∃ z : List Loc, z = [] := ⟨_, rfl⟩
  have hP : va_P D vwCl (sgw 52 h (eX ca h) f L Q) H := by rw [hH]; exact hP
  have hS : va_S (sgA 52 h s.heap.size) s.heap H locs := by rw [hH, hlo]; exact hS
  suffices hgo : W p l e ({ frames := 9, cells := 0, slots := 0, locals := 224 }) s m ([.ref (h 36), .int 3, .int 3, .int x2, .int 1] : List Value).toArray below meth cd H locs 0 0 Qz (F0 m 0 ls []) by rw [hH, hlo] at hgo; exact hgo
  clear hH hlo
  obtain ⟨sp, hsp⟩ : ∃ z : Int32 × sg_F, z = sX3_does_3_3_1_f1_f5 x2 f L := ⟨_, rfl⟩
  have hs : sp = sX3_does_3_3_1_f1_f5 x2 f L := hsp
  have o_1 : (f 36 3).toInt = 1 := (congrArg Int32.toInt (show f 36 3 = 1 from hf_36_3)).trans (by decide)
  have hF : sgK WkX3_does_3_3_1_f1_f5 f f := sgK.rf
  have blk_53 : ∀ (fp_53 : sg_F) (H : Heap) (locs : List Loc) (ls : Array Slot), sp = sX3_does_3_3_1_f1_f5_b53 x2 fp_53 L → 1 ≤ (fp_53 36 3).toInt ∧ (fp_53 36 3).toInt ≤ 1 → 5 ≤ (fp_53 36 4).toInt ∧ (fp_53 36 4).toInt ≤ 5 → sgI loX hiX fp_53 → sgK WkX3_does_3_3_1_f1_f5 f fp_53 → va_P D vwCl (sgw 52 h (eX ca h) fp_53 L Q) H → va_S (sgA 52 h s.heap.size) s.heap H locs → lv_has ls 7 [(0, .ref (h 36)), (3, .int x2), (4, .int 1), (5, .int 0), (6, .int 2)] → W p l e ({ frames := 9, cells := 0, slots := 0, locals := 224 }) s m ([.ref (h 36), .int 3, .int 3, .int x2, .int 1] : List Value).toArray below meth cd H locs 0 0 Qz (F0 m 53 ls []) := by
    intro fp_53 H locs ls hs hy0_53 hy1_53 hI hF hP hS hl
    obtain ⟨v_2, ev_2⟩ : ∃ z : Int32, z = fp_53 36 3 := ⟨_, rfl⟩
    have q_3 : 0 ≤ v_2.toInt ∧ v_2.toInt ≤ 19 := by rw [ev_2]; exact hI 36 3
    have q_4 : (fp_53 36 3).toInt = v_2.toInt := by rw [ev_2]
    obtain ⟨v_5, ev_5⟩ : ∃ z : Int32, z = fp_53 36 4 := ⟨_, rfl⟩
    have q_6 : 0 ≤ v_5.toInt ∧ v_5.toInt ≤ 7 := by rw [ev_5]; exact hI 36 4
    have q_7 : (fp_53 36 4).toInt = v_5.toInt := by rw [ev_5]
    have m_8 : fp_53 36 4 = 5 := (hF 36 4 (by decide)).trans hf_36_4
    refine lv_aload_n hx hb dX3_does_53 rfl (lv_at hl 0 rfl) ?_
    refine lv_dup hx hb dX3_does_54 rfl ?_
    refine sl_gX_36_3_3 (v := v_2) hx hb hts hown hK hP (show fp_53 36 3 = v_2 from ev_2.symm) dX3_does_55 ?_
    refine lv_iconst (v := 1) hx hb dX3_does_58 ic_1 ?_
    refine lv_iadd hx hb dX3_does_59 ?_
    refine lv_topi (fun v_9 ev_9 => ?_)
    have q_10 : v_9.toInt = v_2.toInt + 1 := by rw [ev_9]; first | exact cm_add ti_1 (by omega) (by omega) | (have k1 : (1 : Int32).toInt = 1 := ti_1; exact (bn_addI (by omega) (by omega)).trans (by omega))
    refine sl_pX_36_3_3 (x := v_9) hx hb hts hown hh hA hK hP hS dX3_does_60 (fun f_11 H locs ef_11 hP hS => ?_)
    have hI : sgI loX hiX f_11 := by rw [ef_11]; exact sgI.put hI 36 3 (show 0 ≤ (v_9 : Int32).toInt ∧ (v_9 : Int32).toInt ≤ 19 from ⟨by omega, by omega⟩)
    have hF : sgK WkX3_does_3_3_1_f1_f5 f f_11 := sgK.put hF ef_11 (by rfl)
    refine lv_aload_n hx hb dX3_does_63 rfl (lv_at hl 0 rfl) ?_
    refine lv_iload hx hb dX3_does_64 (lv_at hl 4 rfl) ?_
    refine sg_gets hx hb hZ 2 rfl hS hown (hts _ (List.mem_cons_of_mem _ mw_174)) (fun _ h9 => h9) dX3_does_66 ?_
    refine lv_iload hx hb dX3_does_69 (lv_at hl 3 rfl) ?_
    refine sg_sald hx hb hZ 2 rfl hS (y := 0) (N := 8) (vp_in_iff.mpr (by decide)) dX3_does_71 ?_
    refine W.eq (g2 := F0 m 72 ls [.int (-1), .int 2, .ref (h 36)]) (by rfl) ?_
    refine lv_iload_n hx hb dX3_does_72 rfl (lv_at hl 1 rfl) ?_
    refine lv_iload hx hb dX3_does_73 (lv_at hl 2 rfl) ?_
    refine lv_iconst (v := 1) hx hb dX3_does_75 ic_1 ?_
    refine lv_iadd hx hb dX3_does_76 ?_
    refine W.eq (g2 := F0 m 77 ls [.int 2, .int x2, .int (-1), .int 2, .ref (h 36)]) (by rw [show (1 + 1 : Int32) = 2 from by decide]) ?_
    have c_12 : v_9 = 2 := Int32.toInt_inj.mp (by have k9 : (2 : Int32).toInt = 2 := ti_2; omega)
    have q_13 : (f_11 36 3).toInt = 2 := (congrArg Int32.toInt (show f_11 36 3 = 2 from (Eq.trans (by rw [ef_11, sg_up_s, sgu_s]) c_12))).trans (by decide)
    refine sg_calli (va_runV (As := [.int 2, .int (-1), .int x2, .int 2]) (rest := []) ⟨hx, hb, hml, hown, hts⟩ (kX3_runs_2_m1_2_f2_f5 l D ca za h hh f_11 L Q hI x2 (Eq.trans (by rw [ef_11, sg_up_s, sgu_s]) c_12) (by rw [ef_11, sg_up_s, sgu_n (by decide)]; exact m_8) (by have k0 : (2 : Int32).toInt = 2 := ti_2; have k1 : ((-1) : Int32).toInt = (-1) := ti_m1; have k3 : (2 : Int32).toInt = 2 := ti_2; omega) H.size) (sl_c3_runs_8_0_0_200_3 hts ⟨Nat.le_of_ble_eq_true rfl, Nat.le_of_ble_eq_true rfl⟩) (sl_vX_36 hA hK hP hS hZ) rfl rfl hl.1 rfl (lv_room (Nat.le_of_ble_eq_true rfl)) dX3_does_77 ⟨Nat.le_refl _, Nat.le_refl _⟩) hA hS (fun r_18 f_15 L_16 Q_17 H locs hq hP hS => ?_)
    obtain ⟨⟨hI, hk_f_15, eL9, eQ9⟩, hq, p_19, u_20⟩ := hq
    rw [eL9, eQ9] at hP; clear eL9 eQ9
    have hF : sgK WkX3_does_3_3_1_f1_f5 f f_15 := sgK.tr hF hk_f_15 (by decide +kernel)
    obtain ⟨v_21, ev_21⟩ : ∃ z : Int32, z = f_15 36 3 := ⟨_, rfl⟩
    have q_22 : 0 ≤ v_21.toInt ∧ v_21.toInt ≤ 19 := by rw [ev_21]; exact hI 36 3
    have q_23 : (f_15 36 3).toInt = v_21.toInt := (congrArg Int32.toInt (show f_15 36 3 = v_21 from ev_21.symm))
    have k_25 : (2 : Int32).toInt = 2 := by decide
    have k_26 : ((-1) : Int32).toInt = (-1) := by decide
    have k_27 : (2 : Int32).toInt = 2 := by decide
    exact hret _ _ _ _ (r_18) f_15 L Q dX3_does_80 hP hS ⟨⟨hI, hF, rfl, rfl⟩, trivial, ⟨by omega, by omega⟩, (Eq.trans (Eq.symm (hs.trans ((spl_e ev_2 (spl_e ev_5 (spl_e ev_9 (spl_e ef_11 (spl2_e u_20 (spl_e ev_21 rfl))))))))) hsp)⟩
  refine lv_iload_n hx hb dX3_does_0 rfl (lv_at hl 1 rfl) ?_
  refine lv_iload_n hx hb dX3_does_1 rfl (lv_at hl 2 rfl) ?_
  refine sg_calli (va_runS (As := [.int 3, .int 3]) (rest := []) ⟨hx, hb, hml, hown, hts⟩ (kX3_ownerOf_3_3 l D ca za h hh f L Q hI H.size) (va_cwS 2 hts (gw_S (fun _ h => List.mem_cons_of_mem _ h) mw_189 mw_190 mw_47 mw_188) rfl rfl rfl hd_yX3_ownerOf.2 ⟨Nat.le_of_ble_eq_true rfl, Nat.le_of_ble_eq_true rfl⟩) (sg_preS hA hK hP hS hZ) rfl rfl hl.1 rfl (lv_room (Nat.le_of_ble_eq_true rfl)) dX3_does_2 ⟨Nat.le_refl _, Nat.le_refl _⟩) hA hS (fun r_33 f_30 L_31 Q_32 H locs hq hP hS => ?_)
  obtain ⟨⟨ef9, eL9, eQ9⟩, hq, u_34⟩ := hq
  rw [ef9, eL9, eQ9] at hP; clear ef9 eL9 eQ9
  obtain rfl : r_33 = 0 := Int32.toInt_inj.mp (by have k9 : (0 : Int32).toInt = 0 := ti_0; omega)
  refine lv_istore (lv' := [(5, .int 0), (0, .ref (h 36)), (1, .int 3), (2, .int 3), (3, .int x2), (4, .int 1)]) hx hb dX3_does_5 hl (by decide) rfl (fun ls hl => ?_)
  refine lv_iload hx hb dX3_does_7 (lv_at hl 0 rfl) ?_
  refine lv_if_lt (tgt := 19) hx hb dX3_does_9 (by decide) (fun c => absurd c (by decide)) (fun c => ?_)
  refine lv_iload hx hb dX3_does_12 (lv_at hl 5 rfl) ?_
  refine lv_bipush (v := 40) hx hb dX3_does_14 bp_40 ?_
  refine lv_icmp_le (tgt := 21) hx hb dX3_does_16 (by decide) (fun c => ?_) (fun c => absurd c (by decide))
  refine sg_gets hx hb hZ 3 rfl hS hown (hts _ (List.mem_cons_of_mem _ mw_173)) (fun _ h9 => h9) dX3_does_21 ?_
  refine lv_iload hx hb dX3_does_24 (lv_at hl 0 rfl) ?_
  refine lv_iconst (v := 4) hx hb dX3_does_26 ic_4 ?_
  refine lv_imul hx hb dX3_does_27 ?_
  refine W.eq (g2 := F0 m 28 ls [.int 0, .ref (za 3)]) (by rw [show (0 * 4 : Int32) = 0 from by decide]) ?_
  refine lv_iload_n hx hb dX3_does_28 rfl (lv_at hl 3 rfl) ?_
  refine lv_iadd hx hb dX3_does_29 ?_
  refine W.eq (g2 := F0 m 30 ls [.int 3, .ref (za 3)]) (by rw [show (0 + 3 : Int32) = 3 from by decide]) ?_
  refine sg_sald hx hb hZ 3 rfl hS (y := 3) (N := 32) (vp_in_iff.mpr (by decide)) dX3_does_30 ?_
  refine W.eq (g2 := F0 m 31 ls [.int 2]) (by rfl) ?_
  refine lv_istore (lv' := [(6, .int 2), (5, .int 0), (0, .ref (h 36)), (1, .int 3), (2, .int 3), (3, .int x2), (4, .int 1)]) hx hb dX3_does_31 hl (by decide) rfl (fun ls hl => ?_)
  refine lv_aload_n hx hb dX3_does_33 rfl (lv_at hl 2 rfl) ?_
  refine sl_gX_36_3_3 (v := 1) hx hb hts hown hK hP (show f 36 3 = 1 from hf_36_3) dX3_does_34 ?_
  refine lv_bipush (v := 24) hx hb dX3_does_37 bp_24 ?_
  refine lv_icmp_ge (tgt := 53) hx hb dX3_does_39 (by decide) (fun c => absurd c (by decide)) (fun c => ?_)
  refine lv_aload_n hx hb dX3_does_42 rfl (lv_at hl 2 rfl) ?_
  refine sl_gX_36_1_3 hx hb hts hown hK hP dX3_does_43 ?_
  refine lv_aload_n hx hb dX3_does_46 rfl (lv_at hl 2 rfl) ?_
  refine sl_gX_36_3_3 (v := 1) hx hb hts hown hK hP (show f 36 3 = 1 from hf_36_3) dX3_does_47 ?_
  refine lv_iload hx hb dX3_does_50 (lv_at hl 0 rfl) ?_
  refine sg_iast hx hb hh hA hK hP hS 38 (by decide) 0 (fun _ => rfl) rfl (i := 1) (x := 2) (vp_in_iff.mpr (by decide)) dX3_does_52 (fun f_35 H locs ef_35 hP hS => ?_)
  have ef_35 : f_35 = sg_up f 38 (sgu (f 38) 1 2) := ef_35
  have hI : sgI loX hiX f_35 := by rw [ef_35]; exact sgI.put hI 38 1 (show 0 ≤ (2 : Int32).toInt ∧ (2 : Int32).toInt ≤ 81 from by decide)
  have hF : sgK WkX3_does_3_3_1_f1_f5 f f_35 := sgK.put hF ef_35 (by rfl)
  exact blk_53 f_35 _ _ _ (hs.trans ((spl_e u_34 (spl_e ef_35 rfl)))) (by have zz36_3 : (f_35 36 3).toInt = 1 := (congrArg Int32.toInt (show f_35 36 3 = 1 from (by rw [ef_35, sg_up_n (by decide)]; exact hf_36_3))).trans (by decide); exact ⟨by omega, by omega⟩) (by have zz36_4 : (f_35 36 4).toInt = 5 := (congrArg Int32.toInt (show f_35 36 4 = 5 from (by rw [ef_35, sg_up_n (by decide)]; exact hf_36_4))).trans (by decide); exact ⟨by omega, by omega⟩) hI hF hP hS (lv_sub hl [2, 5, 6, 1, 0] rfl)

abbrev WkX3_runs_60_3_1_f1_f5 : List (Nat × Nat × Option Nat) := [(36, 36, some 3), (38, 38, some 1), (38, 38, some 2), (38, 38, some 3), (38, 38, some 4), (38, 38, some 5), (38, 38, some 6), (38, 38, some 7)]
set_option maxHeartbeats 4000000 in
set_option maxRecDepth 100000 in
theorem kX3_runs_60_3_1_f1_f5 (l : Launch) (D : va_G) (ca : Nat → ClassId) (za h : Nat → Nat) (hh : sgH 52 h) (f : sg_F) (L : sg_L) (Q : sg_Q) (hI : sgI loX hiX f) (x2 : Int32) (hf_36_3 : f 36 3 = 1) (hf_36_4 : f 36 4 = 5) (p0 : 1 ≤ (f 36 3).toInt ∧ (f 36 3).toInt ≤ 1) (sz : Nat) : Met l yX3_runs gwX3_runs { frames := 10, cells := 0, slots := 0, locals := 250 } (sgP D vwCl (tyX ca) 52 h (eX ca h) zcX za f L Q sz [.ref (h 36), .int 60, .int 3, .int x2, .int 1]) (sgQi D vwCl 52 h (eX ca h) sz (fun r f1 L1 Q1 => ((sgI loX hiX f1 ∧ sgK WkX3_runs_60_3_1_f1_f5 f f1 ∧ L1 = L ∧ Q1 = Q) ∧ True ∧ (8 ≤ (f1 36 3).toInt ∧ (f1 36 3).toInt ≤ 8) ∧ (r, f1) = sX3_runs_60_3_1_f1_f5 x2 f L))) 0 0 (sgA 52 h sz) := by
  refine sg_ofWi (cc := cX3_runs) (maxL := 5) RX3 (by decide) rfl rfl (Nat.le_of_ble_eq_true rfl) ?_
  intro p e s m below meth cd Qz ls hx hb hml hown hts hK hZ hP hS hl hret
  have hA := sgY.self (n := 52) (h := h) (sz := s.heap.size)
  have hl : lv_has ls 5 [(0, .ref (h 36)), (1, .int 60), (2, .int 3), (3, .int x2), (4, .int 1)] := hl
  obtain ⟨H, hH⟩ : ∃ z : Heap, z = s.heap := ⟨_, rfl⟩
  obtain ⟨locs, hlo⟩ : ∃ z : List Loc, z = [] := ⟨_, rfl⟩
  have hP : va_P D vwCl (sgw 52 h (eX ca h) f L Q) H := by rw [hH]; exact hP
  have hS : va_S (sgA 52 h s.heap.size) s.heap H locs := by rw [hH, hlo]; exact hS
  suffices hgo : W p l e ({ frames := 10, cells := 0, slots := 0, locals := 250 }) s m ([.ref (h 36), .int 60, .int 3, .int x2, .int 1] : List Value).toArray below meth cd H locs 0 0 Qz (F0 m 0 ls []) by rw [hH, hlo] at hgo; exact hgo
  clear hH hlo
  obtain ⟨sp, hsp⟩ : ∃ z : Int32 × sg_F, z = sX3_runs_60_3_1_f1_f5 x2 f L := ⟨_, rfl⟩
  have hs : sp = sX3_runs_60_3_1_f1_f5 x2 f L := hsp
  have o_1 : (f 36 3).toInt = 1 := (congrArg Int32.toInt (show f 36 3 = 1 from hf_36_3)).trans (by decide)
  have hF : sgK WkX3_runs_60_3_1_f1_f5 f f := sgK.rf
  refine lv_iload_n hx hb dX3_runs_0 rfl (lv_at hl 1 rfl) ?_
  refine lv_lookup (x := 60) (off := 240) (tgt := 241) hx hb dX3_runs_1 (by decide) (by decide) (by decide) ?_
  refine lv_aload_n hx hb dX3_runs_241 rfl (lv_at hl 0 rfl) ?_
  refine lv_iload_n hx hb dX3_runs_242 rfl (lv_at hl 2 rfl) ?_
  refine lv_iconst (v := 3) hx hb dX3_runs_243 ic_3 ?_
  refine lv_iload_n hx hb dX3_runs_244 rfl (lv_at hl 3 rfl) ?_
  refine lv_iload hx hb dX3_runs_245 (lv_at hl 4 rfl) ?_
  have q_2 : (f 36 3).toInt = 1 := (congrArg Int32.toInt (show f 36 3 = 1 from hf_36_3)).trans (by decide)
  refine sg_calli (va_runV (As := [.int 3, .int 3, .int x2, .int 1]) (rest := []) ⟨hx, hb, hml, hown, hts⟩ (kX3_does_3_3_1_f1_f5 l D ca za h hh f L Q hI x2 hf_36_3 hf_36_4 (by have k0 : (3 : Int32).toInt = 3 := ti_3; have k1 : (3 : Int32).toInt = 3 := ti_3; have k3 : (1 : Int32).toInt = 1 := ti_1; omega) H.size) (sl_c3_does_9_0_0_224_3 hts ⟨Nat.le_of_ble_eq_true rfl, Nat.le_of_ble_eq_true rfl⟩) (sl_vX_36 hA hK hP hS hZ) rfl rfl hl.1 rfl (lv_room (Nat.le_of_ble_eq_true rfl)) dX3_runs_247 ⟨Nat.le_refl _, Nat.le_refl _⟩) hA hS (fun r_7 f_4 L_5 Q_6 H locs hq hP hS => ?_)
  obtain ⟨⟨hI, hk_f_4, eL9, eQ9⟩, hq, p_8, u_9⟩ := hq
  rw [eL9, eQ9] at hP; clear eL9 eQ9
  have hF : sgK WkX3_runs_60_3_1_f1_f5 f f_4 := sgK.tr hF hk_f_4 (by decide +kernel)
  obtain ⟨v_10, ev_10⟩ : ∃ z : Int32, z = f_4 36 3 := ⟨_, rfl⟩
  have q_11 : 0 ≤ v_10.toInt ∧ v_10.toInt ≤ 19 := by rw [ev_10]; exact hI 36 3
  have q_12 : (f_4 36 3).toInt = v_10.toInt := (congrArg Int32.toInt (show f_4 36 3 = v_10 from ev_10.symm))
  have k_14 : (3 : Int32).toInt = 3 := by decide
  have k_15 : (3 : Int32).toInt = 3 := by decide
  have k_16 : (1 : Int32).toInt = 1 := by decide
  refine lv_iconst (v := 5) hx hb dX3_runs_250 ic_5 ?_
  refine lv_ixor hx hb dX3_runs_251 ?_
  refine lv_topi (fun v_17 ev_17 => ?_)
  exact hret _ _ _ _ (v_17) f_4 L Q dX3_runs_252 hP hS ⟨⟨hI, hF, rfl, rfl⟩, trivial, ⟨by omega, by omega⟩, (Eq.trans (Eq.symm (hs.trans ((spl2_e u_9 (spl_e ev_10 (spl_e ev_17 rfl)))))) hsp)⟩

abbrev WkX3_does_5_3_0_f0_f5 : List (Nat × Nat × Option Nat) := [(36, 36, some 3), (38, 38, some 0), (38, 38, some 1), (38, 38, some 2), (38, 38, some 3), (38, 38, some 4), (38, 38, some 5), (38, 38, some 6), (38, 38, some 7)]
set_option maxHeartbeats 4000000 in
set_option maxRecDepth 100000 in
theorem kX3_does_5_3_0_f0_f5 (l : Launch) (D : va_G) (ca : Nat → ClassId) (za h : Nat → Nat) (hh : sgH 52 h) (f : sg_F) (L : sg_L) (Q : sg_Q) (hI : sgI loX hiX f) (x2 : Int32) (hf_36_3 : f 36 3 = 0) (hf_36_4 : f 36 4 = 5) (p0 : 0 ≤ (f 36 3).toInt ∧ (f 36 3).toInt ≤ 0) (sz : Nat) : Met l yX3_does gwX3_does { frames := 11, cells := 0, slots := 0, locals := 274 } (sgP D vwCl (tyX ca) 52 h (eX ca h) zcX za f L Q sz [.ref (h 36), .int 5, .int 3, .int x2, .int 0]) (sgQi D vwCl 52 h (eX ca h) sz (fun r f1 L1 Q1 => ((sgI loX hiX f1 ∧ sgK WkX3_does_5_3_0_f0_f5 f f1 ∧ L1 = L ∧ Q1 = Q) ∧ True ∧ (8 ≤ (f1 36 3).toInt ∧ (f1 36 3).toInt ≤ 8) ∧ (r, f1) = sX3_does_5_3_0_f0_f5 x2 f L))) 0 0 (sgA 52 h sz) := by
  refine sg_ofWi (cc := cX3_does) (maxL := 7) RX3 (by decide) rfl rfl (Nat.le_of_ble_eq_true rfl) ?_
  intro p e s m below meth cd Qz ls hx hb hml hown hts hK hZ hP hS hl hret
  have hA := sgY.self (n := 52) (h := h) (sz := s.heap.size)
  have hl : lv_has ls 7 [(0, .ref (h 36)), (1, .int 5), (2, .int 3), (3, .int x2), (4, .int 0)] := hl
  obtain ⟨H, hH⟩ : ∃ z : Heap, z = s.heap := ⟨_, rfl⟩
  obtain ⟨locs, hlo⟩ : ∃ z : List Loc, z = [] := ⟨_, rfl⟩
  have hP : va_P D vwCl (sgw 52 h (eX ca h) f L Q) H := by rw [hH]; exact hP
  have hS : va_S (sgA 52 h s.heap.size) s.heap H locs := by rw [hH, hlo]; exact hS
  suffices hgo : W p l e ({ frames := 11, cells := 0, slots := 0, locals := 274 }) s m ([.ref (h 36), .int 5, .int 3, .int x2, .int 0] : List Value).toArray below meth cd H locs 0 0 Qz (F0 m 0 ls []) by rw [hH, hlo] at hgo; exact hgo
  clear hH hlo
  obtain ⟨sp, hsp⟩ : ∃ z : Int32 × sg_F, z = sX3_does_5_3_0_f0_f5 x2 f L := ⟨_, rfl⟩
  have hs : sp = sX3_does_5_3_0_f0_f5 x2 f L := hsp
  have o_1 : (f 36 3).toInt = 0 := (congrArg Int32.toInt (show f 36 3 = 0 from hf_36_3)).trans (by decide)
  have hF : sgK WkX3_does_5_3_0_f0_f5 f f := sgK.rf
  have blk_53 : ∀ (fp_53 : sg_F) (H : Heap) (locs : List Loc) (ls : Array Slot), sp = sX3_does_5_3_0_f0_f5_b53 x2 fp_53 L → 0 ≤ (fp_53 36 3).toInt ∧ (fp_53 36 3).toInt ≤ 0 → 5 ≤ (fp_53 36 4).toInt ∧ (fp_53 36 4).toInt ≤ 5 → sgI loX hiX fp_53 → sgK WkX3_does_5_3_0_f0_f5 f fp_53 → va_P D vwCl (sgw 52 h (eX ca h) fp_53 L Q) H → va_S (sgA 52 h s.heap.size) s.heap H locs → lv_has ls 7 [(0, .ref (h 36)), (3, .int x2), (4, .int 0), (5, .int 5), (6, .int 60)] → W p l e ({ frames := 11, cells := 0, slots := 0, locals := 274 }) s m ([.ref (h 36), .int 5, .int 3, .int x2, .int 0] : List Value).toArray below meth cd H locs 0 0 Qz (F0 m 53 ls []) := by
    intro fp_53 H locs ls hs hy0_53 hy1_53 hI hF hP hS hl
    obtain ⟨v_2, ev_2⟩ : ∃ z : Int32, z = fp_53 36 3 := ⟨_, rfl⟩
    have q_3 : 0 ≤ v_2.toInt ∧ v_2.toInt ≤ 19 := by rw [ev_2]; exact hI 36 3
    have q_4 : (fp_53 36 3).toInt = v_2.toInt := by rw [ev_2]
    obtain ⟨v_5, ev_5⟩ : ∃ z : Int32, z = fp_53 36 4 := ⟨_, rfl⟩
    have q_6 : 0 ≤ v_5.toInt ∧ v_5.toInt ≤ 7 := by rw [ev_5]; exact hI 36 4
    have q_7 : (fp_53 36 4).toInt = v_5.toInt := by rw [ev_5]
    have m_8 : fp_53 36 4 = 5 := (hF 36 4 (by decide)).trans hf_36_4
    refine lv_aload_n hx hb dX3_does_53 rfl (lv_at hl 0 rfl) ?_
    refine lv_dup hx hb dX3_does_54 rfl ?_
    refine sl_gX_36_3_3 (v := v_2) hx hb hts hown hK hP (show fp_53 36 3 = v_2 from ev_2.symm) dX3_does_55 ?_
    refine lv_iconst (v := 1) hx hb dX3_does_58 ic_1 ?_
    refine lv_iadd hx hb dX3_does_59 ?_
    refine lv_topi (fun v_9 ev_9 => ?_)
    have q_10 : v_9.toInt = v_2.toInt + 1 := by rw [ev_9]; first | exact cm_add ti_1 (by omega) (by omega) | (have k1 : (1 : Int32).toInt = 1 := ti_1; exact (bn_addI (by omega) (by omega)).trans (by omega))
    refine sl_pX_36_3_3 (x := v_9) hx hb hts hown hh hA hK hP hS dX3_does_60 (fun f_11 H locs ef_11 hP hS => ?_)
    have hI : sgI loX hiX f_11 := by rw [ef_11]; exact sgI.put hI 36 3 (show 0 ≤ (v_9 : Int32).toInt ∧ (v_9 : Int32).toInt ≤ 19 from ⟨by omega, by omega⟩)
    have hF : sgK WkX3_does_5_3_0_f0_f5 f f_11 := sgK.put hF ef_11 (by rfl)
    refine lv_aload_n hx hb dX3_does_63 rfl (lv_at hl 0 rfl) ?_
    refine lv_iload hx hb dX3_does_64 (lv_at hl 4 rfl) ?_
    refine sg_gets hx hb hZ 2 rfl hS hown (hts _ (List.mem_cons_of_mem _ mw_174)) (fun _ h9 => h9) dX3_does_66 ?_
    refine lv_iload hx hb dX3_does_69 (lv_at hl 3 rfl) ?_
    refine sg_sald hx hb hZ 2 rfl hS (y := 5) (N := 8) (vp_in_iff.mpr (by decide)) dX3_does_71 ?_
    refine W.eq (g2 := F0 m 72 ls [.int 3, .int 60, .ref (h 36)]) (by rfl) ?_
    refine lv_iload_n hx hb dX3_does_72 rfl (lv_at hl 1 rfl) ?_
    refine lv_iload hx hb dX3_does_73 (lv_at hl 2 rfl) ?_
    refine lv_iconst (v := 1) hx hb dX3_does_75 ic_1 ?_
    refine lv_iadd hx hb dX3_does_76 ?_
    refine W.eq (g2 := F0 m 77 ls [.int 1, .int x2, .int 3, .int 60, .ref (h 36)]) (by rw [show (0 + 1 : Int32) = 1 from by decide]) ?_
    have c_12 : v_9 = 1 := Int32.toInt_inj.mp (by have k9 : (1 : Int32).toInt = 1 := ti_1; omega)
    have q_13 : (f_11 36 3).toInt = 1 := (congrArg Int32.toInt (show f_11 36 3 = 1 from (Eq.trans (by rw [ef_11, sg_up_s, sgu_s]) c_12))).trans (by decide)
    refine sg_calli (va_runV (As := [.int 60, .int 3, .int x2, .int 1]) (rest := []) ⟨hx, hb, hml, hown, hts⟩ (kX3_runs_60_3_1_f1_f5 l D ca za h hh f_11 L Q hI x2 (Eq.trans (by rw [ef_11, sg_up_s, sgu_s]) c_12) (by rw [ef_11, sg_up_s, sgu_n (by decide)]; exact m_8) (by have k0 : (60 : Int32).toInt = 60 := ti_60; have k1 : (3 : Int32).toInt = 3 := ti_3; have k3 : (1 : Int32).toInt = 1 := ti_1; omega) H.size) (sl_c3_runs_10_0_0_250_3 hts ⟨Nat.le_of_ble_eq_true rfl, Nat.le_of_ble_eq_true rfl⟩) (sl_vX_36 hA hK hP hS hZ) rfl rfl hl.1 rfl (lv_room (Nat.le_of_ble_eq_true rfl)) dX3_does_77 ⟨Nat.le_refl _, Nat.le_refl _⟩) hA hS (fun r_18 f_15 L_16 Q_17 H locs hq hP hS => ?_)
    obtain ⟨⟨hI, hk_f_15, eL9, eQ9⟩, hq, p_19, u_20⟩ := hq
    rw [eL9, eQ9] at hP; clear eL9 eQ9
    have hF : sgK WkX3_does_5_3_0_f0_f5 f f_15 := sgK.tr hF hk_f_15 (by decide +kernel)
    obtain ⟨v_21, ev_21⟩ : ∃ z : Int32, z = f_15 36 3 := ⟨_, rfl⟩
    have q_22 : 0 ≤ v_21.toInt ∧ v_21.toInt ≤ 19 := by rw [ev_21]; exact hI 36 3
    have q_23 : (f_15 36 3).toInt = v_21.toInt := (congrArg Int32.toInt (show f_15 36 3 = v_21 from ev_21.symm))
    have k_25 : (60 : Int32).toInt = 60 := by decide
    have k_26 : (3 : Int32).toInt = 3 := by decide
    have k_27 : (1 : Int32).toInt = 1 := by decide
    exact hret _ _ _ _ (r_18) f_15 L Q dX3_does_80 hP hS ⟨⟨hI, hF, rfl, rfl⟩, trivial, ⟨by omega, by omega⟩, (Eq.trans (Eq.symm (hs.trans ((spl_e ev_2 (spl_e ev_5 (spl_e ev_9 (spl_e ef_11 (spl2_e u_20 (spl_e ev_21 rfl))))))))) hsp)⟩
  refine lv_iload_n hx hb dX3_does_0 rfl (lv_at hl 1 rfl) ?_
  refine lv_iload_n hx hb dX3_does_1 rfl (lv_at hl 2 rfl) ?_
  refine sg_calli (va_runS (As := [.int 5, .int 3]) (rest := []) ⟨hx, hb, hml, hown, hts⟩ (kX3_ownerOf_5_3 l D ca za h hh f L Q hI H.size) (va_cwS 2 hts (gw_S (fun _ h => List.mem_cons_of_mem _ h) mw_189 mw_190 mw_47 mw_188) rfl rfl rfl hd_yX3_ownerOf.2 ⟨Nat.le_of_ble_eq_true rfl, Nat.le_of_ble_eq_true rfl⟩) (sg_preS hA hK hP hS hZ) rfl rfl hl.1 rfl (lv_room (Nat.le_of_ble_eq_true rfl)) dX3_does_2 ⟨Nat.le_refl _, Nat.le_refl _⟩) hA hS (fun r_33 f_30 L_31 Q_32 H locs hq hP hS => ?_)
  obtain ⟨⟨ef9, eL9, eQ9⟩, hq, u_34⟩ := hq
  rw [ef9, eL9, eQ9] at hP; clear ef9 eL9 eQ9
  obtain rfl : r_33 = 5 := Int32.toInt_inj.mp (by have k9 : (5 : Int32).toInt = 5 := ti_5; omega)
  refine lv_istore (lv' := [(5, .int 5), (0, .ref (h 36)), (1, .int 5), (2, .int 3), (3, .int x2), (4, .int 0)]) hx hb dX3_does_5 hl (by decide) rfl (fun ls hl => ?_)
  refine lv_iload hx hb dX3_does_7 (lv_at hl 0 rfl) ?_
  refine lv_if_lt (tgt := 19) hx hb dX3_does_9 (by decide) (fun c => absurd c (by decide)) (fun c => ?_)
  refine lv_iload hx hb dX3_does_12 (lv_at hl 5 rfl) ?_
  refine lv_bipush (v := 40) hx hb dX3_does_14 bp_40 ?_
  refine lv_icmp_le (tgt := 21) hx hb dX3_does_16 (by decide) (fun c => ?_) (fun c => absurd c (by decide))
  refine sg_gets hx hb hZ 3 rfl hS hown (hts _ (List.mem_cons_of_mem _ mw_173)) (fun _ h9 => h9) dX3_does_21 ?_
  refine lv_iload hx hb dX3_does_24 (lv_at hl 0 rfl) ?_
  refine lv_iconst (v := 4) hx hb dX3_does_26 ic_4 ?_
  refine lv_imul hx hb dX3_does_27 ?_
  refine W.eq (g2 := F0 m 28 ls [.int 20, .ref (za 3)]) (by rw [show (5 * 4 : Int32) = 20 from by decide]) ?_
  refine lv_iload_n hx hb dX3_does_28 rfl (lv_at hl 3 rfl) ?_
  refine lv_iadd hx hb dX3_does_29 ?_
  refine W.eq (g2 := F0 m 30 ls [.int 23, .ref (za 3)]) (by rw [show (20 + 3 : Int32) = 23 from by decide]) ?_
  refine sg_sald hx hb hZ 3 rfl hS (y := 23) (N := 32) (vp_in_iff.mpr (by decide)) dX3_does_30 ?_
  refine W.eq (g2 := F0 m 31 ls [.int 60]) (by rfl) ?_
  refine lv_istore (lv' := [(6, .int 60), (5, .int 5), (0, .ref (h 36)), (1, .int 5), (2, .int 3), (3, .int x2), (4, .int 0)]) hx hb dX3_does_31 hl (by decide) rfl (fun ls hl => ?_)
  refine lv_aload_n hx hb dX3_does_33 rfl (lv_at hl 2 rfl) ?_
  refine sl_gX_36_3_3 (v := 0) hx hb hts hown hK hP (show f 36 3 = 0 from hf_36_3) dX3_does_34 ?_
  refine lv_bipush (v := 24) hx hb dX3_does_37 bp_24 ?_
  refine lv_icmp_ge (tgt := 53) hx hb dX3_does_39 (by decide) (fun c => absurd c (by decide)) (fun c => ?_)
  refine lv_aload_n hx hb dX3_does_42 rfl (lv_at hl 2 rfl) ?_
  refine sl_gX_36_1_3 hx hb hts hown hK hP dX3_does_43 ?_
  refine lv_aload_n hx hb dX3_does_46 rfl (lv_at hl 2 rfl) ?_
  refine sl_gX_36_3_3 (v := 0) hx hb hts hown hK hP (show f 36 3 = 0 from hf_36_3) dX3_does_47 ?_
  refine lv_iload hx hb dX3_does_50 (lv_at hl 0 rfl) ?_
  refine sg_iast hx hb hh hA hK hP hS 38 (by decide) 0 (fun _ => rfl) rfl (i := 0) (x := 60) (vp_in_iff.mpr (by decide)) dX3_does_52 (fun f_35 H locs ef_35 hP hS => ?_)
  have ef_35 : f_35 = sg_up f 38 (sgu (f 38) 0 60) := ef_35
  have hI : sgI loX hiX f_35 := by rw [ef_35]; exact sgI.put hI 38 0 (show 0 ≤ (60 : Int32).toInt ∧ (60 : Int32).toInt ≤ 81 from by decide)
  have hF : sgK WkX3_does_5_3_0_f0_f5 f f_35 := sgK.put hF ef_35 (by rfl)
  exact blk_53 f_35 _ _ _ (hs.trans ((spl_e u_34 (spl_e ef_35 rfl)))) (by have zz36_3 : (f_35 36 3).toInt = 0 := (congrArg Int32.toInt (show f_35 36 3 = 0 from (by rw [ef_35, sg_up_n (by decide)]; exact hf_36_3))).trans (by decide); exact ⟨by omega, by omega⟩) (by have zz36_4 : (f_35 36 4).toInt = 5 := (congrArg Int32.toInt (show f_35 36 4 = 5 from (by rw [ef_35, sg_up_n (by decide)]; exact hf_36_4))).trans (by decide); exact ⟨by omega, by omega⟩) hI hF hP hS (lv_sub hl [2, 5, 6, 1, 0] rfl)

set_option maxHeartbeats 4000000 in
set_option maxRecDepth 100000 in
theorem kX3_ownerOf_6_3 (l : Launch) (D : va_G) (ca : Nat → ClassId) (za h : Nat → Nat) (hh : sgH 52 h) (f : sg_F) (L : sg_L) (Q : sg_Q) (hI : sgI loX hiX f) (sz : Nat) : Met l yX3_ownerOf gwX3_ownerOf { frames := 0, cells := 0, slots := 0, locals := 0 } (sgP D vwCl (tyX ca) 52 h (eX ca h) zcX za f L Q sz [.int 6, .int 3]) (sgQi D vwCl 52 h (eX ca h) sz (fun r f1 L1 Q1 => ((f1 = f ∧ L1 = L ∧ Q1 = Q) ∧ (0 ≤ r.toInt ∧ r.toInt ≤ 0) ∧ (r) = sX3_ownerOf_6_3 f L))) 0 0 (sgA 52 h sz) := by
  refine sg_ofWi (cc := cX3_ownerOf) (maxL := 4) RX3 (by decide) rfl rfl (Nat.le_of_ble_eq_true rfl) ?_
  intro p e s m below meth cd Qz ls hx hb hml hown hts hK hZ hP hS hl hret
  have hA := sgY.self (n := 52) (h := h) (sz := s.heap.size)
  have hl : lv_has ls 4 [(0, .int 6), (1, .int 3)] := hl
  obtain ⟨H, hH⟩ : ∃ z : Heap, z = s.heap := ⟨_, rfl⟩
  obtain ⟨locs, hlo⟩ : ∃ z : List Loc, z = [] := ⟨_, rfl⟩
  have hP : va_P D vwCl (sgw 52 h (eX ca h) f L Q) H := by rw [hH]; exact hP
  have hS : va_S (sgA 52 h s.heap.size) s.heap H locs := by rw [hH, hlo]; exact hS
  suffices hgo : W p l e ({ frames := 0, cells := 0, slots := 0, locals := 0 }) s m ([.int 6, .int 3] : List Value).toArray below meth cd H locs 0 0 Qz (F0 m 0 ls []) by rw [hH, hlo] at hgo; exact hgo
  clear hH hlo
  obtain ⟨sp, hsp⟩ : ∃ z : Int32, z = sX3_ownerOf_6_3 f L := ⟨_, rfl⟩
  have hs : sp = sX3_ownerOf_6_3 f L := hsp
  refine lv_iload_n hx hb dX3_ownerOf_0 rfl (lv_at hl 0 rfl) ?_
  refine lv_istore_n (lv' := [(2, .int 6), (0, .int 6), (1, .int 3)]) hx hb dX3_ownerOf_1 rfl hl (by decide) rfl (fun ls hl => ?_)
  refine lv_iconst (v := 0) hx hb dX3_ownerOf_2 ic_0 ?_
  refine lv_istore_n (lv' := [(3, .int 0), (2, .int 6), (0, .int 6), (1, .int 3)]) hx hb dX3_ownerOf_3 rfl hl (by decide) rfl (fun ls hl => ?_)
  refine lv_iload_n hx hb dX3_ownerOf_4 rfl (lv_at hl 0 rfl) ?_
  refine lv_bipush (v := 8) hx hb dX3_ownerOf_5 bp_8 ?_
  refine lv_icmp_ge (tgt := 40) hx hb dX3_ownerOf_7 (by decide) (fun c => absurd c (by decide)) (fun c => ?_)
  refine lv_iload_n hx hb dX3_ownerOf_10 rfl (lv_at hl 1 rfl) ?_
  refine lv_if_lt (tgt := 40) hx hb dX3_ownerOf_11 (by decide) (fun c => absurd c (by decide)) (fun c => ?_)
  refine sg_gets hx hb hZ 3 rfl hS hown (hts _ (List.mem_cons_of_mem _ mw_173)) (fun _ h9 => h9) dX3_ownerOf_14 ?_
  refine lv_iload_n hx hb dX3_ownerOf_17 rfl (lv_at hl 1 rfl) ?_
  refine lv_iconst (v := 4) hx hb dX3_ownerOf_18 ic_4 ?_
  refine lv_imul hx hb dX3_ownerOf_19 ?_
  refine W.eq (g2 := F0 m 20 ls [.int 24, .ref (za 3)]) (by rw [show (6 * 4 : Int32) = 24 from by decide]) ?_
  refine lv_iload_n hx hb dX3_ownerOf_20 rfl (lv_at hl 3 rfl) ?_
  refine lv_iadd hx hb dX3_ownerOf_21 ?_
  refine W.eq (g2 := F0 m 22 ls [.int 27, .ref (za 3)]) (by rw [show (24 + 3 : Int32) = 27 from by decide]) ?_
  refine sg_sald hx hb hZ 3 rfl hS (y := 27) (N := 32) (vp_in_iff.mpr (by decide)) dX3_ownerOf_22 ?_
  refine W.eq (g2 := F0 m 23 ls [.int 0]) (by rfl) ?_
  refine lv_if_eq (tgt := 28) hx hb dX3_ownerOf_23 (by decide) (fun c => ?_) (fun c => absurd c (by decide))
  refine sg_gets hx hb hZ 2 rfl hS hown (hts _ (List.mem_cons_of_mem _ mw_174)) (fun _ h9 => h9) dX3_ownerOf_28 ?_
  refine lv_iload_n hx hb dX3_ownerOf_31 rfl (lv_at hl 1 rfl) ?_
  refine sg_sald hx hb hZ 2 rfl hS (y := 6) (N := 8) (vp_in_iff.mpr (by decide)) dX3_ownerOf_32 ?_
  refine W.eq (g2 := F0 m 33 ls [.int 0]) (by rfl) ?_
  refine lv_istore_n (lv' := [(2, .int 0), (3, .int 0), (0, .int 6), (1, .int 3)]) hx hb dX3_ownerOf_33 rfl hl (by decide) rfl (fun ls hl => ?_)
  refine lv_iinc (v := 1) (lv' := [(3, .int 1), (2, .int 0), (0, .int 6), (1, .int 3)]) hx hb dX3_ownerOf_34 hl (k := 1) rfl (by decide) (by decide) rfl (fun ls hl => ?_)
  refine lv_goto (tgt := 4) hx hb dX3_ownerOf_37 (by decide) ?_
  refine lv_iload_n hx hb dX3_ownerOf_4 rfl (lv_at hl 0 rfl) ?_
  refine lv_bipush (v := 8) hx hb dX3_ownerOf_5 bp_8 ?_
  refine lv_icmp_ge (tgt := 40) hx hb dX3_ownerOf_7 (by decide) (fun c => absurd c (by decide)) (fun c => ?_)
  refine lv_iload_n hx hb dX3_ownerOf_10 rfl (lv_at hl 1 rfl) ?_
  refine lv_if_lt (tgt := 40) hx hb dX3_ownerOf_11 (by decide) (fun c => absurd c (by decide)) (fun c => ?_)
  refine sg_gets hx hb hZ 3 rfl hS hown (hts _ (List.mem_cons_of_mem _ mw_173)) (fun _ h9 => h9) dX3_ownerOf_14 ?_
  refine lv_iload_n hx hb dX3_ownerOf_17 rfl (lv_at hl 1 rfl) ?_
  refine lv_iconst (v := 4) hx hb dX3_ownerOf_18 ic_4 ?_
  refine lv_imul hx hb dX3_ownerOf_19 ?_
  refine W.eq (g2 := F0 m 20 ls [.int 0, .ref (za 3)]) (by rw [show (0 * 4 : Int32) = 0 from by decide]) ?_
  refine lv_iload_n hx hb dX3_ownerOf_20 rfl (lv_at hl 3 rfl) ?_
  refine lv_iadd hx hb dX3_ownerOf_21 ?_
  refine W.eq (g2 := F0 m 22 ls [.int 3, .ref (za 3)]) (by rw [show (0 + 3 : Int32) = 3 from by decide]) ?_
  refine sg_sald hx hb hZ 3 rfl hS (y := 3) (N := 32) (vp_in_iff.mpr (by decide)) dX3_ownerOf_22 ?_
  refine W.eq (g2 := F0 m 23 ls [.int 2]) (by rfl) ?_
  refine lv_if_eq (tgt := 28) hx hb dX3_ownerOf_23 (by decide) (fun c => absurd c (by decide)) (fun c => ?_)
  refine lv_iload_n hx hb dX3_ownerOf_26 rfl (lv_at hl 1 rfl) ?_
  have k99 : (0 : Int32).toInt = 0 := ti_0
  exact hret _ _ _ _ (0) f L Q dX3_ownerOf_27 hP hS ⟨⟨rfl, rfl, rfl⟩, (by decide), (Eq.trans (Eq.symm hs) hsp)⟩

set_option maxHeartbeats 4000000 in
set_option maxRecDepth 100000 in
theorem kX3_runs_1_m1_4_f4_f6 (l : Launch) (D : va_G) (ca : Nat → ClassId) (za h : Nat → Nat) (hh : sgH 52 h) (f : sg_F) (L : sg_L) (Q : sg_Q) (hI : sgI loX hiX f) (x2 : Int32) (hf_36_3 : f 36 3 = 4) (hf_36_4 : f 36 4 = 6) (p0 : 4 ≤ (f 36 3).toInt ∧ (f 36 3).toInt ≤ 4) (sz : Nat) : Met l yX3_runs gwX3_runs { frames := 0, cells := 0, slots := 0, locals := 0 } (sgP D vwCl (tyX ca) 52 h (eX ca h) zcX za f L Q sz [.ref (h 36), .int 1, .int (-1), .int x2, .int 4]) (sgQi D vwCl 52 h (eX ca h) sz (fun r f1 L1 Q1 => ((f1 = f ∧ L1 = L ∧ Q1 = Q) ∧ True ∧ (4 ≤ (f1 36 3).toInt ∧ (f1 36 3).toInt ≤ 4) ∧ (r) = sX3_runs_1_m1_4_f4_f6 x2 f L))) 0 0 (sgA 52 h sz) := by
  refine sg_ofWi (cc := cX3_runs) (maxL := 5) RX3 (by decide) rfl rfl (Nat.le_of_ble_eq_true rfl) ?_
  intro p e s m below meth cd Qz ls hx hb hml hown hts hK hZ hP hS hl hret
  have hA := sgY.self (n := 52) (h := h) (sz := s.heap.size)
  have hl : lv_has ls 5 [(0, .ref (h 36)), (1, .int 1), (2, .int (-1)), (3, .int x2), (4, .int 4)] := hl
  obtain ⟨H, hH⟩ : ∃ z : Heap, z = s.heap := ⟨_, rfl⟩
  obtain ⟨locs, hlo⟩ : ∃ z : List Loc, z = [] := ⟨_, rfl⟩
  have hP : va_P D vwCl (sgw 52 h (eX ca h) f L Q) H := by rw [hH]; exact hP
  have hS : va_S (sgA 52 h s.heap.size) s.heap H locs := by rw [hH, hlo]; exact hS
  suffices hgo : W p l e ({ frames := 0, cells := 0, slots := 0, locals := 0 }) s m ([.ref (h 36), .int 1, .int (-1), .int x2, .int 4] : List Value).toArray below meth cd H locs 0 0 Qz (F0 m 0 ls []) by rw [hH, hlo] at hgo; exact hgo
  clear hH hlo
  obtain ⟨sp, hsp⟩ : ∃ z : Int32, z = sX3_runs_1_m1_4_f4_f6 x2 f L := ⟨_, rfl⟩
  have hs : sp = sX3_runs_1_m1_4_f4_f6 x2 f L := hsp
  have o_1 : (f 36 3).toInt = 4 := (congrArg Int32.toInt (show f 36 3 = 4 from hf_36_3)).trans (by decide)
  refine lv_iload_n hx hb dX3_runs_0 rfl (lv_at hl 1 rfl) ?_
  refine lv_lookup (x := 1) (off := 115) (tgt := 116) hx hb dX3_runs_1 (by decide) (by decide) (by decide) ?_
  refine lv_iload_n hx hb dX3_runs_116 rfl (lv_at hl 3 rfl) ?_
  refine lv_aload_n hx hb dX3_runs_117 rfl (lv_at hl 0 rfl) ?_
  refine sl_gX_36_5_3 (v := (f 36 5)) hx hb hts hown hK hP rfl dX3_runs_118 ?_
  refine lv_topi (fun v_2 ev_2 => ?_)
  have q_3 : 0 ≤ v_2.toInt ∧ v_2.toInt ≤ 49 := by rw [ev_2]; exact hI 36 5
  refine lv_iadd hx hb dX3_runs_121 ?_
  refine lv_topi (fun v_4 ev_4 => ?_)
  have q_5 : (f 36 3).toInt = 4 := (congrArg Int32.toInt (show f 36 3 = 4 from hf_36_3)).trans (by decide)
  exact hret _ _ _ _ (v_4) f L Q dX3_runs_122 hP hS ⟨⟨rfl, rfl, rfl⟩, trivial, ⟨by omega, by omega⟩, (Eq.trans (Eq.symm (hs.trans ((spl_e ev_2 (spl_e ev_4 rfl))))) hsp)⟩

abbrev WkX3_does_0_0_3_f3_f6 : List (Nat × Nat × Option Nat) := [(36, 36, some 3), (38, 38, some 3)]
set_option maxHeartbeats 4000000 in
set_option maxRecDepth 100000 in
theorem kX3_does_0_0_3_f3_f6 (l : Launch) (D : va_G) (ca : Nat → ClassId) (za h : Nat → Nat) (hh : sgH 52 h) (f : sg_F) (L : sg_L) (Q : sg_Q) (hI : sgI loX hiX f) (x2 : Int32) (hf_36_3 : f 36 3 = 3) (hf_36_4 : f 36 4 = 6) (p0 : 3 ≤ (f 36 3).toInt ∧ (f 36 3).toInt ≤ 3) (sz : Nat) : Met l yX3_does gwX3_does { frames := 1, cells := 0, slots := 0, locals := 24 } (sgP D vwCl (tyX ca) 52 h (eX ca h) zcX za f L Q sz [.ref (h 36), .int 0, .int 0, .int x2, .int 3]) (sgQi D vwCl 52 h (eX ca h) sz (fun r f1 L1 Q1 => ((sgI loX hiX f1 ∧ sgK WkX3_does_0_0_3_f3_f6 f f1 ∧ L1 = L ∧ Q1 = Q) ∧ True ∧ (4 ≤ (f1 36 3).toInt ∧ (f1 36 3).toInt ≤ 4) ∧ (r, f1) = sX3_does_0_0_3_f3_f6 x2 f L))) 0 0 (sgA 52 h sz) := by
  refine sg_ofWi (cc := cX3_does) (maxL := 7) RX3 (by decide) rfl rfl (Nat.le_of_ble_eq_true rfl) ?_
  intro p e s m below meth cd Qz ls hx hb hml hown hts hK hZ hP hS hl hret
  have hA := sgY.self (n := 52) (h := h) (sz := s.heap.size)
  have hl : lv_has ls 7 [(0, .ref (h 36)), (1, .int 0), (2, .int 0), (3, .int x2), (4, .int 3)] := hl
  obtain ⟨H, hH⟩ : ∃ z : Heap, z = s.heap := ⟨_, rfl⟩
  obtain ⟨locs, hlo⟩ : ∃ z : List Loc, z = [] := ⟨_, rfl⟩
  have hP : va_P D vwCl (sgw 52 h (eX ca h) f L Q) H := by rw [hH]; exact hP
  have hS : va_S (sgA 52 h s.heap.size) s.heap H locs := by rw [hH, hlo]; exact hS
  suffices hgo : W p l e ({ frames := 1, cells := 0, slots := 0, locals := 24 }) s m ([.ref (h 36), .int 0, .int 0, .int x2, .int 3] : List Value).toArray below meth cd H locs 0 0 Qz (F0 m 0 ls []) by rw [hH, hlo] at hgo; exact hgo
  clear hH hlo
  obtain ⟨sp, hsp⟩ : ∃ z : Int32 × sg_F, z = sX3_does_0_0_3_f3_f6 x2 f L := ⟨_, rfl⟩
  have hs : sp = sX3_does_0_0_3_f3_f6 x2 f L := hsp
  have o_1 : (f 36 3).toInt = 3 := (congrArg Int32.toInt (show f 36 3 = 3 from hf_36_3)).trans (by decide)
  have hF : sgK WkX3_does_0_0_3_f3_f6 f f := sgK.rf
  have blk_53 : ∀ (fp_53 : sg_F) (H : Heap) (locs : List Loc) (ls : Array Slot), sp = sX3_does_0_0_3_f3_f6_b53 x2 fp_53 L → 3 ≤ (fp_53 36 3).toInt ∧ (fp_53 36 3).toInt ≤ 3 → 6 ≤ (fp_53 36 4).toInt ∧ (fp_53 36 4).toInt ≤ 6 → sgI loX hiX fp_53 → sgK WkX3_does_0_0_3_f3_f6 f fp_53 → va_P D vwCl (sgw 52 h (eX ca h) fp_53 L Q) H → va_S (sgA 52 h s.heap.size) s.heap H locs → lv_has ls 7 [(0, .ref (h 36)), (3, .int x2), (4, .int 3), (5, .int 0), (6, .int 1)] → W p l e ({ frames := 1, cells := 0, slots := 0, locals := 24 }) s m ([.ref (h 36), .int 0, .int 0, .int x2, .int 3] : List Value).toArray below meth cd H locs 0 0 Qz (F0 m 53 ls []) := by
    intro fp_53 H locs ls hs hy0_53 hy1_53 hI hF hP hS hl
    obtain ⟨v_2, ev_2⟩ : ∃ z : Int32, z = fp_53 36 3 := ⟨_, rfl⟩
    have q_3 : 0 ≤ v_2.toInt ∧ v_2.toInt ≤ 19 := by rw [ev_2]; exact hI 36 3
    have q_4 : (fp_53 36 3).toInt = v_2.toInt := by rw [ev_2]
    obtain ⟨v_5, ev_5⟩ : ∃ z : Int32, z = fp_53 36 4 := ⟨_, rfl⟩
    have q_6 : 0 ≤ v_5.toInt ∧ v_5.toInt ≤ 7 := by rw [ev_5]; exact hI 36 4
    have q_7 : (fp_53 36 4).toInt = v_5.toInt := by rw [ev_5]
    have m_8 : fp_53 36 4 = 6 := (hF 36 4 (by decide)).trans hf_36_4
    refine lv_aload_n hx hb dX3_does_53 rfl (lv_at hl 0 rfl) ?_
    refine lv_dup hx hb dX3_does_54 rfl ?_
    refine sl_gX_36_3_3 (v := v_2) hx hb hts hown hK hP (show fp_53 36 3 = v_2 from ev_2.symm) dX3_does_55 ?_
    refine lv_iconst (v := 1) hx hb dX3_does_58 ic_1 ?_
    refine lv_iadd hx hb dX3_does_59 ?_
    refine lv_topi (fun v_9 ev_9 => ?_)
    have q_10 : v_9.toInt = v_2.toInt + 1 := by rw [ev_9]; first | exact cm_add ti_1 (by omega) (by omega) | (have k1 : (1 : Int32).toInt = 1 := ti_1; exact (bn_addI (by omega) (by omega)).trans (by omega))
    refine sl_pX_36_3_3 (x := v_9) hx hb hts hown hh hA hK hP hS dX3_does_60 (fun f_11 H locs ef_11 hP hS => ?_)
    have hI : sgI loX hiX f_11 := by rw [ef_11]; exact sgI.put hI 36 3 (show 0 ≤ (v_9 : Int32).toInt ∧ (v_9 : Int32).toInt ≤ 19 from ⟨by omega, by omega⟩)
    have hF : sgK WkX3_does_0_0_3_f3_f6 f f_11 := sgK.put hF ef_11 (by rfl)
    refine lv_aload_n hx hb dX3_does_63 rfl (lv_at hl 0 rfl) ?_
    refine lv_iload hx hb dX3_does_64 (lv_at hl 4 rfl) ?_
    refine sg_gets hx hb hZ 2 rfl hS hown (hts _ (List.mem_cons_of_mem _ mw_174)) (fun _ h9 => h9) dX3_does_66 ?_
    refine lv_iload hx hb dX3_does_69 (lv_at hl 3 rfl) ?_
    refine sg_sald hx hb hZ 2 rfl hS (y := 0) (N := 8) (vp_in_iff.mpr (by decide)) dX3_does_71 ?_
    refine W.eq (g2 := F0 m 72 ls [.int (-1), .int 1, .ref (h 36)]) (by rfl) ?_
    refine lv_iload_n hx hb dX3_does_72 rfl (lv_at hl 1 rfl) ?_
    refine lv_iload hx hb dX3_does_73 (lv_at hl 2 rfl) ?_
    refine lv_iconst (v := 1) hx hb dX3_does_75 ic_1 ?_
    refine lv_iadd hx hb dX3_does_76 ?_
    refine W.eq (g2 := F0 m 77 ls [.int 4, .int x2, .int (-1), .int 1, .ref (h 36)]) (by rw [show (3 + 1 : Int32) = 4 from by decide]) ?_
    have c_12 : v_9 = 4 := Int32.toInt_inj.mp (by have k9 : (4 : Int32).toInt = 4 := ti_4; omega)
    have q_13 : (f_11 36 3).toInt = 4 := (congrArg Int32.toInt (show f_11 36 3 = 4 from (Eq.trans (by rw [ef_11, sg_up_s, sgu_s]) c_12))).trans (by decide)
    refine sg_calli (va_runV (As := [.int 1, .int (-1), .int x2, .int 4]) (rest := []) ⟨hx, hb, hml, hown, hts⟩ (kX3_runs_1_m1_4_f4_f6 l D ca za h hh f_11 L Q hI x2 (Eq.trans (by rw [ef_11, sg_up_s, sgu_s]) c_12) (by rw [ef_11, sg_up_s, sgu_n (by decide)]; exact m_8) (by have k0 : (1 : Int32).toInt = 1 := ti_1; have k1 : ((-1) : Int32).toInt = (-1) := ti_m1; have k3 : (4 : Int32).toInt = 4 := ti_4; omega) H.size) (sl_c3_runs_0_0_0_0_3 hts ⟨Nat.le_of_ble_eq_true rfl, Nat.le_of_ble_eq_true rfl⟩) (sl_vX_36 hA hK hP hS hZ) rfl rfl hl.1 rfl (lv_room (Nat.le_of_ble_eq_true rfl)) dX3_does_77 ⟨Nat.le_refl _, Nat.le_refl _⟩) hA hS (fun r_18 f_15 L_16 Q_17 H locs hq hP hS => ?_)
    obtain ⟨⟨ef9, eL9, eQ9⟩, hq, p_19, u_20⟩ := hq
    rw [ef9, eL9, eQ9] at hP; clear ef9 eL9 eQ9
    have k_23 : (1 : Int32).toInt = 1 := by decide
    have k_24 : ((-1) : Int32).toInt = (-1) := by decide
    have k_25 : (4 : Int32).toInt = 4 := by decide
    exact hret _ _ _ _ (r_18) f_11 L Q dX3_does_80 hP hS ⟨⟨hI, hF, rfl, rfl⟩, trivial, ⟨by omega, by omega⟩, (Eq.trans (Eq.symm (hs.trans ((spl_e ev_2 (spl_e ev_5 (spl_e ev_9 (spl_e ef_11 (spl_e u_20 rfl)))))))) hsp)⟩
  refine lv_iload_n hx hb dX3_does_0 rfl (lv_at hl 1 rfl) ?_
  refine lv_iload_n hx hb dX3_does_1 rfl (lv_at hl 2 rfl) ?_
  refine sg_calli (va_runS (As := [.int 0, .int 0]) (rest := []) ⟨hx, hb, hml, hown, hts⟩ (kX3_ownerOf_0_0 l D ca za h hh f L Q hI H.size) (va_cwS 2 hts (gw_S (fun _ h => List.mem_cons_of_mem _ h) mw_189 mw_190 mw_47 mw_188) rfl rfl rfl hd_yX3_ownerOf.2 ⟨Nat.le_of_ble_eq_true rfl, Nat.le_of_ble_eq_true rfl⟩) (sg_preS hA hK hP hS hZ) rfl rfl hl.1 rfl (lv_room (Nat.le_of_ble_eq_true rfl)) dX3_does_2 ⟨Nat.le_refl _, Nat.le_refl _⟩) hA hS (fun r_31 f_28 L_29 Q_30 H locs hq hP hS => ?_)
  obtain ⟨⟨ef9, eL9, eQ9⟩, hq, u_32⟩ := hq
  rw [ef9, eL9, eQ9] at hP; clear ef9 eL9 eQ9
  obtain rfl : r_31 = 0 := Int32.toInt_inj.mp (by have k9 : (0 : Int32).toInt = 0 := ti_0; omega)
  refine lv_istore (lv' := [(5, .int 0), (0, .ref (h 36)), (1, .int 0), (2, .int 0), (3, .int x2), (4, .int 3)]) hx hb dX3_does_5 hl (by decide) rfl (fun ls hl => ?_)
  refine lv_iload hx hb dX3_does_7 (lv_at hl 0 rfl) ?_
  refine lv_if_lt (tgt := 19) hx hb dX3_does_9 (by decide) (fun c => absurd c (by decide)) (fun c => ?_)
  refine lv_iload hx hb dX3_does_12 (lv_at hl 5 rfl) ?_
  refine lv_bipush (v := 40) hx hb dX3_does_14 bp_40 ?_
  refine lv_icmp_le (tgt := 21) hx hb dX3_does_16 (by decide) (fun c => ?_) (fun c => absurd c (by decide))
  refine sg_gets hx hb hZ 3 rfl hS hown (hts _ (List.mem_cons_of_mem _ mw_173)) (fun _ h9 => h9) dX3_does_21 ?_
  refine lv_iload hx hb dX3_does_24 (lv_at hl 0 rfl) ?_
  refine lv_iconst (v := 4) hx hb dX3_does_26 ic_4 ?_
  refine lv_imul hx hb dX3_does_27 ?_
  refine W.eq (g2 := F0 m 28 ls [.int 0, .ref (za 3)]) (by rw [show (0 * 4 : Int32) = 0 from by decide]) ?_
  refine lv_iload_n hx hb dX3_does_28 rfl (lv_at hl 3 rfl) ?_
  refine lv_iadd hx hb dX3_does_29 ?_
  refine W.eq (g2 := F0 m 30 ls [.int 0, .ref (za 3)]) (by rw [show (0 + 0 : Int32) = 0 from by decide]) ?_
  refine sg_sald hx hb hZ 3 rfl hS (y := 0) (N := 32) (vp_in_iff.mpr (by decide)) dX3_does_30 ?_
  refine W.eq (g2 := F0 m 31 ls [.int 1]) (by rfl) ?_
  refine lv_istore (lv' := [(6, .int 1), (5, .int 0), (0, .ref (h 36)), (1, .int 0), (2, .int 0), (3, .int x2), (4, .int 3)]) hx hb dX3_does_31 hl (by decide) rfl (fun ls hl => ?_)
  refine lv_aload_n hx hb dX3_does_33 rfl (lv_at hl 2 rfl) ?_
  refine sl_gX_36_3_3 (v := 3) hx hb hts hown hK hP (show f 36 3 = 3 from hf_36_3) dX3_does_34 ?_
  refine lv_bipush (v := 24) hx hb dX3_does_37 bp_24 ?_
  refine lv_icmp_ge (tgt := 53) hx hb dX3_does_39 (by decide) (fun c => absurd c (by decide)) (fun c => ?_)
  refine lv_aload_n hx hb dX3_does_42 rfl (lv_at hl 2 rfl) ?_
  refine sl_gX_36_1_3 hx hb hts hown hK hP dX3_does_43 ?_
  refine lv_aload_n hx hb dX3_does_46 rfl (lv_at hl 2 rfl) ?_
  refine sl_gX_36_3_3 (v := 3) hx hb hts hown hK hP (show f 36 3 = 3 from hf_36_3) dX3_does_47 ?_
  refine lv_iload hx hb dX3_does_50 (lv_at hl 0 rfl) ?_
  refine sg_iast hx hb hh hA hK hP hS 38 (by decide) 0 (fun _ => rfl) rfl (i := 3) (x := 1) (vp_in_iff.mpr (by decide)) dX3_does_52 (fun f_33 H locs ef_33 hP hS => ?_)
  have ef_33 : f_33 = sg_up f 38 (sgu (f 38) 3 1) := ef_33
  have hI : sgI loX hiX f_33 := by rw [ef_33]; exact sgI.put hI 38 3 (show 0 ≤ (1 : Int32).toInt ∧ (1 : Int32).toInt ≤ 81 from by decide)
  have hF : sgK WkX3_does_0_0_3_f3_f6 f f_33 := sgK.put hF ef_33 (by rfl)
  exact blk_53 f_33 _ _ _ (hs.trans ((spl_e u_32 (spl_e ef_33 rfl)))) (by have zz36_3 : (f_33 36 3).toInt = 3 := (congrArg Int32.toInt (show f_33 36 3 = 3 from (by rw [ef_33, sg_up_n (by decide)]; exact hf_36_3))).trans (by decide); exact ⟨by omega, by omega⟩) (by have zz36_4 : (f_33 36 4).toInt = 6 := (congrArg Int32.toInt (show f_33 36 4 = 6 from (by rw [ef_33, sg_up_n (by decide)]; exact hf_36_4))).trans (by decide); exact ⟨by omega, by omega⟩) hI hF hP hS (lv_sub hl [2, 5, 6, 1, 0] rfl)

abbrev WkX3_runs_70_0_3_f3_f6 : List (Nat × Nat × Option Nat) := [(36, 36, some 3), (38, 38, some 3)]
set_option maxHeartbeats 4000000 in
set_option maxRecDepth 100000 in
theorem kX3_runs_70_0_3_f3_f6 (l : Launch) (D : va_G) (ca : Nat → ClassId) (za h : Nat → Nat) (hh : sgH 52 h) (f : sg_F) (L : sg_L) (Q : sg_Q) (hI : sgI loX hiX f) (x2 : Int32) (hf_36_3 : f 36 3 = 3) (hf_36_4 : f 36 4 = 6) (p0 : 3 ≤ (f 36 3).toInt ∧ (f 36 3).toInt ≤ 3) (sz : Nat) : Met l yX3_runs gwX3_runs { frames := 2, cells := 0, slots := 0, locals := 50 } (sgP D vwCl (tyX ca) 52 h (eX ca h) zcX za f L Q sz [.ref (h 36), .int 70, .int 0, .int x2, .int 3]) (sgQi D vwCl 52 h (eX ca h) sz (fun r f1 L1 Q1 => ((sgI loX hiX f1 ∧ sgK WkX3_runs_70_0_3_f3_f6 f f1 ∧ L1 = L ∧ Q1 = Q) ∧ True ∧ (4 ≤ (f1 36 3).toInt ∧ (f1 36 3).toInt ≤ 4) ∧ (r, f1) = sX3_runs_70_0_3_f3_f6 x2 f L))) 0 0 (sgA 52 h sz) := by
  refine sg_ofWi (cc := cX3_runs) (maxL := 5) RX3 (by decide) rfl rfl (Nat.le_of_ble_eq_true rfl) ?_
  intro p e s m below meth cd Qz ls hx hb hml hown hts hK hZ hP hS hl hret
  have hA := sgY.self (n := 52) (h := h) (sz := s.heap.size)
  have hl : lv_has ls 5 [(0, .ref (h 36)), (1, .int 70), (2, .int 0), (3, .int x2), (4, .int 3)] := hl
  obtain ⟨H, hH⟩ : ∃ z : Heap, z = s.heap := ⟨_, rfl⟩
  obtain ⟨locs, hlo⟩ : ∃ z : List Loc, z = [] := ⟨_, rfl⟩
  have hP : va_P D vwCl (sgw 52 h (eX ca h) f L Q) H := by rw [hH]; exact hP
  have hS : va_S (sgA 52 h s.heap.size) s.heap H locs := by rw [hH, hlo]; exact hS
  suffices hgo : W p l e ({ frames := 2, cells := 0, slots := 0, locals := 50 }) s m ([.ref (h 36), .int 70, .int 0, .int x2, .int 3] : List Value).toArray below meth cd H locs 0 0 Qz (F0 m 0 ls []) by rw [hH, hlo] at hgo; exact hgo
  clear hH hlo
  obtain ⟨sp, hsp⟩ : ∃ z : Int32 × sg_F, z = sX3_runs_70_0_3_f3_f6 x2 f L := ⟨_, rfl⟩
  have hs : sp = sX3_runs_70_0_3_f3_f6 x2 f L := hsp
  have o_1 : (f 36 3).toInt = 3 := (congrArg Int32.toInt (show f 36 3 = 3 from hf_36_3)).trans (by decide)
  have hF : sgK WkX3_runs_70_0_3_f3_f6 f f := sgK.rf
  refine lv_iload_n hx hb dX3_runs_0 rfl (lv_at hl 1 rfl) ?_
  refine lv_lookup (x := 70) (off := 252) (tgt := 253) hx hb dX3_runs_1 (by decide) (by decide) (by decide) ?_
  refine lv_aload_n hx hb dX3_runs_253 rfl (lv_at hl 0 rfl) ?_
  refine lv_iload_n hx hb dX3_runs_254 rfl (lv_at hl 2 rfl) ?_
  refine lv_iconst (v := 0) hx hb dX3_runs_255 ic_0 ?_
  refine lv_iload_n hx hb dX3_runs_256 rfl (lv_at hl 3 rfl) ?_
  refine lv_iload hx hb dX3_runs_257 (lv_at hl 4 rfl) ?_
  have q_2 : (f 36 3).toInt = 3 := (congrArg Int32.toInt (show f 36 3 = 3 from hf_36_3)).trans (by decide)
  refine sg_calli (va_runV (As := [.int 0, .int 0, .int x2, .int 3]) (rest := []) ⟨hx, hb, hml, hown, hts⟩ (kX3_does_0_0_3_f3_f6 l D ca za h hh f L Q hI x2 hf_36_3 hf_36_4 (by have k0 : (0 : Int32).toInt = 0 := ti_0; have k1 : (0 : Int32).toInt = 0 := ti_0; have k3 : (3 : Int32).toInt = 3 := ti_3; omega) H.size) (sl_c3_does_1_0_0_24_3 hts ⟨Nat.le_of_ble_eq_true rfl, Nat.le_of_ble_eq_true rfl⟩) (sl_vX_36 hA hK hP hS hZ) rfl rfl hl.1 rfl (lv_room (Nat.le_of_ble_eq_true rfl)) dX3_runs_259 ⟨Nat.le_refl _, Nat.le_refl _⟩) hA hS (fun r_7 f_4 L_5 Q_6 H locs hq hP hS => ?_)
  obtain ⟨⟨hI, hk_f_4, eL9, eQ9⟩, hq, p_8, u_9⟩ := hq
  rw [eL9, eQ9] at hP; clear eL9 eQ9
  have hF : sgK WkX3_runs_70_0_3_f3_f6 f f_4 := sgK.tr hF hk_f_4 (by decide +kernel)
  obtain ⟨v_10, ev_10⟩ : ∃ z : Int32, z = f_4 36 3 := ⟨_, rfl⟩
  have q_11 : 0 ≤ v_10.toInt ∧ v_10.toInt ≤ 19 := by rw [ev_10]; exact hI 36 3
  have q_12 : (f_4 36 3).toInt = v_10.toInt := (congrArg Int32.toInt (show f_4 36 3 = v_10 from ev_10.symm))
  have k_14 : (0 : Int32).toInt = 0 := by decide
  have k_15 : (0 : Int32).toInt = 0 := by decide
  have k_16 : (3 : Int32).toInt = 3 := by decide
  refine lv_iconst (v := 2) hx hb dX3_runs_262 ic_2 ?_
  refine lv_imul hx hb dX3_runs_263 ?_
  refine lv_topi (fun v_17 ev_17 => ?_)
  exact hret _ _ _ _ (v_17) f_4 L Q dX3_runs_264 hP hS ⟨⟨hI, hF, rfl, rfl⟩, trivial, ⟨by omega, by omega⟩, (Eq.trans (Eq.symm (hs.trans ((spl2_e u_9 (spl_e ev_10 (spl_e ev_17 rfl)))))) hsp)⟩

abbrev WkX3_does_6_0_2_f2_f6 : List (Nat × Nat × Option Nat) := [(36, 36, some 3), (38, 38, some 2), (38, 38, some 3)]
set_option maxHeartbeats 4000000 in
set_option maxRecDepth 100000 in
theorem kX3_does_6_0_2_f2_f6 (l : Launch) (D : va_G) (ca : Nat → ClassId) (za h : Nat → Nat) (hh : sgH 52 h) (f : sg_F) (L : sg_L) (Q : sg_Q) (hI : sgI loX hiX f) (x2 : Int32) (hf_36_3 : f 36 3 = 2) (hf_36_4 : f 36 4 = 6) (p0 : 2 ≤ (f 36 3).toInt ∧ (f 36 3).toInt ≤ 2) (sz : Nat) : Met l yX3_does gwX3_does { frames := 3, cells := 0, slots := 0, locals := 74 } (sgP D vwCl (tyX ca) 52 h (eX ca h) zcX za f L Q sz [.ref (h 36), .int 6, .int 0, .int x2, .int 2]) (sgQi D vwCl 52 h (eX ca h) sz (fun r f1 L1 Q1 => ((sgI loX hiX f1 ∧ sgK WkX3_does_6_0_2_f2_f6 f f1 ∧ L1 = L ∧ Q1 = Q) ∧ True ∧ (4 ≤ (f1 36 3).toInt ∧ (f1 36 3).toInt ≤ 4) ∧ (r, f1) = sX3_does_6_0_2_f2_f6 x2 f L))) 0 0 (sgA 52 h sz) := by
  refine sg_ofWi (cc := cX3_does) (maxL := 7) RX3 (by decide) rfl rfl (Nat.le_of_ble_eq_true rfl) ?_
  intro p e s m below meth cd Qz ls hx hb hml hown hts hK hZ hP hS hl hret
  have hA := sgY.self (n := 52) (h := h) (sz := s.heap.size)
  have hl : lv_has ls 7 [(0, .ref (h 36)), (1, .int 6), (2, .int 0), (3, .int x2), (4, .int 2)] := hl
  obtain ⟨H, hH⟩ : ∃ z : Heap, z = s.heap := ⟨_, rfl⟩
  obtain ⟨locs, hlo⟩ : ∃ z : List Loc, z = [] := ⟨_, rfl⟩
  have hP : va_P D vwCl (sgw 52 h (eX ca h) f L Q) H := by rw [hH]; exact hP
  have hS : va_S (sgA 52 h s.heap.size) s.heap H locs := by rw [hH, hlo]; exact hS
  suffices hgo : W p l e ({ frames := 3, cells := 0, slots := 0, locals := 74 }) s m ([.ref (h 36), .int 6, .int 0, .int x2, .int 2] : List Value).toArray below meth cd H locs 0 0 Qz (F0 m 0 ls []) by rw [hH, hlo] at hgo; exact hgo
  clear hH hlo
  obtain ⟨sp, hsp⟩ : ∃ z : Int32 × sg_F, z = sX3_does_6_0_2_f2_f6 x2 f L := ⟨_, rfl⟩
  have hs : sp = sX3_does_6_0_2_f2_f6 x2 f L := hsp
  have o_1 : (f 36 3).toInt = 2 := (congrArg Int32.toInt (show f 36 3 = 2 from hf_36_3)).trans (by decide)
  have hF : sgK WkX3_does_6_0_2_f2_f6 f f := sgK.rf
  have blk_53 : ∀ (fp_53 : sg_F) (H : Heap) (locs : List Loc) (ls : Array Slot), sp = sX3_does_6_0_2_f2_f6_b53 x2 fp_53 L → 2 ≤ (fp_53 36 3).toInt ∧ (fp_53 36 3).toInt ≤ 2 → 6 ≤ (fp_53 36 4).toInt ∧ (fp_53 36 4).toInt ≤ 6 → sgI loX hiX fp_53 → sgK WkX3_does_6_0_2_f2_f6 f fp_53 → va_P D vwCl (sgw 52 h (eX ca h) fp_53 L Q) H → va_S (sgA 52 h s.heap.size) s.heap H locs → lv_has ls 7 [(0, .ref (h 36)), (3, .int x2), (4, .int 2), (5, .int 6), (6, .int 70)] → W p l e ({ frames := 3, cells := 0, slots := 0, locals := 74 }) s m ([.ref (h 36), .int 6, .int 0, .int x2, .int 2] : List Value).toArray below meth cd H locs 0 0 Qz (F0 m 53 ls []) := by
    intro fp_53 H locs ls hs hy0_53 hy1_53 hI hF hP hS hl
    obtain ⟨v_2, ev_2⟩ : ∃ z : Int32, z = fp_53 36 3 := ⟨_, rfl⟩
    have q_3 : 0 ≤ v_2.toInt ∧ v_2.toInt ≤ 19 := by rw [ev_2]; exact hI 36 3
    have q_4 : (fp_53 36 3).toInt = v_2.toInt := by rw [ev_2]
    obtain ⟨v_5, ev_5⟩ : ∃ z : Int32, z = fp_53 36 4 := ⟨_, rfl⟩
    have q_6 : 0 ≤ v_5.toInt ∧ v_5.toInt ≤ 7 := by rw [ev_5]; exact hI 36 4
    have q_7 : (fp_53 36 4).toInt = v_5.toInt := by rw [ev_5]
    have m_8 : fp_53 36 4 = 6 := (hF 36 4 (by decide)).trans hf_36_4
    refine lv_aload_n hx hb dX3_does_53 rfl (lv_at hl 0 rfl) ?_
    refine lv_dup hx hb dX3_does_54 rfl ?_
    refine sl_gX_36_3_3 (v := v_2) hx hb hts hown hK hP (show fp_53 36 3 = v_2 from ev_2.symm) dX3_does_55 ?_
    refine lv_iconst (v := 1) hx hb dX3_does_58 ic_1 ?_
    refine lv_iadd hx hb dX3_does_59 ?_
    refine lv_topi (fun v_9 ev_9 => ?_)
    have q_10 : v_9.toInt = v_2.toInt + 1 := by rw [ev_9]; first | exact cm_add ti_1 (by omega) (by omega) | (have k1 : (1 : Int32).toInt = 1 := ti_1; exact (bn_addI (by omega) (by omega)).trans (by omega))
    refine sl_pX_36_3_3 (x := v_9) hx hb hts hown hh hA hK hP hS dX3_does_60 (fun f_11 H locs ef_11 hP hS => ?_)
    have hI : sgI loX hiX f_11 := by rw [ef_11]; exact sgI.put hI 36 3 (show 0 ≤ (v_9 : Int32).toInt ∧ (v_9 : Int32).toInt ≤ 19 from ⟨by omega, by omega⟩)
    have hF : sgK WkX3_does_6_0_2_f2_f6 f f_11 := sgK.put hF ef_11 (by rfl)
    refine lv_aload_n hx hb dX3_does_63 rfl (lv_at hl 0 rfl) ?_
    refine lv_iload hx hb dX3_does_64 (lv_at hl 4 rfl) ?_
    refine sg_gets hx hb hZ 2 rfl hS hown (hts _ (List.mem_cons_of_mem _ mw_174)) (fun _ h9 => h9) dX3_does_66 ?_
    refine lv_iload hx hb dX3_does_69 (lv_at hl 3 rfl) ?_
    refine sg_sald hx hb hZ 2 rfl hS (y := 6) (N := 8) (vp_in_iff.mpr (by decide)) dX3_does_71 ?_
    refine W.eq (g2 := F0 m 72 ls [.int 0, .int 70, .ref (h 36)]) (by rfl) ?_
    refine lv_iload_n hx hb dX3_does_72 rfl (lv_at hl 1 rfl) ?_
    refine lv_iload hx hb dX3_does_73 (lv_at hl 2 rfl) ?_
    refine lv_iconst (v := 1) hx hb dX3_does_75 ic_1 ?_
    refine lv_iadd hx hb dX3_does_76 ?_
    refine W.eq (g2 := F0 m 77 ls [.int 3, .int x2, .int 0, .int 70, .ref (h 36)]) (by rw [show (2 + 1 : Int32) = 3 from by decide]) ?_
    have c_12 : v_9 = 3 := Int32.toInt_inj.mp (by have k9 : (3 : Int32).toInt = 3 := ti_3; omega)
    have q_13 : (f_11 36 3).toInt = 3 := (congrArg Int32.toInt (show f_11 36 3 = 3 from (Eq.trans (by rw [ef_11, sg_up_s, sgu_s]) c_12))).trans (by decide)
    refine sg_calli (va_runV (As := [.int 70, .int 0, .int x2, .int 3]) (rest := []) ⟨hx, hb, hml, hown, hts⟩ (kX3_runs_70_0_3_f3_f6 l D ca za h hh f_11 L Q hI x2 (Eq.trans (by rw [ef_11, sg_up_s, sgu_s]) c_12) (by rw [ef_11, sg_up_s, sgu_n (by decide)]; exact m_8) (by have k0 : (70 : Int32).toInt = 70 := ti_70; have k1 : (0 : Int32).toInt = 0 := ti_0; have k3 : (3 : Int32).toInt = 3 := ti_3; omega) H.size) (sl_c3_runs_2_0_0_50_3 hts ⟨Nat.le_of_ble_eq_true rfl, Nat.le_of_ble_eq_true rfl⟩) (sl_vX_36 hA hK hP hS hZ) rfl rfl hl.1 rfl (lv_room (Nat.le_of_ble_eq_true rfl)) dX3_does_77 ⟨Nat.le_refl _, Nat.le_refl _⟩) hA hS (fun r_18 f_15 L_16 Q_17 H locs hq hP hS => ?_)
    obtain ⟨⟨hI, hk_f_15, eL9, eQ9⟩, hq, p_19, u_20⟩ := hq
    rw [eL9, eQ9] at hP; clear eL9 eQ9
    have hF : sgK WkX3_does_6_0_2_f2_f6 f f_15 := sgK.tr hF hk_f_15 (by decide +kernel)
    obtain ⟨v_21, ev_21⟩ : ∃ z : Int32, z = f_15 36 3 := ⟨_, rfl⟩
    have q_22 : 0 ≤ v_21.toInt ∧ v_21.toInt ≤ 19 := by rw [ev_21]; exact hI 36 3
    have q_23 : (f_15 36 3).toInt = v_21.toInt := (congrArg Int32.toInt (show f_15 36 3 = v_21 from ev_21.symm))
    have k_25 : (70 : Int32).toInt = 70 := by decide
    have k_26 : (0 : Int32).toInt = 0 := by decide
    have k_27 : (3 : Int32).toInt = 3 := by decide
    exact hret _ _ _ _ (r_18) f_15 L Q dX3_does_80 hP hS ⟨⟨hI, hF, rfl, rfl⟩, trivial, ⟨by omega, by omega⟩, (Eq.trans (Eq.symm (hs.trans ((spl_e ev_2 (spl_e ev_5 (spl_e ev_9 (spl_e ef_11 (spl2_e u_20 (spl_e ev_21 rfl))))))))) hsp)⟩
  refine lv_iload_n hx hb dX3_does_0 rfl (lv_at hl 1 rfl) ?_
  refine lv_iload_n hx hb dX3_does_1 rfl (lv_at hl 2 rfl) ?_
  refine sg_calli (va_runS (As := [.int 6, .int 0]) (rest := []) ⟨hx, hb, hml, hown, hts⟩ (kX3_ownerOf_6_0 l D ca za h hh f L Q hI H.size) (va_cwS 2 hts (gw_S (fun _ h => List.mem_cons_of_mem _ h) mw_189 mw_190 mw_47 mw_188) rfl rfl rfl hd_yX3_ownerOf.2 ⟨Nat.le_of_ble_eq_true rfl, Nat.le_of_ble_eq_true rfl⟩) (sg_preS hA hK hP hS hZ) rfl rfl hl.1 rfl (lv_room (Nat.le_of_ble_eq_true rfl)) dX3_does_2 ⟨Nat.le_refl _, Nat.le_refl _⟩) hA hS (fun r_33 f_30 L_31 Q_32 H locs hq hP hS => ?_)
  obtain ⟨⟨ef9, eL9, eQ9⟩, hq, u_34⟩ := hq
  rw [ef9, eL9, eQ9] at hP; clear ef9 eL9 eQ9
  obtain rfl : r_33 = 6 := Int32.toInt_inj.mp (by have k9 : (6 : Int32).toInt = 6 := ti_6; omega)
  refine lv_istore (lv' := [(5, .int 6), (0, .ref (h 36)), (1, .int 6), (2, .int 0), (3, .int x2), (4, .int 2)]) hx hb dX3_does_5 hl (by decide) rfl (fun ls hl => ?_)
  refine lv_iload hx hb dX3_does_7 (lv_at hl 0 rfl) ?_
  refine lv_if_lt (tgt := 19) hx hb dX3_does_9 (by decide) (fun c => absurd c (by decide)) (fun c => ?_)
  refine lv_iload hx hb dX3_does_12 (lv_at hl 5 rfl) ?_
  refine lv_bipush (v := 40) hx hb dX3_does_14 bp_40 ?_
  refine lv_icmp_le (tgt := 21) hx hb dX3_does_16 (by decide) (fun c => ?_) (fun c => absurd c (by decide))
  refine sg_gets hx hb hZ 3 rfl hS hown (hts _ (List.mem_cons_of_mem _ mw_173)) (fun _ h9 => h9) dX3_does_21 ?_
  refine lv_iload hx hb dX3_does_24 (lv_at hl 0 rfl) ?_
  refine lv_iconst (v := 4) hx hb dX3_does_26 ic_4 ?_
  refine lv_imul hx hb dX3_does_27 ?_
  refine W.eq (g2 := F0 m 28 ls [.int 24, .ref (za 3)]) (by rw [show (6 * 4 : Int32) = 24 from by decide]) ?_
  refine lv_iload_n hx hb dX3_does_28 rfl (lv_at hl 3 rfl) ?_
  refine lv_iadd hx hb dX3_does_29 ?_
  refine W.eq (g2 := F0 m 30 ls [.int 24, .ref (za 3)]) (by rw [show (24 + 0 : Int32) = 24 from by decide]) ?_
  refine sg_sald hx hb hZ 3 rfl hS (y := 24) (N := 32) (vp_in_iff.mpr (by decide)) dX3_does_30 ?_
  refine W.eq (g2 := F0 m 31 ls [.int 70]) (by rfl) ?_
  refine lv_istore (lv' := [(6, .int 70), (5, .int 6), (0, .ref (h 36)), (1, .int 6), (2, .int 0), (3, .int x2), (4, .int 2)]) hx hb dX3_does_31 hl (by decide) rfl (fun ls hl => ?_)
  refine lv_aload_n hx hb dX3_does_33 rfl (lv_at hl 2 rfl) ?_
  refine sl_gX_36_3_3 (v := 2) hx hb hts hown hK hP (show f 36 3 = 2 from hf_36_3) dX3_does_34 ?_
  refine lv_bipush (v := 24) hx hb dX3_does_37 bp_24 ?_
  refine lv_icmp_ge (tgt := 53) hx hb dX3_does_39 (by decide) (fun c => absurd c (by decide)) (fun c => ?_)
  refine lv_aload_n hx hb dX3_does_42 rfl (lv_at hl 2 rfl) ?_
  refine sl_gX_36_1_3 hx hb hts hown hK hP dX3_does_43 ?_
  refine lv_aload_n hx hb dX3_does_46 rfl (lv_at hl 2 rfl) ?_
  refine sl_gX_36_3_3 (v := 2) hx hb hts hown hK hP (show f 36 3 = 2 from hf_36_3) dX3_does_47 ?_
  refine lv_iload hx hb dX3_does_50 (lv_at hl 0 rfl) ?_
  refine sg_iast hx hb hh hA hK hP hS 38 (by decide) 0 (fun _ => rfl) rfl (i := 2) (x := 70) (vp_in_iff.mpr (by decide)) dX3_does_52 (fun f_35 H locs ef_35 hP hS => ?_)
  have ef_35 : f_35 = sg_up f 38 (sgu (f 38) 2 70) := ef_35
  have hI : sgI loX hiX f_35 := by rw [ef_35]; exact sgI.put hI 38 2 (show 0 ≤ (70 : Int32).toInt ∧ (70 : Int32).toInt ≤ 81 from by decide)
  have hF : sgK WkX3_does_6_0_2_f2_f6 f f_35 := sgK.put hF ef_35 (by rfl)
  exact blk_53 f_35 _ _ _ (hs.trans ((spl_e u_34 (spl_e ef_35 rfl)))) (by have zz36_3 : (f_35 36 3).toInt = 2 := (congrArg Int32.toInt (show f_35 36 3 = 2 from (by rw [ef_35, sg_up_n (by decide)]; exact hf_36_3))).trans (by decide); exact ⟨by omega, by omega⟩) (by have zz36_4 : (f_35 36 4).toInt = 6 := (congrArg Int32.toInt (show f_35 36 4 = 6 from (by rw [ef_35, sg_up_n (by decide)]; exact hf_36_4))).trans (by decide); exact ⟨by omega, by omega⟩) hI hF hP hS (lv_sub hl [2, 5, 6, 1, 0] rfl)

abbrev WkX3_runs_10_m1_2_f2_f6 : List (Nat × Nat × Option Nat) := [(36, 36, some 3), (38, 38, some 2), (38, 38, some 3)]
set_option maxHeartbeats 4000000 in
set_option maxRecDepth 100000 in
theorem kX3_runs_10_m1_2_f2_f6 (l : Launch) (D : va_G) (ca : Nat → ClassId) (za h : Nat → Nat) (hh : sgH 52 h) (f : sg_F) (L : sg_L) (Q : sg_Q) (hI : sgI loX hiX f) (x2 : Int32) (hf_36_3 : f 36 3 = 2) (hf_36_4 : f 36 4 = 6) (p0 : 2 ≤ (f 36 3).toInt ∧ (f 36 3).toInt ≤ 2) (sz : Nat) : Met l yX3_runs gwX3_runs { frames := 4, cells := 0, slots := 0, locals := 100 } (sgP D vwCl (tyX ca) 52 h (eX ca h) zcX za f L Q sz [.ref (h 36), .int 10, .int (-1), .int x2, .int 2]) (sgQi D vwCl 52 h (eX ca h) sz (fun r f1 L1 Q1 => ((sgI loX hiX f1 ∧ sgK WkX3_runs_10_m1_2_f2_f6 f f1 ∧ L1 = L ∧ Q1 = Q) ∧ True ∧ (4 ≤ (f1 36 3).toInt ∧ (f1 36 3).toInt ≤ 4) ∧ (r, f1) = sX3_runs_10_m1_2_f2_f6 x2 f L))) 0 0 (sgA 52 h sz) := by
  refine sg_ofWi (cc := cX3_runs) (maxL := 5) RX3 (by decide) rfl rfl (Nat.le_of_ble_eq_true rfl) ?_
  intro p e s m below meth cd Qz ls hx hb hml hown hts hK hZ hP hS hl hret
  have hA := sgY.self (n := 52) (h := h) (sz := s.heap.size)
  have hl : lv_has ls 5 [(0, .ref (h 36)), (1, .int 10), (2, .int (-1)), (3, .int x2), (4, .int 2)] := hl
  obtain ⟨H, hH⟩ : ∃ z : Heap, z = s.heap := ⟨_, rfl⟩
  obtain ⟨locs, hlo⟩ : ∃ z : List Loc, z = [] := ⟨_, rfl⟩
  have hP : va_P D vwCl (sgw 52 h (eX ca h) f L Q) H := by rw [hH]; exact hP
  have hS : va_S (sgA 52 h s.heap.size) s.heap H locs := by rw [hH, hlo]; exact hS
  suffices hgo : W p l e ({ frames := 4, cells := 0, slots := 0, locals := 100 }) s m ([.ref (h 36), .int 10, .int (-1), .int x2, .int 2] : List Value).toArray below meth cd H locs 0 0 Qz (F0 m 0 ls []) by rw [hH, hlo] at hgo; exact hgo
  clear hH hlo
  obtain ⟨sp, hsp⟩ : ∃ z : Int32 × sg_F, z = sX3_runs_10_m1_2_f2_f6 x2 f L := ⟨_, rfl⟩
  have hs : sp = sX3_runs_10_m1_2_f2_f6 x2 f L := hsp
  have o_1 : (f 36 3).toInt = 2 := (congrArg Int32.toInt (show f 36 3 = 2 from hf_36_3)).trans (by decide)
  have hF : sgK WkX3_runs_10_m1_2_f2_f6 f f := sgK.rf
  refine lv_iload_n hx hb dX3_runs_0 rfl (lv_at hl 1 rfl) ?_
  refine lv_lookup (x := 10) (off := 148) (tgt := 149) hx hb dX3_runs_1 (by decide) (by decide) (by decide) ?_
  refine lv_aload_n hx hb dX3_runs_149 rfl (lv_at hl 0 rfl) ?_
  refine lv_aload_n hx hb dX3_runs_150 rfl (lv_at hl 0 rfl) ?_
  refine sl_gX_36_4_3 (v := 6) hx hb hts hown hK hP (show f 36 4 = 6 from hf_36_4) dX3_runs_151 ?_
  refine lv_iconst (v := 0) hx hb dX3_runs_154 ic_0 ?_
  refine lv_iload_n hx hb dX3_runs_155 rfl (lv_at hl 3 rfl) ?_
  refine lv_iload hx hb dX3_runs_156 (lv_at hl 4 rfl) ?_
  have q_2 : (f 36 3).toInt = 2 := (congrArg Int32.toInt (show f 36 3 = 2 from hf_36_3)).trans (by decide)
  refine sg_calli (va_runV (As := [.int 6, .int 0, .int x2, .int 2]) (rest := []) ⟨hx, hb, hml, hown, hts⟩ (kX3_does_6_0_2_f2_f6 l D ca za h hh f L Q hI x2 hf_36_3 hf_36_4 (by have k0 : (6 : Int32).toInt = 6 := ti_6; have k1 : (0 : Int32).toInt = 0 := ti_0; have k3 : (2 : Int32).toInt = 2 := ti_2; omega) H.size) (sl_c3_does_3_0_0_74_3 hts ⟨Nat.le_of_ble_eq_true rfl, Nat.le_of_ble_eq_true rfl⟩) (sl_vX_36 hA hK hP hS hZ) rfl rfl hl.1 rfl (lv_room (Nat.le_of_ble_eq_true rfl)) dX3_runs_158 ⟨Nat.le_refl _, Nat.le_refl _⟩) hA hS (fun r_7 f_4 L_5 Q_6 H locs hq hP hS => ?_)
  obtain ⟨⟨hI, hk_f_4, eL9, eQ9⟩, hq, p_8, u_9⟩ := hq
  rw [eL9, eQ9] at hP; clear eL9 eQ9
  have hF : sgK WkX3_runs_10_m1_2_f2_f6 f f_4 := sgK.tr hF hk_f_4 (by decide +kernel)
  obtain ⟨v_10, ev_10⟩ : ∃ z : Int32, z = f_4 36 3 := ⟨_, rfl⟩
  have q_11 : 0 ≤ v_10.toInt ∧ v_10.toInt ≤ 19 := by rw [ev_10]; exact hI 36 3
  have q_12 : (f_4 36 3).toInt = v_10.toInt := (congrArg Int32.toInt (show f_4 36 3 = v_10 from ev_10.symm))
  have k_14 : (6 : Int32).toInt = 6 := by decide
  have k_15 : (0 : Int32).toInt = 0 := by decide
  have k_16 : (2 : Int32).toInt = 2 := by decide
  refine lv_iconst (v := 2) hx hb dX3_runs_161 ic_2 ?_
  refine lv_imul hx hb dX3_runs_162 ?_
  refine lv_topi (fun v_17 ev_17 => ?_)
  exact hret _ _ _ _ (v_17) f_4 L Q dX3_runs_163 hP hS ⟨⟨hI, hF, rfl, rfl⟩, trivial, ⟨by omega, by omega⟩, (Eq.trans (Eq.symm (hs.trans ((spl2_e u_9 (spl_e ev_10 (spl_e ev_17 rfl)))))) hsp)⟩

abbrev WkX3_does_6_1_1_f1_f6 : List (Nat × Nat × Option Nat) := [(36, 36, some 3), (38, 38, some 1), (38, 38, some 2), (38, 38, some 3)]
set_option maxHeartbeats 4000000 in
set_option maxRecDepth 100000 in
theorem kX3_does_6_1_1_f1_f6 (l : Launch) (D : va_G) (ca : Nat → ClassId) (za h : Nat → Nat) (hh : sgH 52 h) (f : sg_F) (L : sg_L) (Q : sg_Q) (hI : sgI loX hiX f) (x2 : Int32) (hf_36_3 : f 36 3 = 1) (hf_36_4 : f 36 4 = 6) (p0 : 1 ≤ (f 36 3).toInt ∧ (f 36 3).toInt ≤ 1) (sz : Nat) : Met l yX3_does gwX3_does { frames := 5, cells := 0, slots := 0, locals := 124 } (sgP D vwCl (tyX ca) 52 h (eX ca h) zcX za f L Q sz [.ref (h 36), .int 6, .int 1, .int x2, .int 1]) (sgQi D vwCl 52 h (eX ca h) sz (fun r f1 L1 Q1 => ((sgI loX hiX f1 ∧ sgK WkX3_does_6_1_1_f1_f6 f f1 ∧ L1 = L ∧ Q1 = Q) ∧ True ∧ (4 ≤ (f1 36 3).toInt ∧ (f1 36 3).toInt ≤ 4) ∧ (r, f1) = sX3_does_6_1_1_f1_f6 x2 f L))) 0 0 (sgA 52 h sz) := by
  refine sg_ofWi (cc := cX3_does) (maxL := 7) RX3 (by decide) rfl rfl (Nat.le_of_ble_eq_true rfl) ?_
  intro p e s m below meth cd Qz ls hx hb hml hown hts hK hZ hP hS hl hret
  have hA := sgY.self (n := 52) (h := h) (sz := s.heap.size)
  have hl : lv_has ls 7 [(0, .ref (h 36)), (1, .int 6), (2, .int 1), (3, .int x2), (4, .int 1)] := hl
  obtain ⟨H, hH⟩ : ∃ z : Heap, z = s.heap := ⟨_, rfl⟩
  obtain ⟨locs, hlo⟩ : ∃ z : List Loc, z = [] := ⟨_, rfl⟩
  have hP : va_P D vwCl (sgw 52 h (eX ca h) f L Q) H := by rw [hH]; exact hP
  have hS : va_S (sgA 52 h s.heap.size) s.heap H locs := by rw [hH, hlo]; exact hS
  suffices hgo : W p l e ({ frames := 5, cells := 0, slots := 0, locals := 124 }) s m ([.ref (h 36), .int 6, .int 1, .int x2, .int 1] : List Value).toArray below meth cd H locs 0 0 Qz (F0 m 0 ls []) by rw [hH, hlo] at hgo; exact hgo
  clear hH hlo
  obtain ⟨sp, hsp⟩ : ∃ z : Int32 × sg_F, z = sX3_does_6_1_1_f1_f6 x2 f L := ⟨_, rfl⟩
  have hs : sp = sX3_does_6_1_1_f1_f6 x2 f L := hsp
  have o_1 : (f 36 3).toInt = 1 := (congrArg Int32.toInt (show f 36 3 = 1 from hf_36_3)).trans (by decide)
  have hF : sgK WkX3_does_6_1_1_f1_f6 f f := sgK.rf
  have blk_53 : ∀ (fp_53 : sg_F) (H : Heap) (locs : List Loc) (ls : Array Slot), sp = sX3_does_6_1_1_f1_f6_b53 x2 fp_53 L → 1 ≤ (fp_53 36 3).toInt ∧ (fp_53 36 3).toInt ≤ 1 → 6 ≤ (fp_53 36 4).toInt ∧ (fp_53 36 4).toInt ≤ 6 → sgI loX hiX fp_53 → sgK WkX3_does_6_1_1_f1_f6 f fp_53 → va_P D vwCl (sgw 52 h (eX ca h) fp_53 L Q) H → va_S (sgA 52 h s.heap.size) s.heap H locs → lv_has ls 7 [(0, .ref (h 36)), (3, .int x2), (4, .int 1), (5, .int 0), (6, .int 10)] → W p l e ({ frames := 5, cells := 0, slots := 0, locals := 124 }) s m ([.ref (h 36), .int 6, .int 1, .int x2, .int 1] : List Value).toArray below meth cd H locs 0 0 Qz (F0 m 53 ls []) := by
    intro fp_53 H locs ls hs hy0_53 hy1_53 hI hF hP hS hl
    obtain ⟨v_2, ev_2⟩ : ∃ z : Int32, z = fp_53 36 3 := ⟨_, rfl⟩
    have q_3 : 0 ≤ v_2.toInt ∧ v_2.toInt ≤ 19 := by rw [ev_2]; exact hI 36 3
    have q_4 : (fp_53 36 3).toInt = v_2.toInt := by rw [ev_2]
    obtain ⟨v_5, ev_5⟩ : ∃ z : Int32, z = fp_53 36 4 := ⟨_, rfl⟩
    have q_6 : 0 ≤ v_5.toInt ∧ v_5.toInt ≤ 7 := by rw [ev_5]; exact hI 36 4
    have q_7 : (fp_53 36 4).toInt = v_5.toInt := by rw [ev_5]
    have m_8 : fp_53 36 4 = 6 := (hF 36 4 (by decide)).trans hf_36_4
    refine lv_aload_n hx hb dX3_does_53 rfl (lv_at hl 0 rfl) ?_
    refine lv_dup hx hb dX3_does_54 rfl ?_
    refine sl_gX_36_3_3 (v := v_2) hx hb hts hown hK hP (show fp_53 36 3 = v_2 from ev_2.symm) dX3_does_55 ?_
    refine lv_iconst (v := 1) hx hb dX3_does_58 ic_1 ?_
    refine lv_iadd hx hb dX3_does_59 ?_
    refine lv_topi (fun v_9 ev_9 => ?_)
    have q_10 : v_9.toInt = v_2.toInt + 1 := by rw [ev_9]; first | exact cm_add ti_1 (by omega) (by omega) | (have k1 : (1 : Int32).toInt = 1 := ti_1; exact (bn_addI (by omega) (by omega)).trans (by omega))
    refine sl_pX_36_3_3 (x := v_9) hx hb hts hown hh hA hK hP hS dX3_does_60 (fun f_11 H locs ef_11 hP hS => ?_)
    have hI : sgI loX hiX f_11 := by rw [ef_11]; exact sgI.put hI 36 3 (show 0 ≤ (v_9 : Int32).toInt ∧ (v_9 : Int32).toInt ≤ 19 from ⟨by omega, by omega⟩)
    have hF : sgK WkX3_does_6_1_1_f1_f6 f f_11 := sgK.put hF ef_11 (by rfl)
    refine lv_aload_n hx hb dX3_does_63 rfl (lv_at hl 0 rfl) ?_
    refine lv_iload hx hb dX3_does_64 (lv_at hl 4 rfl) ?_
    refine sg_gets hx hb hZ 2 rfl hS hown (hts _ (List.mem_cons_of_mem _ mw_174)) (fun _ h9 => h9) dX3_does_66 ?_
    refine lv_iload hx hb dX3_does_69 (lv_at hl 3 rfl) ?_
    refine sg_sald hx hb hZ 2 rfl hS (y := 0) (N := 8) (vp_in_iff.mpr (by decide)) dX3_does_71 ?_
    refine W.eq (g2 := F0 m 72 ls [.int (-1), .int 10, .ref (h 36)]) (by rfl) ?_
    refine lv_iload_n hx hb dX3_does_72 rfl (lv_at hl 1 rfl) ?_
    refine lv_iload hx hb dX3_does_73 (lv_at hl 2 rfl) ?_
    refine lv_iconst (v := 1) hx hb dX3_does_75 ic_1 ?_
    refine lv_iadd hx hb dX3_does_76 ?_
    refine W.eq (g2 := F0 m 77 ls [.int 2, .int x2, .int (-1), .int 10, .ref (h 36)]) (by rw [show (1 + 1 : Int32) = 2 from by decide]) ?_
    have c_12 : v_9 = 2 := Int32.toInt_inj.mp (by have k9 : (2 : Int32).toInt = 2 := ti_2; omega)
    have q_13 : (f_11 36 3).toInt = 2 := (congrArg Int32.toInt (show f_11 36 3 = 2 from (Eq.trans (by rw [ef_11, sg_up_s, sgu_s]) c_12))).trans (by decide)
    refine sg_calli (va_runV (As := [.int 10, .int (-1), .int x2, .int 2]) (rest := []) ⟨hx, hb, hml, hown, hts⟩ (kX3_runs_10_m1_2_f2_f6 l D ca za h hh f_11 L Q hI x2 (Eq.trans (by rw [ef_11, sg_up_s, sgu_s]) c_12) (by rw [ef_11, sg_up_s, sgu_n (by decide)]; exact m_8) (by have k0 : (10 : Int32).toInt = 10 := ti_10; have k1 : ((-1) : Int32).toInt = (-1) := ti_m1; have k3 : (2 : Int32).toInt = 2 := ti_2; omega) H.size) (sl_c3_runs_4_0_0_100_3 hts ⟨Nat.le_of_ble_eq_true rfl, Nat.le_of_ble_eq_true rfl⟩) (sl_vX_36 hA hK hP hS hZ) rfl rfl hl.1 rfl (lv_room (Nat.le_of_ble_eq_true rfl)) dX3_does_77 ⟨Nat.le_refl _, Nat.le_refl _⟩) hA hS (fun r_18 f_15 L_16 Q_17 H locs hq hP hS => ?_)
    obtain ⟨⟨hI, hk_f_15, eL9, eQ9⟩, hq, p_19, u_20⟩ := hq
    rw [eL9, eQ9] at hP; clear eL9 eQ9
    have hF : sgK WkX3_does_6_1_1_f1_f6 f f_15 := sgK.tr hF hk_f_15 (by decide +kernel)
    obtain ⟨v_21, ev_21⟩ : ∃ z : Int32, z = f_15 36 3 := ⟨_, rfl⟩
    have q_22 : 0 ≤ v_21.toInt ∧ v_21.toInt ≤ 19 := by rw [ev_21]; exact hI 36 3
    have q_23 : (f_15 36 3).toInt = v_21.toInt := (congrArg Int32.toInt (show f_15 36 3 = v_21 from ev_21.symm))
    have k_25 : (10 : Int32).toInt = 10 := by decide
    have k_26 : ((-1) : Int32).toInt = (-1) := by decide
    have k_27 : (2 : Int32).toInt = 2 := by decide
    exact hret _ _ _ _ (r_18) f_15 L Q dX3_does_80 hP hS ⟨⟨hI, hF, rfl, rfl⟩, trivial, ⟨by omega, by omega⟩, (Eq.trans (Eq.symm (hs.trans ((spl_e ev_2 (spl_e ev_5 (spl_e ev_9 (spl_e ef_11 (spl2_e u_20 (spl_e ev_21 rfl))))))))) hsp)⟩
  refine lv_iload_n hx hb dX3_does_0 rfl (lv_at hl 1 rfl) ?_
  refine lv_iload_n hx hb dX3_does_1 rfl (lv_at hl 2 rfl) ?_
  refine sg_calli (va_runS (As := [.int 6, .int 1]) (rest := []) ⟨hx, hb, hml, hown, hts⟩ (kX3_ownerOf_6_1 l D ca za h hh f L Q hI H.size) (va_cwS 2 hts (gw_S (fun _ h => List.mem_cons_of_mem _ h) mw_189 mw_190 mw_47 mw_188) rfl rfl rfl hd_yX3_ownerOf.2 ⟨Nat.le_of_ble_eq_true rfl, Nat.le_of_ble_eq_true rfl⟩) (sg_preS hA hK hP hS hZ) rfl rfl hl.1 rfl (lv_room (Nat.le_of_ble_eq_true rfl)) dX3_does_2 ⟨Nat.le_refl _, Nat.le_refl _⟩) hA hS (fun r_33 f_30 L_31 Q_32 H locs hq hP hS => ?_)
  obtain ⟨⟨ef9, eL9, eQ9⟩, hq, u_34⟩ := hq
  rw [ef9, eL9, eQ9] at hP; clear ef9 eL9 eQ9
  obtain rfl : r_33 = 0 := Int32.toInt_inj.mp (by have k9 : (0 : Int32).toInt = 0 := ti_0; omega)
  refine lv_istore (lv' := [(5, .int 0), (0, .ref (h 36)), (1, .int 6), (2, .int 1), (3, .int x2), (4, .int 1)]) hx hb dX3_does_5 hl (by decide) rfl (fun ls hl => ?_)
  refine lv_iload hx hb dX3_does_7 (lv_at hl 0 rfl) ?_
  refine lv_if_lt (tgt := 19) hx hb dX3_does_9 (by decide) (fun c => absurd c (by decide)) (fun c => ?_)
  refine lv_iload hx hb dX3_does_12 (lv_at hl 5 rfl) ?_
  refine lv_bipush (v := 40) hx hb dX3_does_14 bp_40 ?_
  refine lv_icmp_le (tgt := 21) hx hb dX3_does_16 (by decide) (fun c => ?_) (fun c => absurd c (by decide))
  refine sg_gets hx hb hZ 3 rfl hS hown (hts _ (List.mem_cons_of_mem _ mw_173)) (fun _ h9 => h9) dX3_does_21 ?_
  refine lv_iload hx hb dX3_does_24 (lv_at hl 0 rfl) ?_
  refine lv_iconst (v := 4) hx hb dX3_does_26 ic_4 ?_
  refine lv_imul hx hb dX3_does_27 ?_
  refine W.eq (g2 := F0 m 28 ls [.int 0, .ref (za 3)]) (by rw [show (0 * 4 : Int32) = 0 from by decide]) ?_
  refine lv_iload_n hx hb dX3_does_28 rfl (lv_at hl 3 rfl) ?_
  refine lv_iadd hx hb dX3_does_29 ?_
  refine W.eq (g2 := F0 m 30 ls [.int 1, .ref (za 3)]) (by rw [show (0 + 1 : Int32) = 1 from by decide]) ?_
  refine sg_sald hx hb hZ 3 rfl hS (y := 1) (N := 32) (vp_in_iff.mpr (by decide)) dX3_does_30 ?_
  refine W.eq (g2 := F0 m 31 ls [.int 10]) (by rfl) ?_
  refine lv_istore (lv' := [(6, .int 10), (5, .int 0), (0, .ref (h 36)), (1, .int 6), (2, .int 1), (3, .int x2), (4, .int 1)]) hx hb dX3_does_31 hl (by decide) rfl (fun ls hl => ?_)
  refine lv_aload_n hx hb dX3_does_33 rfl (lv_at hl 2 rfl) ?_
  refine sl_gX_36_3_3 (v := 1) hx hb hts hown hK hP (show f 36 3 = 1 from hf_36_3) dX3_does_34 ?_
  refine lv_bipush (v := 24) hx hb dX3_does_37 bp_24 ?_
  refine lv_icmp_ge (tgt := 53) hx hb dX3_does_39 (by decide) (fun c => absurd c (by decide)) (fun c => ?_)
  refine lv_aload_n hx hb dX3_does_42 rfl (lv_at hl 2 rfl) ?_
  refine sl_gX_36_1_3 hx hb hts hown hK hP dX3_does_43 ?_
  refine lv_aload_n hx hb dX3_does_46 rfl (lv_at hl 2 rfl) ?_
  refine sl_gX_36_3_3 (v := 1) hx hb hts hown hK hP (show f 36 3 = 1 from hf_36_3) dX3_does_47 ?_
  refine lv_iload hx hb dX3_does_50 (lv_at hl 0 rfl) ?_
  refine sg_iast hx hb hh hA hK hP hS 38 (by decide) 0 (fun _ => rfl) rfl (i := 1) (x := 10) (vp_in_iff.mpr (by decide)) dX3_does_52 (fun f_35 H locs ef_35 hP hS => ?_)
  have ef_35 : f_35 = sg_up f 38 (sgu (f 38) 1 10) := ef_35
  have hI : sgI loX hiX f_35 := by rw [ef_35]; exact sgI.put hI 38 1 (show 0 ≤ (10 : Int32).toInt ∧ (10 : Int32).toInt ≤ 81 from by decide)
  have hF : sgK WkX3_does_6_1_1_f1_f6 f f_35 := sgK.put hF ef_35 (by rfl)
  exact blk_53 f_35 _ _ _ (hs.trans ((spl_e u_34 (spl_e ef_35 rfl)))) (by have zz36_3 : (f_35 36 3).toInt = 1 := (congrArg Int32.toInt (show f_35 36 3 = 1 from (by rw [ef_35, sg_up_n (by decide)]; exact hf_36_3))).trans (by decide); exact ⟨by omega, by omega⟩) (by have zz36_4 : (f_35 36 4).toInt = 6 := (congrArg Int32.toInt (show f_35 36 4 = 6 from (by rw [ef_35, sg_up_n (by decide)]; exact hf_36_4))).trans (by decide); exact ⟨by omega, by omega⟩) hI hF hP hS (lv_sub hl [2, 5, 6, 1, 0] rfl)

set_option maxHeartbeats 4000000 in
set_option maxRecDepth 100000 in
theorem kX3_runs_11_m1_2_f5_f6 (l : Launch) (D : va_G) (ca : Nat → ClassId) (za h : Nat → Nat) (hh : sgH 52 h) (f : sg_F) (L : sg_L) (Q : sg_Q) (hI : sgI loX hiX f) (x2 : Int32) (hf_36_3 : f 36 3 = 5) (hf_36_4 : f 36 4 = 6) (b2 : 1 ≤ x2.toInt ∧ x2.toInt ≤ 1) (p0 : 5 ≤ (f 36 3).toInt ∧ (f 36 3).toInt ≤ 5) (sz : Nat) : Met l yX3_runs gwX3_runs { frames := 0, cells := 0, slots := 0, locals := 0 } (sgP D vwCl (tyX ca) 52 h (eX ca h) zcX za f L Q sz [.ref (h 36), .int 11, .int (-1), .int x2, .int 2]) (sgQi D vwCl 52 h (eX ca h) sz (fun r f1 L1 Q1 => ((f1 = f ∧ L1 = L ∧ Q1 = Q) ∧ True ∧ (5 ≤ (f1 36 3).toInt ∧ (f1 36 3).toInt ≤ 5) ∧ (r) = sX3_runs_11_m1_2_f5_f6 x2 f L))) 0 0 (sgA 52 h sz) := by
  refine sg_ofWi (cc := cX3_runs) (maxL := 5) RX3 (by decide) rfl rfl (Nat.le_of_ble_eq_true rfl) ?_
  intro p e s m below meth cd Qz ls hx hb hml hown hts hK hZ hP hS hl hret
  have hA := sgY.self (n := 52) (h := h) (sz := s.heap.size)
  have hl : lv_has ls 5 [(0, .ref (h 36)), (1, .int 11), (2, .int (-1)), (3, .int x2), (4, .int 2)] := hl
  obtain ⟨H, hH⟩ : ∃ z : Heap, z = s.heap := ⟨_, rfl⟩
  obtain ⟨locs, hlo⟩ : ∃ z : List Loc, z = [] := ⟨_, rfl⟩
  have hP : va_P D vwCl (sgw 52 h (eX ca h) f L Q) H := by rw [hH]; exact hP
  have hS : va_S (sgA 52 h s.heap.size) s.heap H locs := by rw [hH, hlo]; exact hS
  suffices hgo : W p l e ({ frames := 0, cells := 0, slots := 0, locals := 0 }) s m ([.ref (h 36), .int 11, .int (-1), .int x2, .int 2] : List Value).toArray below meth cd H locs 0 0 Qz (F0 m 0 ls []) by rw [hH, hlo] at hgo; exact hgo
  clear hH hlo
  obtain ⟨sp, hsp⟩ : ∃ z : Int32, z = sX3_runs_11_m1_2_f5_f6 x2 f L := ⟨_, rfl⟩
  have hs : sp = sX3_runs_11_m1_2_f5_f6 x2 f L := hsp
  have o_1 : (f 36 3).toInt = 5 := (congrArg Int32.toInt (show f 36 3 = 5 from hf_36_3)).trans (by decide)
  refine lv_iload_n hx hb dX3_runs_0 rfl (lv_at hl 1 rfl) ?_
  refine lv_lookup (x := 11) (off := 163) (tgt := 164) hx hb dX3_runs_1 (by decide) (by decide) (by decide) ?_
  refine lv_iload_n hx hb dX3_runs_164 rfl (lv_at hl 3 rfl) ?_
  refine lv_aload_n hx hb dX3_runs_165 rfl (lv_at hl 0 rfl) ?_
  refine sl_gX_36_5_3 (v := (f 36 5)) hx hb hts hown hK hP rfl dX3_runs_166 ?_
  refine lv_topi (fun v_2 ev_2 => ?_)
  have q_3 : 0 ≤ v_2.toInt ∧ v_2.toInt ≤ 49 := by rw [ev_2]; exact hI 36 5
  refine lv_ixor hx hb dX3_runs_169 ?_
  refine lv_topi (fun v_4 ev_4 => ?_)
  have q_5 : (f 36 3).toInt = 5 := (congrArg Int32.toInt (show f 36 3 = 5 from hf_36_3)).trans (by decide)
  exact hret _ _ _ _ (v_4) f L Q dX3_runs_170 hP hS ⟨⟨rfl, rfl, rfl⟩, trivial, ⟨by omega, by omega⟩, (Eq.trans (Eq.symm (hs.trans ((spl_e ev_2 (spl_e ev_4 rfl))))) hsp)⟩

abbrev WkX3_does_6_2_1_f4_f6 : List (Nat × Nat × Option Nat) := [(36, 36, some 3), (38, 38, some 4)]
set_option maxHeartbeats 4000000 in
set_option maxRecDepth 100000 in
theorem kX3_does_6_2_1_f4_f6 (l : Launch) (D : va_G) (ca : Nat → ClassId) (za h : Nat → Nat) (hh : sgH 52 h) (f : sg_F) (L : sg_L) (Q : sg_Q) (hI : sgI loX hiX f) (x2 : Int32) (hf_36_3 : f 36 3 = 4) (hf_36_4 : f 36 4 = 6) (b2 : 1 ≤ x2.toInt ∧ x2.toInt ≤ 1) (p0 : 4 ≤ (f 36 3).toInt ∧ (f 36 3).toInt ≤ 4) (sz : Nat) : Met l yX3_does gwX3_does { frames := 1, cells := 0, slots := 0, locals := 24 } (sgP D vwCl (tyX ca) 52 h (eX ca h) zcX za f L Q sz [.ref (h 36), .int 6, .int 2, .int x2, .int 1]) (sgQi D vwCl 52 h (eX ca h) sz (fun r f1 L1 Q1 => ((sgI loX hiX f1 ∧ sgK WkX3_does_6_2_1_f4_f6 f f1 ∧ L1 = L ∧ Q1 = Q) ∧ True ∧ (5 ≤ (f1 36 3).toInt ∧ (f1 36 3).toInt ≤ 5) ∧ (r, f1) = sX3_does_6_2_1_f4_f6 x2 f L))) 0 0 (sgA 52 h sz) := by
  refine sg_ofWi (cc := cX3_does) (maxL := 7) RX3 (by decide) rfl rfl (Nat.le_of_ble_eq_true rfl) ?_
  intro p e s m below meth cd Qz ls hx hb hml hown hts hK hZ hP hS hl hret
  have hA := sgY.self (n := 52) (h := h) (sz := s.heap.size)
  have hl : lv_has ls 7 [(0, .ref (h 36)), (1, .int 6), (2, .int 2), (3, .int x2), (4, .int 1)] := hl
  obtain ⟨H, hH⟩ : ∃ z : Heap, z = s.heap := ⟨_, rfl⟩
  obtain ⟨locs, hlo⟩ : ∃ z : List Loc, z = [] := ⟨_, rfl⟩
  have hP : va_P D vwCl (sgw 52 h (eX ca h) f L Q) H := by rw [hH]; exact hP
  have hS : va_S (sgA 52 h s.heap.size) s.heap H locs := by rw [hH, hlo]; exact hS
  suffices hgo : W p l e ({ frames := 1, cells := 0, slots := 0, locals := 24 }) s m ([.ref (h 36), .int 6, .int 2, .int x2, .int 1] : List Value).toArray below meth cd H locs 0 0 Qz (F0 m 0 ls []) by rw [hH, hlo] at hgo; exact hgo
  clear hH hlo
  obtain ⟨sp, hsp⟩ : ∃ z : Int32 × sg_F, z = sX3_does_6_2_1_f4_f6 x2 f L := ⟨_, rfl⟩
  have hs : sp = sX3_does_6_2_1_f4_f6 x2 f L := hsp
  have o_1 : (f 36 3).toInt = 4 := (congrArg Int32.toInt (show f 36 3 = 4 from hf_36_3)).trans (by decide)
  have hF : sgK WkX3_does_6_2_1_f4_f6 f f := sgK.rf
  have blk_53 : ∀ (fp_53 : sg_F) (H : Heap) (locs : List Loc) (ls : Array Slot), sp = sX3_does_6_2_1_f4_f6_b53 x2 fp_53 L → 4 ≤ (fp_53 36 3).toInt ∧ (fp_53 36 3).toInt ≤ 4 → 6 ≤ (fp_53 36 4).toInt ∧ (fp_53 36 4).toInt ≤ 6 → sgI loX hiX fp_53 → sgK WkX3_does_6_2_1_f4_f6 f fp_53 → va_P D vwCl (sgw 52 h (eX ca h) fp_53 L Q) H → va_S (sgA 52 h s.heap.size) s.heap H locs → lv_has ls 7 [(0, .ref (h 36)), (3, .int x2), (4, .int 1), (5, .int 0), (6, .int 11)] → W p l e ({ frames := 1, cells := 0, slots := 0, locals := 24 }) s m ([.ref (h 36), .int 6, .int 2, .int x2, .int 1] : List Value).toArray below meth cd H locs 0 0 Qz (F0 m 53 ls []) := by
    intro fp_53 H locs ls hs hy0_53 hy1_53 hI hF hP hS hl
    obtain ⟨v_2, ev_2⟩ : ∃ z : Int32, z = fp_53 36 3 := ⟨_, rfl⟩
    have q_3 : 0 ≤ v_2.toInt ∧ v_2.toInt ≤ 19 := by rw [ev_2]; exact hI 36 3
    have q_4 : (fp_53 36 3).toInt = v_2.toInt := by rw [ev_2]
    obtain ⟨v_5, ev_5⟩ : ∃ z : Int32, z = fp_53 36 4 := ⟨_, rfl⟩
    have q_6 : 0 ≤ v_5.toInt ∧ v_5.toInt ≤ 7 := by rw [ev_5]; exact hI 36 4
    have q_7 : (fp_53 36 4).toInt = v_5.toInt := by rw [ev_5]
    have m_8 : fp_53 36 4 = 6 := (hF 36 4 (by decide)).trans hf_36_4
    refine lv_aload_n hx hb dX3_does_53 rfl (lv_at hl 0 rfl) ?_
    refine lv_dup hx hb dX3_does_54 rfl ?_
    refine sl_gX_36_3_3 (v := v_2) hx hb hts hown hK hP (show fp_53 36 3 = v_2 from ev_2.symm) dX3_does_55 ?_
    refine lv_iconst (v := 1) hx hb dX3_does_58 ic_1 ?_
    refine lv_iadd hx hb dX3_does_59 ?_
    refine lv_topi (fun v_9 ev_9 => ?_)
    have q_10 : v_9.toInt = v_2.toInt + 1 := by rw [ev_9]; first | exact cm_add ti_1 (by omega) (by omega) | (have k1 : (1 : Int32).toInt = 1 := ti_1; exact (bn_addI (by omega) (by omega)).trans (by omega))
    refine sl_pX_36_3_3 (x := v_9) hx hb hts hown hh hA hK hP hS dX3_does_60 (fun f_11 H locs ef_11 hP hS => ?_)
    have hI : sgI loX hiX f_11 := by rw [ef_11]; exact sgI.put hI 36 3 (show 0 ≤ (v_9 : Int32).toInt ∧ (v_9 : Int32).toInt ≤ 19 from ⟨by omega, by omega⟩)
    have hF : sgK WkX3_does_6_2_1_f4_f6 f f_11 := sgK.put hF ef_11 (by rfl)
    refine lv_aload_n hx hb dX3_does_63 rfl (lv_at hl 0 rfl) ?_
    refine lv_iload hx hb dX3_does_64 (lv_at hl 4 rfl) ?_
    refine sg_gets hx hb hZ 2 rfl hS hown (hts _ (List.mem_cons_of_mem _ mw_174)) (fun _ h9 => h9) dX3_does_66 ?_
    refine lv_iload hx hb dX3_does_69 (lv_at hl 3 rfl) ?_
    refine sg_sald hx hb hZ 2 rfl hS (y := 0) (N := 8) (vp_in_iff.mpr (by decide)) dX3_does_71 ?_
    refine W.eq (g2 := F0 m 72 ls [.int (-1), .int 11, .ref (h 36)]) (by rfl) ?_
    refine lv_iload_n hx hb dX3_does_72 rfl (lv_at hl 1 rfl) ?_
    refine lv_iload hx hb dX3_does_73 (lv_at hl 2 rfl) ?_
    refine lv_iconst (v := 1) hx hb dX3_does_75 ic_1 ?_
    refine lv_iadd hx hb dX3_does_76 ?_
    refine W.eq (g2 := F0 m 77 ls [.int 2, .int x2, .int (-1), .int 11, .ref (h 36)]) (by rw [show (1 + 1 : Int32) = 2 from by decide]) ?_
    have c_12 : v_9 = 5 := Int32.toInt_inj.mp (by have k9 : (5 : Int32).toInt = 5 := ti_5; omega)
    have q_13 : (f_11 36 3).toInt = 5 := (congrArg Int32.toInt (show f_11 36 3 = 5 from (Eq.trans (by rw [ef_11, sg_up_s, sgu_s]) c_12))).trans (by decide)
    refine sg_calli (va_runV (As := [.int 11, .int (-1), .int x2, .int 2]) (rest := []) ⟨hx, hb, hml, hown, hts⟩ (kX3_runs_11_m1_2_f5_f6 l D ca za h hh f_11 L Q hI x2 (Eq.trans (by rw [ef_11, sg_up_s, sgu_s]) c_12) (by rw [ef_11, sg_up_s, sgu_n (by decide)]; exact m_8) b2 (by have k0 : (11 : Int32).toInt = 11 := ti_11; have k1 : ((-1) : Int32).toInt = (-1) := ti_m1; have k3 : (2 : Int32).toInt = 2 := ti_2; omega) H.size) (sl_c3_runs_0_0_0_0_3 hts ⟨Nat.le_of_ble_eq_true rfl, Nat.le_of_ble_eq_true rfl⟩) (sl_vX_36 hA hK hP hS hZ) rfl rfl hl.1 rfl (lv_room (Nat.le_of_ble_eq_true rfl)) dX3_does_77 ⟨Nat.le_refl _, Nat.le_refl _⟩) hA hS (fun r_18 f_15 L_16 Q_17 H locs hq hP hS => ?_)
    obtain ⟨⟨ef9, eL9, eQ9⟩, hq, p_19, u_20⟩ := hq
    rw [ef9, eL9, eQ9] at hP; clear ef9 eL9 eQ9
    have k_23 : (11 : Int32).toInt = 11 := by decide
    have k_24 : ((-1) : Int32).toInt = (-1) := by decide
    have k_25 : (2 : Int32).toInt = 2 := by decide
    exact hret _ _ _ _ (r_18) f_11 L Q dX3_does_80 hP hS ⟨⟨hI, hF, rfl, rfl⟩, trivial, ⟨by omega, by omega⟩, (Eq.trans (Eq.symm (hs.trans ((spl_e ev_2 (spl_e ev_5 (spl_e ev_9 (spl_e ef_11 (spl_e u_20 rfl)))))))) hsp)⟩
  refine lv_iload_n hx hb dX3_does_0 rfl (lv_at hl 1 rfl) ?_
  refine lv_iload_n hx hb dX3_does_1 rfl (lv_at hl 2 rfl) ?_
  refine sg_calli (va_runS (As := [.int 6, .int 2]) (rest := []) ⟨hx, hb, hml, hown, hts⟩ (kX3_ownerOf_6_2 l D ca za h hh f L Q hI H.size) (va_cwS 2 hts (gw_S (fun _ h => List.mem_cons_of_mem _ h) mw_189 mw_190 mw_47 mw_188) rfl rfl rfl hd_yX3_ownerOf.2 ⟨Nat.le_of_ble_eq_true rfl, Nat.le_of_ble_eq_true rfl⟩) (sg_preS hA hK hP hS hZ) rfl rfl hl.1 rfl (lv_room (Nat.le_of_ble_eq_true rfl)) dX3_does_2 ⟨Nat.le_refl _, Nat.le_refl _⟩) hA hS (fun r_31 f_28 L_29 Q_30 H locs hq hP hS => ?_)
  obtain ⟨⟨ef9, eL9, eQ9⟩, hq, u_32⟩ := hq
  rw [ef9, eL9, eQ9] at hP; clear ef9 eL9 eQ9
  obtain rfl : r_31 = 0 := Int32.toInt_inj.mp (by have k9 : (0 : Int32).toInt = 0 := ti_0; omega)
  refine lv_istore (lv' := [(5, .int 0), (0, .ref (h 36)), (1, .int 6), (2, .int 2), (3, .int x2), (4, .int 1)]) hx hb dX3_does_5 hl (by decide) rfl (fun ls hl => ?_)
  refine lv_iload hx hb dX3_does_7 (lv_at hl 0 rfl) ?_
  refine lv_if_lt (tgt := 19) hx hb dX3_does_9 (by decide) (fun c => absurd c (by decide)) (fun c => ?_)
  refine lv_iload hx hb dX3_does_12 (lv_at hl 5 rfl) ?_
  refine lv_bipush (v := 40) hx hb dX3_does_14 bp_40 ?_
  refine lv_icmp_le (tgt := 21) hx hb dX3_does_16 (by decide) (fun c => ?_) (fun c => absurd c (by decide))
  refine sg_gets hx hb hZ 3 rfl hS hown (hts _ (List.mem_cons_of_mem _ mw_173)) (fun _ h9 => h9) dX3_does_21 ?_
  refine lv_iload hx hb dX3_does_24 (lv_at hl 0 rfl) ?_
  refine lv_iconst (v := 4) hx hb dX3_does_26 ic_4 ?_
  refine lv_imul hx hb dX3_does_27 ?_
  refine W.eq (g2 := F0 m 28 ls [.int 0, .ref (za 3)]) (by rw [show (0 * 4 : Int32) = 0 from by decide]) ?_
  refine lv_iload_n hx hb dX3_does_28 rfl (lv_at hl 3 rfl) ?_
  refine lv_iadd hx hb dX3_does_29 ?_
  refine W.eq (g2 := F0 m 30 ls [.int 2, .ref (za 3)]) (by rw [show (0 + 2 : Int32) = 2 from by decide]) ?_
  refine sg_sald hx hb hZ 3 rfl hS (y := 2) (N := 32) (vp_in_iff.mpr (by decide)) dX3_does_30 ?_
  refine W.eq (g2 := F0 m 31 ls [.int 11]) (by rfl) ?_
  refine lv_istore (lv' := [(6, .int 11), (5, .int 0), (0, .ref (h 36)), (1, .int 6), (2, .int 2), (3, .int x2), (4, .int 1)]) hx hb dX3_does_31 hl (by decide) rfl (fun ls hl => ?_)
  refine lv_aload_n hx hb dX3_does_33 rfl (lv_at hl 2 rfl) ?_
  refine sl_gX_36_3_3 (v := 4) hx hb hts hown hK hP (show f 36 3 = 4 from hf_36_3) dX3_does_34 ?_
  refine lv_bipush (v := 24) hx hb dX3_does_37 bp_24 ?_
  refine lv_icmp_ge (tgt := 53) hx hb dX3_does_39 (by decide) (fun c => absurd c (by decide)) (fun c => ?_)
  refine lv_aload_n hx hb dX3_does_42 rfl (lv_at hl 2 rfl) ?_
  refine sl_gX_36_1_3 hx hb hts hown hK hP dX3_does_43 ?_
  refine lv_aload_n hx hb dX3_does_46 rfl (lv_at hl 2 rfl) ?_
  refine sl_gX_36_3_3 (v := 4) hx hb hts hown hK hP (show f 36 3 = 4 from hf_36_3) dX3_does_47 ?_
  refine lv_iload hx hb dX3_does_50 (lv_at hl 0 rfl) ?_
  refine sg_iast hx hb hh hA hK hP hS 38 (by decide) 0 (fun _ => rfl) rfl (i := 4) (x := 11) (vp_in_iff.mpr (by decide)) dX3_does_52 (fun f_33 H locs ef_33 hP hS => ?_)
  have ef_33 : f_33 = sg_up f 38 (sgu (f 38) 4 11) := ef_33
  have hI : sgI loX hiX f_33 := by rw [ef_33]; exact sgI.put hI 38 4 (show 0 ≤ (11 : Int32).toInt ∧ (11 : Int32).toInt ≤ 81 from by decide)
  have hF : sgK WkX3_does_6_2_1_f4_f6 f f_33 := sgK.put hF ef_33 (by rfl)
  exact blk_53 f_33 _ _ _ (hs.trans ((spl_e u_32 (spl_e ef_33 rfl)))) (by have zz36_3 : (f_33 36 3).toInt = 4 := (congrArg Int32.toInt (show f_33 36 3 = 4 from (by rw [ef_33, sg_up_n (by decide)]; exact hf_36_3))).trans (by decide); exact ⟨by omega, by omega⟩) (by have zz36_4 : (f_33 36 4).toInt = 6 := (congrArg Int32.toInt (show f_33 36 4 = 6 from (by rw [ef_33, sg_up_n (by decide)]; exact hf_36_4))).trans (by decide); exact ⟨by omega, by omega⟩) hI hF hP hS (lv_sub hl [2, 5, 6, 1, 0] rfl)

abbrev WkX3_runs_2_m1_1_f1_f6 : List (Nat × Nat × Option Nat) := [(36, 36, some 3), (38, 38, some 1), (38, 38, some 2), (38, 38, some 3), (38, 38, some 4)]
set_option maxHeartbeats 4000000 in
set_option maxRecDepth 100000 in
theorem kX3_runs_2_m1_1_f1_f6 (l : Launch) (D : va_G) (ca : Nat → ClassId) (za h : Nat → Nat) (hh : sgH 52 h) (f : sg_F) (L : sg_L) (Q : sg_Q) (hI : sgI loX hiX f) (x2 : Int32) (hf_36_3 : f 36 3 = 1) (hf_36_4 : f 36 4 = 6) (p0 : 1 ≤ (f 36 3).toInt ∧ (f 36 3).toInt ≤ 1) (sz : Nat) : Met l yX3_runs gwX3_runs { frames := 6, cells := 0, slots := 0, locals := 150 } (sgP D vwCl (tyX ca) 52 h (eX ca h) zcX za f L Q sz [.ref (h 36), .int 2, .int (-1), .int x2, .int 1]) (sgQi D vwCl 52 h (eX ca h) sz (fun r f1 L1 Q1 => ((sgI loX hiX f1 ∧ sgK WkX3_runs_2_m1_1_f1_f6 f f1 ∧ L1 = L ∧ Q1 = Q) ∧ True ∧ (5 ≤ (f1 36 3).toInt ∧ (f1 36 3).toInt ≤ 5) ∧ (r, f1) = sX3_runs_2_m1_1_f1_f6 x2 f L))) 0 0 (sgA 52 h sz) := by
  refine sg_ofWi (cc := cX3_runs) (maxL := 5) RX3 (by decide) rfl rfl (Nat.le_of_ble_eq_true rfl) ?_
  intro p e s m below meth cd Qz ls hx hb hml hown hts hK hZ hP hS hl hret
  have hA := sgY.self (n := 52) (h := h) (sz := s.heap.size)
  have hl : lv_has ls 5 [(0, .ref (h 36)), (1, .int 2), (2, .int (-1)), (3, .int x2), (4, .int 1)] := hl
  obtain ⟨H, hH⟩ : ∃ z : Heap, z = s.heap := ⟨_, rfl⟩
  obtain ⟨locs, hlo⟩ : ∃ z : List Loc, z = [] := ⟨_, rfl⟩
  have hP : va_P D vwCl (sgw 52 h (eX ca h) f L Q) H := by rw [hH]; exact hP
  have hS : va_S (sgA 52 h s.heap.size) s.heap H locs := by rw [hH, hlo]; exact hS
  suffices hgo : W p l e ({ frames := 6, cells := 0, slots := 0, locals := 150 }) s m ([.ref (h 36), .int 2, .int (-1), .int x2, .int 1] : List Value).toArray below meth cd H locs 0 0 Qz (F0 m 0 ls []) by rw [hH, hlo] at hgo; exact hgo
  clear hH hlo
  obtain ⟨sp, hsp⟩ : ∃ z : Int32 × sg_F, z = sX3_runs_2_m1_1_f1_f6 x2 f L := ⟨_, rfl⟩
  have hs : sp = sX3_runs_2_m1_1_f1_f6 x2 f L := hsp
  have o_1 : (f 36 3).toInt = 1 := (congrArg Int32.toInt (show f 36 3 = 1 from hf_36_3)).trans (by decide)
  have hF : sgK WkX3_runs_2_m1_1_f1_f6 f f := sgK.rf
  refine lv_iload_n hx hb dX3_runs_0 rfl (lv_at hl 1 rfl) ?_
  refine lv_lookup (x := 2) (off := 122) (tgt := 123) hx hb dX3_runs_1 (by decide) (by decide) (by decide) ?_
  refine lv_aload_n hx hb dX3_runs_123 rfl (lv_at hl 0 rfl) ?_
  refine lv_aload_n hx hb dX3_runs_124 rfl (lv_at hl 0 rfl) ?_
  refine sl_gX_36_4_3 (v := 6) hx hb hts hown hK hP (show f 36 4 = 6 from hf_36_4) dX3_runs_125 ?_
  refine lv_iconst (v := 1) hx hb dX3_runs_128 ic_1 ?_
  refine lv_iload_n hx hb dX3_runs_129 rfl (lv_at hl 3 rfl) ?_
  refine lv_iload hx hb dX3_runs_130 (lv_at hl 4 rfl) ?_
  have q_2 : (f 36 3).toInt = 1 := (congrArg Int32.toInt (show f 36 3 = 1 from hf_36_3)).trans (by decide)
  refine sg_calli (va_runV (As := [.int 6, .int 1, .int x2, .int 1]) (rest := []) ⟨hx, hb, hml, hown, hts⟩ (kX3_does_6_1_1_f1_f6 l D ca za h hh f L Q hI x2 hf_36_3 hf_36_4 (by have k0 : (6 : Int32).toInt = 6 := ti_6; have k1 : (1 : Int32).toInt = 1 := ti_1; have k3 : (1 : Int32).toInt = 1 := ti_1; omega) H.size) (sl_c3_does_5_0_0_124_3 hts ⟨Nat.le_of_ble_eq_true rfl, Nat.le_of_ble_eq_true rfl⟩) (sl_vX_36 hA hK hP hS hZ) rfl rfl hl.1 rfl (lv_room (Nat.le_of_ble_eq_true rfl)) dX3_runs_132 ⟨Nat.le_refl _, Nat.le_refl _⟩) hA hS (fun r_7 f_4 L_5 Q_6 H locs hq hP hS => ?_)
  obtain ⟨⟨hI, hk_f_4, eL9, eQ9⟩, hq, p_8, u_9⟩ := hq
  rw [eL9, eQ9] at hP; clear eL9 eQ9
  have hF : sgK WkX3_runs_2_m1_1_f1_f6 f f_4 := sgK.tr hF hk_f_4 (by decide +kernel)
  obtain ⟨v_10, ev_10⟩ : ∃ z : Int32, z = f_4 36 3 := ⟨_, rfl⟩
  have q_11 : 0 ≤ v_10.toInt ∧ v_10.toInt ≤ 19 := by rw [ev_10]; exact hI 36 3
  have q_12 : (f_4 36 3).toInt = v_10.toInt := (congrArg Int32.toInt (show f_4 36 3 = v_10 from ev_10.symm))
  have k_14 : (6 : Int32).toInt = 6 := by decide
  have k_15 : (1 : Int32).toInt = 1 := by decide
  have k_16 : (1 : Int32).toInt = 1 := by decide
  refine lv_aload_n hx hb dX3_runs_135 rfl (lv_at hl 0 rfl) ?_
  refine lv_aload_n hx hb dX3_runs_136 rfl (lv_at hl 0 rfl) ?_
  refine sl_gX_36_4_3 (v := 6) hx hb hts hown hK hP (show f_4 36 4 = 6 from ((hk_f_4 36 4 (by decide)).trans hf_36_4)) dX3_runs_137 ?_
  refine lv_iconst (v := 2) hx hb dX3_runs_140 ic_2 ?_
  refine lv_iconst (v := 1) hx hb dX3_runs_141 ic_1 ?_
  refine lv_iload hx hb dX3_runs_142 (lv_at hl 4 rfl) ?_
  have c_17 : v_10 = 4 := Int32.toInt_inj.mp (by have k9 : (4 : Int32).toInt = 4 := ti_4; omega)
  have q_18 : (f_4 36 3).toInt = 4 := (congrArg Int32.toInt (show f_4 36 3 = 4 from (Eq.trans ev_10.symm c_17))).trans (by decide)
  refine sg_calli (va_runV (As := [.int 6, .int 2, .int 1, .int 1]) (rest := [.int r_7]) ⟨hx, hb, hml, hown, hts⟩ (kX3_does_6_2_1_f4_f6 l D ca za h hh f_4 L Q hI 1 (Eq.trans ev_10.symm c_17) ((hk_f_4 36 4 (by decide)).trans hf_36_4) (by decide) (by have k0 : (6 : Int32).toInt = 6 := ti_6; have k1 : (2 : Int32).toInt = 2 := ti_2; have k2 : (1 : Int32).toInt = 1 := ti_1; have k3 : (1 : Int32).toInt = 1 := ti_1; omega) H.size) (sl_c3_does_1_0_0_24_3 hts ⟨Nat.le_of_ble_eq_true rfl, Nat.le_of_ble_eq_true rfl⟩) (sl_vX_36 hA hK hP hS hZ) rfl rfl hl.1 rfl (lv_room (Nat.le_of_ble_eq_true rfl)) dX3_runs_144 ⟨Nat.le_refl _, Nat.le_refl _⟩) hA hS (fun r_23 f_20 L_21 Q_22 H locs hq hP hS => ?_)
  obtain ⟨⟨hI, hk_f_20, eL9, eQ9⟩, hq, p_24, u_25⟩ := hq
  rw [eL9, eQ9] at hP; clear eL9 eQ9
  have hF : sgK WkX3_runs_2_m1_1_f1_f6 f f_20 := sgK.tr hF hk_f_20 (by decide +kernel)
  obtain ⟨v_26, ev_26⟩ : ∃ z : Int32, z = f_20 36 3 := ⟨_, rfl⟩
  have q_27 : 0 ≤ v_26.toInt ∧ v_26.toInt ≤ 19 := by rw [ev_26]; exact hI 36 3
  have q_28 : (f_20 36 3).toInt = v_26.toInt := (congrArg Int32.toInt (show f_20 36 3 = v_26 from ev_26.symm))
  have k_30 : (6 : Int32).toInt = 6 := by decide
  have k_31 : (2 : Int32).toInt = 2 := by decide
  have k_32 : (1 : Int32).toInt = 1 := by decide
  have k_33 : (1 : Int32).toInt = 1 := by decide
  refine lv_isub hx hb dX3_runs_147 ?_
  refine lv_topi (fun v_34 ev_34 => ?_)
  exact hret _ _ _ _ (v_34) f_20 L Q dX3_runs_148 hP hS ⟨⟨hI, hF, rfl, rfl⟩, trivial, ⟨by omega, by omega⟩, (Eq.trans (Eq.symm (hs.trans ((spl2_e u_9 (spl_e ev_10 (spl2_e u_25 (spl_e ev_26 (spl_e ev_34 rfl)))))))) hsp)⟩

abbrev WkX3_does_6_3_0_f0_f6 : List (Nat × Nat × Option Nat) := [(36, 36, some 3), (38, 38, some 0), (38, 38, some 1), (38, 38, some 2), (38, 38, some 3), (38, 38, some 4)]
set_option maxHeartbeats 4000000 in
set_option maxRecDepth 100000 in
theorem kX3_does_6_3_0_f0_f6 (l : Launch) (D : va_G) (ca : Nat → ClassId) (za h : Nat → Nat) (hh : sgH 52 h) (f : sg_F) (L : sg_L) (Q : sg_Q) (hI : sgI loX hiX f) (x2 : Int32) (hf_36_3 : f 36 3 = 0) (hf_36_4 : f 36 4 = 6) (p0 : 0 ≤ (f 36 3).toInt ∧ (f 36 3).toInt ≤ 0) (sz : Nat) : Met l yX3_does gwX3_does { frames := 7, cells := 0, slots := 0, locals := 174 } (sgP D vwCl (tyX ca) 52 h (eX ca h) zcX za f L Q sz [.ref (h 36), .int 6, .int 3, .int x2, .int 0]) (sgQi D vwCl 52 h (eX ca h) sz (fun r f1 L1 Q1 => ((sgI loX hiX f1 ∧ sgK WkX3_does_6_3_0_f0_f6 f f1 ∧ L1 = L ∧ Q1 = Q) ∧ True ∧ (5 ≤ (f1 36 3).toInt ∧ (f1 36 3).toInt ≤ 5) ∧ (r, f1) = sX3_does_6_3_0_f0_f6 x2 f L))) 0 0 (sgA 52 h sz) := by
  refine sg_ofWi (cc := cX3_does) (maxL := 7) RX3 (by decide) rfl rfl (Nat.le_of_ble_eq_true rfl) ?_
  intro p e s m below meth cd Qz ls hx hb hml hown hts hK hZ hP hS hl hret
  have hA := sgY.self (n := 52) (h := h) (sz := s.heap.size)
  have hl : lv_has ls 7 [(0, .ref (h 36)), (1, .int 6), (2, .int 3), (3, .int x2), (4, .int 0)] := hl
  obtain ⟨H, hH⟩ : ∃ z : Heap, z = s.heap := ⟨_, rfl⟩
  obtain ⟨locs, hlo⟩ : ∃ z : List Loc, z = [] := ⟨_, rfl⟩
  have hP : va_P D vwCl (sgw 52 h (eX ca h) f L Q) H := by rw [hH]; exact hP
  have hS : va_S (sgA 52 h s.heap.size) s.heap H locs := by rw [hH, hlo]; exact hS
  suffices hgo : W p l e ({ frames := 7, cells := 0, slots := 0, locals := 174 }) s m ([.ref (h 36), .int 6, .int 3, .int x2, .int 0] : List Value).toArray below meth cd H locs 0 0 Qz (F0 m 0 ls []) by rw [hH, hlo] at hgo; exact hgo
  clear hH hlo
  obtain ⟨sp, hsp⟩ : ∃ z : Int32 × sg_F, z = sX3_does_6_3_0_f0_f6 x2 f L := ⟨_, rfl⟩
  have hs : sp = sX3_does_6_3_0_f0_f6 x2 f L := hsp
  have o_1 : (f 36 3).toInt = 0 := (congrArg Int32.toInt (show f 36 3 = 0 from hf_36_3)).trans (by decide)
  have hF : sgK WkX3_does_6_3_0_f0_f6 f f := sgK.rf
  have blk_53 : ∀ (fp_53 : sg_F) (H : Heap) (locs : List Loc) (ls : Array Slot), sp = sX3_does_6_3_0_f0_f6_b53 x2 fp_53 L → 0 ≤ (fp_53 36 3).toInt ∧ (fp_53 36 3).toInt ≤ 0 → 6 ≤ (fp_53 36 4).toInt ∧ (fp_53 36 4).toInt ≤ 6 → sgI loX hiX fp_53 → sgK WkX3_does_6_3_0_f0_f6 f fp_53 → va_P D vwCl (sgw 52 h (eX ca h) fp_53 L Q) H → va_S (sgA 52 h s.heap.size) s.heap H locs → lv_has ls 7 [(0, .ref (h 36)), (3, .int x2), (4, .int 0), (5, .int 0), (6, .int 2)] → W p l e ({ frames := 7, cells := 0, slots := 0, locals := 174 }) s m ([.ref (h 36), .int 6, .int 3, .int x2, .int 0] : List Value).toArray below meth cd H locs 0 0 Qz (F0 m 53 ls []) := by
    intro fp_53 H locs ls hs hy0_53 hy1_53 hI hF hP hS hl
    obtain ⟨v_2, ev_2⟩ : ∃ z : Int32, z = fp_53 36 3 := ⟨_, rfl⟩
    have q_3 : 0 ≤ v_2.toInt ∧ v_2.toInt ≤ 19 := by rw [ev_2]; exact hI 36 3
    have q_4 : (fp_53 36 3).toInt = v_2.toInt := by rw [ev_2]
    obtain ⟨v_5, ev_5⟩ : ∃ z : Int32, z = fp_53 36 4 := ⟨_, rfl⟩
    have q_6 : 0 ≤ v_5.toInt ∧ v_5.toInt ≤ 7 := by rw [ev_5]; exact hI 36 4
    have q_7 : (fp_53 36 4).toInt = v_5.toInt := by rw [ev_5]
    have m_8 : fp_53 36 4 = 6 := (hF 36 4 (by decide)).trans hf_36_4
    refine lv_aload_n hx hb dX3_does_53 rfl (lv_at hl 0 rfl) ?_
    refine lv_dup hx hb dX3_does_54 rfl ?_
    refine sl_gX_36_3_3 (v := v_2) hx hb hts hown hK hP (show fp_53 36 3 = v_2 from ev_2.symm) dX3_does_55 ?_
    refine lv_iconst (v := 1) hx hb dX3_does_58 ic_1 ?_
    refine lv_iadd hx hb dX3_does_59 ?_
    refine lv_topi (fun v_9 ev_9 => ?_)
    have q_10 : v_9.toInt = v_2.toInt + 1 := by rw [ev_9]; first | exact cm_add ti_1 (by omega) (by omega) | (have k1 : (1 : Int32).toInt = 1 := ti_1; exact (bn_addI (by omega) (by omega)).trans (by omega))
    refine sl_pX_36_3_3 (x := v_9) hx hb hts hown hh hA hK hP hS dX3_does_60 (fun f_11 H locs ef_11 hP hS => ?_)
    have hI : sgI loX hiX f_11 := by rw [ef_11]; exact sgI.put hI 36 3 (show 0 ≤ (v_9 : Int32).toInt ∧ (v_9 : Int32).toInt ≤ 19 from ⟨by omega, by omega⟩)
    have hF : sgK WkX3_does_6_3_0_f0_f6 f f_11 := sgK.put hF ef_11 (by rfl)
    refine lv_aload_n hx hb dX3_does_63 rfl (lv_at hl 0 rfl) ?_
    refine lv_iload hx hb dX3_does_64 (lv_at hl 4 rfl) ?_
    refine sg_gets hx hb hZ 2 rfl hS hown (hts _ (List.mem_cons_of_mem _ mw_174)) (fun _ h9 => h9) dX3_does_66 ?_
    refine lv_iload hx hb dX3_does_69 (lv_at hl 3 rfl) ?_
    refine sg_sald hx hb hZ 2 rfl hS (y := 0) (N := 8) (vp_in_iff.mpr (by decide)) dX3_does_71 ?_
    refine W.eq (g2 := F0 m 72 ls [.int (-1), .int 2, .ref (h 36)]) (by rfl) ?_
    refine lv_iload_n hx hb dX3_does_72 rfl (lv_at hl 1 rfl) ?_
    refine lv_iload hx hb dX3_does_73 (lv_at hl 2 rfl) ?_
    refine lv_iconst (v := 1) hx hb dX3_does_75 ic_1 ?_
    refine lv_iadd hx hb dX3_does_76 ?_
    refine W.eq (g2 := F0 m 77 ls [.int 1, .int x2, .int (-1), .int 2, .ref (h 36)]) (by rw [show (0 + 1 : Int32) = 1 from by decide]) ?_
    have c_12 : v_9 = 1 := Int32.toInt_inj.mp (by have k9 : (1 : Int32).toInt = 1 := ti_1; omega)
    have q_13 : (f_11 36 3).toInt = 1 := (congrArg Int32.toInt (show f_11 36 3 = 1 from (Eq.trans (by rw [ef_11, sg_up_s, sgu_s]) c_12))).trans (by decide)
    refine sg_calli (va_runV (As := [.int 2, .int (-1), .int x2, .int 1]) (rest := []) ⟨hx, hb, hml, hown, hts⟩ (kX3_runs_2_m1_1_f1_f6 l D ca za h hh f_11 L Q hI x2 (Eq.trans (by rw [ef_11, sg_up_s, sgu_s]) c_12) (by rw [ef_11, sg_up_s, sgu_n (by decide)]; exact m_8) (by have k0 : (2 : Int32).toInt = 2 := ti_2; have k1 : ((-1) : Int32).toInt = (-1) := ti_m1; have k3 : (1 : Int32).toInt = 1 := ti_1; omega) H.size) (sl_c3_runs_6_0_0_150_3 hts ⟨Nat.le_of_ble_eq_true rfl, Nat.le_of_ble_eq_true rfl⟩) (sl_vX_36 hA hK hP hS hZ) rfl rfl hl.1 rfl (lv_room (Nat.le_of_ble_eq_true rfl)) dX3_does_77 ⟨Nat.le_refl _, Nat.le_refl _⟩) hA hS (fun r_18 f_15 L_16 Q_17 H locs hq hP hS => ?_)
    obtain ⟨⟨hI, hk_f_15, eL9, eQ9⟩, hq, p_19, u_20⟩ := hq
    rw [eL9, eQ9] at hP; clear eL9 eQ9
    have hF : sgK WkX3_does_6_3_0_f0_f6 f f_15 := sgK.tr hF hk_f_15 (by decide +kernel)
    obtain ⟨v_21, ev_21⟩ : ∃ z : Int32, z = f_15 36 3 := ⟨_, rfl⟩
    have q_22 : 0 ≤ v_21.toInt ∧ v_21.toInt ≤ 19 := by rw [ev_21]; exact hI 36 3
    have q_23 : (f_15 36 3).toInt = v_21.toInt := (congrArg Int32.toInt (show f_15 36 3 = v_21 from ev_21.symm))
    have k_25 : (2 : Int32).toInt = 2 := by decide
    have k_26 : ((-1) : Int32).toInt = (-1) := by decide
    have k_27 : (1 : Int32).toInt = 1 := by decide
    exact hret _ _ _ _ (r_18) f_15 L Q dX3_does_80 hP hS ⟨⟨hI, hF, rfl, rfl⟩, trivial, ⟨by omega, by omega⟩, (Eq.trans (Eq.symm (hs.trans ((spl_e ev_2 (spl_e ev_5 (spl_e ev_9 (spl_e ef_11 (spl2_e u_20 (spl_e ev_21 rfl))))))))) hsp)⟩
  refine lv_iload_n hx hb dX3_does_0 rfl (lv_at hl 1 rfl) ?_
  refine lv_iload_n hx hb dX3_does_1 rfl (lv_at hl 2 rfl) ?_
  refine sg_calli (va_runS (As := [.int 6, .int 3]) (rest := []) ⟨hx, hb, hml, hown, hts⟩ (kX3_ownerOf_6_3 l D ca za h hh f L Q hI H.size) (va_cwS 2 hts (gw_S (fun _ h => List.mem_cons_of_mem _ h) mw_189 mw_190 mw_47 mw_188) rfl rfl rfl hd_yX3_ownerOf.2 ⟨Nat.le_of_ble_eq_true rfl, Nat.le_of_ble_eq_true rfl⟩) (sg_preS hA hK hP hS hZ) rfl rfl hl.1 rfl (lv_room (Nat.le_of_ble_eq_true rfl)) dX3_does_2 ⟨Nat.le_refl _, Nat.le_refl _⟩) hA hS (fun r_33 f_30 L_31 Q_32 H locs hq hP hS => ?_)
  obtain ⟨⟨ef9, eL9, eQ9⟩, hq, u_34⟩ := hq
  rw [ef9, eL9, eQ9] at hP; clear ef9 eL9 eQ9
  obtain rfl : r_33 = 0 := Int32.toInt_inj.mp (by have k9 : (0 : Int32).toInt = 0 := ti_0; omega)
  refine lv_istore (lv' := [(5, .int 0), (0, .ref (h 36)), (1, .int 6), (2, .int 3), (3, .int x2), (4, .int 0)]) hx hb dX3_does_5 hl (by decide) rfl (fun ls hl => ?_)
  refine lv_iload hx hb dX3_does_7 (lv_at hl 0 rfl) ?_
  refine lv_if_lt (tgt := 19) hx hb dX3_does_9 (by decide) (fun c => absurd c (by decide)) (fun c => ?_)
  refine lv_iload hx hb dX3_does_12 (lv_at hl 5 rfl) ?_
  refine lv_bipush (v := 40) hx hb dX3_does_14 bp_40 ?_
  refine lv_icmp_le (tgt := 21) hx hb dX3_does_16 (by decide) (fun c => ?_) (fun c => absurd c (by decide))
  refine sg_gets hx hb hZ 3 rfl hS hown (hts _ (List.mem_cons_of_mem _ mw_173)) (fun _ h9 => h9) dX3_does_21 ?_
  refine lv_iload hx hb dX3_does_24 (lv_at hl 0 rfl) ?_
  refine lv_iconst (v := 4) hx hb dX3_does_26 ic_4 ?_
  refine lv_imul hx hb dX3_does_27 ?_
  refine W.eq (g2 := F0 m 28 ls [.int 0, .ref (za 3)]) (by rw [show (0 * 4 : Int32) = 0 from by decide]) ?_
  refine lv_iload_n hx hb dX3_does_28 rfl (lv_at hl 3 rfl) ?_
  refine lv_iadd hx hb dX3_does_29 ?_
  refine W.eq (g2 := F0 m 30 ls [.int 3, .ref (za 3)]) (by rw [show (0 + 3 : Int32) = 3 from by decide]) ?_
  refine sg_sald hx hb hZ 3 rfl hS (y := 3) (N := 32) (vp_in_iff.mpr (by decide)) dX3_does_30 ?_
  refine W.eq (g2 := F0 m 31 ls [.int 2]) (by rfl) ?_
  refine lv_istore (lv' := [(6, .int 2), (5, .int 0), (0, .ref (h 36)), (1, .int 6), (2, .int 3), (3, .int x2), (4, .int 0)]) hx hb dX3_does_31 hl (by decide) rfl (fun ls hl => ?_)
  refine lv_aload_n hx hb dX3_does_33 rfl (lv_at hl 2 rfl) ?_
  refine sl_gX_36_3_3 (v := 0) hx hb hts hown hK hP (show f 36 3 = 0 from hf_36_3) dX3_does_34 ?_
  refine lv_bipush (v := 24) hx hb dX3_does_37 bp_24 ?_
  refine lv_icmp_ge (tgt := 53) hx hb dX3_does_39 (by decide) (fun c => absurd c (by decide)) (fun c => ?_)
  refine lv_aload_n hx hb dX3_does_42 rfl (lv_at hl 2 rfl) ?_
  refine sl_gX_36_1_3 hx hb hts hown hK hP dX3_does_43 ?_
  refine lv_aload_n hx hb dX3_does_46 rfl (lv_at hl 2 rfl) ?_
  refine sl_gX_36_3_3 (v := 0) hx hb hts hown hK hP (show f 36 3 = 0 from hf_36_3) dX3_does_47 ?_
  refine lv_iload hx hb dX3_does_50 (lv_at hl 0 rfl) ?_
  refine sg_iast hx hb hh hA hK hP hS 38 (by decide) 0 (fun _ => rfl) rfl (i := 0) (x := 2) (vp_in_iff.mpr (by decide)) dX3_does_52 (fun f_35 H locs ef_35 hP hS => ?_)
  have ef_35 : f_35 = sg_up f 38 (sgu (f 38) 0 2) := ef_35
  have hI : sgI loX hiX f_35 := by rw [ef_35]; exact sgI.put hI 38 0 (show 0 ≤ (2 : Int32).toInt ∧ (2 : Int32).toInt ≤ 81 from by decide)
  have hF : sgK WkX3_does_6_3_0_f0_f6 f f_35 := sgK.put hF ef_35 (by rfl)
  exact blk_53 f_35 _ _ _ (hs.trans ((spl_e u_34 (spl_e ef_35 rfl)))) (by have zz36_3 : (f_35 36 3).toInt = 0 := (congrArg Int32.toInt (show f_35 36 3 = 0 from (by rw [ef_35, sg_up_n (by decide)]; exact hf_36_3))).trans (by decide); exact ⟨by omega, by omega⟩) (by have zz36_4 : (f_35 36 4).toInt = 6 := (congrArg Int32.toInt (show f_35 36 4 = 6 from (by rw [ef_35, sg_up_n (by decide)]; exact hf_36_4))).trans (by decide); exact ⟨by omega, by omega⟩) hI hF hP hS (lv_sub hl [2, 5, 6, 1, 0] rfl)

set_option maxHeartbeats 4000000 in
set_option maxRecDepth 100000 in
theorem kX3_ownerOf_7_3 (l : Launch) (D : va_G) (ca : Nat → ClassId) (za h : Nat → Nat) (hh : sgH 52 h) (f : sg_F) (L : sg_L) (Q : sg_Q) (hI : sgI loX hiX f) (sz : Nat) : Met l yX3_ownerOf gwX3_ownerOf { frames := 0, cells := 0, slots := 0, locals := 0 } (sgP D vwCl (tyX ca) 52 h (eX ca h) zcX za f L Q sz [.int 7, .int 3]) (sgQi D vwCl 52 h (eX ca h) sz (fun r f1 L1 Q1 => ((f1 = f ∧ L1 = L ∧ Q1 = Q) ∧ (7 ≤ r.toInt ∧ r.toInt ≤ 7) ∧ (r) = sX3_ownerOf_7_3 f L))) 0 0 (sgA 52 h sz) := by
  refine sg_ofWi (cc := cX3_ownerOf) (maxL := 4) RX3 (by decide) rfl rfl (Nat.le_of_ble_eq_true rfl) ?_
  intro p e s m below meth cd Qz ls hx hb hml hown hts hK hZ hP hS hl hret
  have hA := sgY.self (n := 52) (h := h) (sz := s.heap.size)
  have hl : lv_has ls 4 [(0, .int 7), (1, .int 3)] := hl
  obtain ⟨H, hH⟩ : ∃ z : Heap, z = s.heap := ⟨_, rfl⟩
  obtain ⟨locs, hlo⟩ : ∃ z : List Loc, z = [] := ⟨_, rfl⟩
  have hP : va_P D vwCl (sgw 52 h (eX ca h) f L Q) H := by rw [hH]; exact hP
  have hS : va_S (sgA 52 h s.heap.size) s.heap H locs := by rw [hH, hlo]; exact hS
  suffices hgo : W p l e ({ frames := 0, cells := 0, slots := 0, locals := 0 }) s m ([.int 7, .int 3] : List Value).toArray below meth cd H locs 0 0 Qz (F0 m 0 ls []) by rw [hH, hlo] at hgo; exact hgo
  clear hH hlo
  obtain ⟨sp, hsp⟩ : ∃ z : Int32, z = sX3_ownerOf_7_3 f L := ⟨_, rfl⟩
  have hs : sp = sX3_ownerOf_7_3 f L := hsp
  refine lv_iload_n hx hb dX3_ownerOf_0 rfl (lv_at hl 0 rfl) ?_
  refine lv_istore_n (lv' := [(2, .int 7), (0, .int 7), (1, .int 3)]) hx hb dX3_ownerOf_1 rfl hl (by decide) rfl (fun ls hl => ?_)
  refine lv_iconst (v := 0) hx hb dX3_ownerOf_2 ic_0 ?_
  refine lv_istore_n (lv' := [(3, .int 0), (2, .int 7), (0, .int 7), (1, .int 3)]) hx hb dX3_ownerOf_3 rfl hl (by decide) rfl (fun ls hl => ?_)
  refine lv_iload_n hx hb dX3_ownerOf_4 rfl (lv_at hl 0 rfl) ?_
  refine lv_bipush (v := 8) hx hb dX3_ownerOf_5 bp_8 ?_
  refine lv_icmp_ge (tgt := 40) hx hb dX3_ownerOf_7 (by decide) (fun c => absurd c (by decide)) (fun c => ?_)
  refine lv_iload_n hx hb dX3_ownerOf_10 rfl (lv_at hl 1 rfl) ?_
  refine lv_if_lt (tgt := 40) hx hb dX3_ownerOf_11 (by decide) (fun c => absurd c (by decide)) (fun c => ?_)
  refine sg_gets hx hb hZ 3 rfl hS hown (hts _ (List.mem_cons_of_mem _ mw_173)) (fun _ h9 => h9) dX3_ownerOf_14 ?_
  refine lv_iload_n hx hb dX3_ownerOf_17 rfl (lv_at hl 1 rfl) ?_
  refine lv_iconst (v := 4) hx hb dX3_ownerOf_18 ic_4 ?_
  refine lv_imul hx hb dX3_ownerOf_19 ?_
  refine W.eq (g2 := F0 m 20 ls [.int 28, .ref (za 3)]) (by rw [show (7 * 4 : Int32) = 28 from by decide]) ?_
  refine lv_iload_n hx hb dX3_ownerOf_20 rfl (lv_at hl 3 rfl) ?_
  refine lv_iadd hx hb dX3_ownerOf_21 ?_
  refine W.eq (g2 := F0 m 22 ls [.int 31, .ref (za 3)]) (by rw [show (28 + 3 : Int32) = 31 from by decide]) ?_
  refine sg_sald hx hb hZ 3 rfl hS (y := 31) (N := 32) (vp_in_iff.mpr (by decide)) dX3_ownerOf_22 ?_
  refine W.eq (g2 := F0 m 23 ls [.int 81]) (by rfl) ?_
  refine lv_if_eq (tgt := 28) hx hb dX3_ownerOf_23 (by decide) (fun c => absurd c (by decide)) (fun c => ?_)
  refine lv_iload_n hx hb dX3_ownerOf_26 rfl (lv_at hl 1 rfl) ?_
  have k99 : (7 : Int32).toInt = 7 := ti_7
  exact hret _ _ _ _ (7) f L Q dX3_ownerOf_27 hP hS ⟨⟨rfl, rfl, rfl⟩, (by decide), (Eq.trans (Eq.symm hs) hsp)⟩

set_option maxHeartbeats 4000000 in
set_option maxRecDepth 100000 in
theorem kX3_runs_1_m1_6_f6_f7 (l : Launch) (D : va_G) (ca : Nat → ClassId) (za h : Nat → Nat) (hh : sgH 52 h) (f : sg_F) (L : sg_L) (Q : sg_Q) (hI : sgI loX hiX f) (x2 : Int32) (hf_36_3 : f 36 3 = 6) (hf_36_4 : f 36 4 = 7) (p0 : 6 ≤ (f 36 3).toInt ∧ (f 36 3).toInt ≤ 6) (sz : Nat) : Met l yX3_runs gwX3_runs { frames := 0, cells := 0, slots := 0, locals := 0 } (sgP D vwCl (tyX ca) 52 h (eX ca h) zcX za f L Q sz [.ref (h 36), .int 1, .int (-1), .int x2, .int 6]) (sgQi D vwCl 52 h (eX ca h) sz (fun r f1 L1 Q1 => ((f1 = f ∧ L1 = L ∧ Q1 = Q) ∧ True ∧ (6 ≤ (f1 36 3).toInt ∧ (f1 36 3).toInt ≤ 6) ∧ (r) = sX3_runs_1_m1_6_f6_f7 x2 f L))) 0 0 (sgA 52 h sz) := by
  refine sg_ofWi (cc := cX3_runs) (maxL := 5) RX3 (by decide) rfl rfl (Nat.le_of_ble_eq_true rfl) ?_
  intro p e s m below meth cd Qz ls hx hb hml hown hts hK hZ hP hS hl hret
  have hA := sgY.self (n := 52) (h := h) (sz := s.heap.size)
  have hl : lv_has ls 5 [(0, .ref (h 36)), (1, .int 1), (2, .int (-1)), (3, .int x2), (4, .int 6)] := hl
  obtain ⟨H, hH⟩ : ∃ z : Heap, z = s.heap := ⟨_, rfl⟩
  obtain ⟨locs, hlo⟩ : ∃ z : List Loc, z = [] := ⟨_, rfl⟩
  have hP : va_P D vwCl (sgw 52 h (eX ca h) f L Q) H := by rw [hH]; exact hP
  have hS : va_S (sgA 52 h s.heap.size) s.heap H locs := by rw [hH, hlo]; exact hS
  suffices hgo : W p l e ({ frames := 0, cells := 0, slots := 0, locals := 0 }) s m ([.ref (h 36), .int 1, .int (-1), .int x2, .int 6] : List Value).toArray below meth cd H locs 0 0 Qz (F0 m 0 ls []) by rw [hH, hlo] at hgo; exact hgo
  clear hH hlo
  obtain ⟨sp, hsp⟩ : ∃ z : Int32, z = sX3_runs_1_m1_6_f6_f7 x2 f L := ⟨_, rfl⟩
  have hs : sp = sX3_runs_1_m1_6_f6_f7 x2 f L := hsp
  have o_1 : (f 36 3).toInt = 6 := (congrArg Int32.toInt (show f 36 3 = 6 from hf_36_3)).trans (by decide)
  refine lv_iload_n hx hb dX3_runs_0 rfl (lv_at hl 1 rfl) ?_
  refine lv_lookup (x := 1) (off := 115) (tgt := 116) hx hb dX3_runs_1 (by decide) (by decide) (by decide) ?_
  refine lv_iload_n hx hb dX3_runs_116 rfl (lv_at hl 3 rfl) ?_
  refine lv_aload_n hx hb dX3_runs_117 rfl (lv_at hl 0 rfl) ?_
  refine sl_gX_36_5_3 (v := (f 36 5)) hx hb hts hown hK hP rfl dX3_runs_118 ?_
  refine lv_topi (fun v_2 ev_2 => ?_)
  have q_3 : 0 ≤ v_2.toInt ∧ v_2.toInt ≤ 49 := by rw [ev_2]; exact hI 36 5
  refine lv_iadd hx hb dX3_runs_121 ?_
  refine lv_topi (fun v_4 ev_4 => ?_)
  have q_5 : (f 36 3).toInt = 6 := (congrArg Int32.toInt (show f 36 3 = 6 from hf_36_3)).trans (by decide)
  exact hret _ _ _ _ (v_4) f L Q dX3_runs_122 hP hS ⟨⟨rfl, rfl, rfl⟩, trivial, ⟨by omega, by omega⟩, (Eq.trans (Eq.symm (hs.trans ((spl_e ev_2 (spl_e ev_4 rfl))))) hsp)⟩

abbrev WkX3_does_0_0_5_f5_f7 : List (Nat × Nat × Option Nat) := [(36, 36, some 3), (38, 38, some 5)]
set_option maxHeartbeats 4000000 in
set_option maxRecDepth 100000 in
theorem kX3_does_0_0_5_f5_f7 (l : Launch) (D : va_G) (ca : Nat → ClassId) (za h : Nat → Nat) (hh : sgH 52 h) (f : sg_F) (L : sg_L) (Q : sg_Q) (hI : sgI loX hiX f) (x2 : Int32) (hf_36_3 : f 36 3 = 5) (hf_36_4 : f 36 4 = 7) (p0 : 5 ≤ (f 36 3).toInt ∧ (f 36 3).toInt ≤ 5) (sz : Nat) : Met l yX3_does gwX3_does { frames := 1, cells := 0, slots := 0, locals := 24 } (sgP D vwCl (tyX ca) 52 h (eX ca h) zcX za f L Q sz [.ref (h 36), .int 0, .int 0, .int x2, .int 5]) (sgQi D vwCl 52 h (eX ca h) sz (fun r f1 L1 Q1 => ((sgI loX hiX f1 ∧ sgK WkX3_does_0_0_5_f5_f7 f f1 ∧ L1 = L ∧ Q1 = Q) ∧ True ∧ (6 ≤ (f1 36 3).toInt ∧ (f1 36 3).toInt ≤ 6) ∧ (r, f1) = sX3_does_0_0_5_f5_f7 x2 f L))) 0 0 (sgA 52 h sz) := by
  refine sg_ofWi (cc := cX3_does) (maxL := 7) RX3 (by decide) rfl rfl (Nat.le_of_ble_eq_true rfl) ?_
  intro p e s m below meth cd Qz ls hx hb hml hown hts hK hZ hP hS hl hret
  have hA := sgY.self (n := 52) (h := h) (sz := s.heap.size)
  have hl : lv_has ls 7 [(0, .ref (h 36)), (1, .int 0), (2, .int 0), (3, .int x2), (4, .int 5)] := hl
  obtain ⟨H, hH⟩ : ∃ z : Heap, z = s.heap := ⟨_, rfl⟩
  obtain ⟨locs, hlo⟩ : ∃ z : List Loc, z = [] := ⟨_, rfl⟩
  have hP : va_P D vwCl (sgw 52 h (eX ca h) f L Q) H := by rw [hH]; exact hP
  have hS : va_S (sgA 52 h s.heap.size) s.heap H locs := by rw [hH, hlo]; exact hS
  suffices hgo : W p l e ({ frames := 1, cells := 0, slots := 0, locals := 24 }) s m ([.ref (h 36), .int 0, .int 0, .int x2, .int 5] : List Value).toArray below meth cd H locs 0 0 Qz (F0 m 0 ls []) by rw [hH, hlo] at hgo; exact hgo
  clear hH hlo
  obtain ⟨sp, hsp⟩ : ∃ z : Int32 × sg_F, z = sX3_does_0_0_5_f5_f7 x2 f L := ⟨_, rfl⟩
  have hs : sp = sX3_does_0_0_5_f5_f7 x2 f L := hsp
  have o_1 : (f 36 3).toInt = 5 := (congrArg Int32.toInt (show f 36 3 = 5 from hf_36_3)).trans (by decide)
  have hF : sgK WkX3_does_0_0_5_f5_f7 f f := sgK.rf
  have blk_53 : ∀ (fp_53 : sg_F) (H : Heap) (locs : List Loc) (ls : Array Slot), sp = sX3_does_0_0_5_f5_f7_b53 x2 fp_53 L → 5 ≤ (fp_53 36 3).toInt ∧ (fp_53 36 3).toInt ≤ 5 → 7 ≤ (fp_53 36 4).toInt ∧ (fp_53 36 4).toInt ≤ 7 → sgI loX hiX fp_53 → sgK WkX3_does_0_0_5_f5_f7 f fp_53 → va_P D vwCl (sgw 52 h (eX ca h) fp_53 L Q) H → va_S (sgA 52 h s.heap.size) s.heap H locs → lv_has ls 7 [(0, .ref (h 36)), (3, .int x2), (4, .int 5), (5, .int 0), (6, .int 1)] → W p l e ({ frames := 1, cells := 0, slots := 0, locals := 24 }) s m ([.ref (h 36), .int 0, .int 0, .int x2, .int 5] : List Value).toArray below meth cd H locs 0 0 Qz (F0 m 53 ls []) := by
    intro fp_53 H locs ls hs hy0_53 hy1_53 hI hF hP hS hl
    obtain ⟨v_2, ev_2⟩ : ∃ z : Int32, z = fp_53 36 3 := ⟨_, rfl⟩
    have q_3 : 0 ≤ v_2.toInt ∧ v_2.toInt ≤ 19 := by rw [ev_2]; exact hI 36 3
    have q_4 : (fp_53 36 3).toInt = v_2.toInt := by rw [ev_2]
    obtain ⟨v_5, ev_5⟩ : ∃ z : Int32, z = fp_53 36 4 := ⟨_, rfl⟩
    have q_6 : 0 ≤ v_5.toInt ∧ v_5.toInt ≤ 7 := by rw [ev_5]; exact hI 36 4
    have q_7 : (fp_53 36 4).toInt = v_5.toInt := by rw [ev_5]
    have m_8 : fp_53 36 4 = 7 := (hF 36 4 (by decide)).trans hf_36_4
    refine lv_aload_n hx hb dX3_does_53 rfl (lv_at hl 0 rfl) ?_
    refine lv_dup hx hb dX3_does_54 rfl ?_
    refine sl_gX_36_3_3 (v := v_2) hx hb hts hown hK hP (show fp_53 36 3 = v_2 from ev_2.symm) dX3_does_55 ?_
    refine lv_iconst (v := 1) hx hb dX3_does_58 ic_1 ?_
    refine lv_iadd hx hb dX3_does_59 ?_
    refine lv_topi (fun v_9 ev_9 => ?_)
    have q_10 : v_9.toInt = v_2.toInt + 1 := by rw [ev_9]; first | exact cm_add ti_1 (by omega) (by omega) | (have k1 : (1 : Int32).toInt = 1 := ti_1; exact (bn_addI (by omega) (by omega)).trans (by omega))
    refine sl_pX_36_3_3 (x := v_9) hx hb hts hown hh hA hK hP hS dX3_does_60 (fun f_11 H locs ef_11 hP hS => ?_)
    have hI : sgI loX hiX f_11 := by rw [ef_11]; exact sgI.put hI 36 3 (show 0 ≤ (v_9 : Int32).toInt ∧ (v_9 : Int32).toInt ≤ 19 from ⟨by omega, by omega⟩)
    have hF : sgK WkX3_does_0_0_5_f5_f7 f f_11 := sgK.put hF ef_11 (by rfl)
    refine lv_aload_n hx hb dX3_does_63 rfl (lv_at hl 0 rfl) ?_
    refine lv_iload hx hb dX3_does_64 (lv_at hl 4 rfl) ?_
    refine sg_gets hx hb hZ 2 rfl hS hown (hts _ (List.mem_cons_of_mem _ mw_174)) (fun _ h9 => h9) dX3_does_66 ?_
    refine lv_iload hx hb dX3_does_69 (lv_at hl 3 rfl) ?_
    refine sg_sald hx hb hZ 2 rfl hS (y := 0) (N := 8) (vp_in_iff.mpr (by decide)) dX3_does_71 ?_
    refine W.eq (g2 := F0 m 72 ls [.int (-1), .int 1, .ref (h 36)]) (by rfl) ?_
    refine lv_iload_n hx hb dX3_does_72 rfl (lv_at hl 1 rfl) ?_
    refine lv_iload hx hb dX3_does_73 (lv_at hl 2 rfl) ?_
    refine lv_iconst (v := 1) hx hb dX3_does_75 ic_1 ?_
    refine lv_iadd hx hb dX3_does_76 ?_
    refine W.eq (g2 := F0 m 77 ls [.int 6, .int x2, .int (-1), .int 1, .ref (h 36)]) (by rw [show (5 + 1 : Int32) = 6 from by decide]) ?_
    have c_12 : v_9 = 6 := Int32.toInt_inj.mp (by have k9 : (6 : Int32).toInt = 6 := ti_6; omega)
    have q_13 : (f_11 36 3).toInt = 6 := (congrArg Int32.toInt (show f_11 36 3 = 6 from (Eq.trans (by rw [ef_11, sg_up_s, sgu_s]) c_12))).trans (by decide)
    refine sg_calli (va_runV (As := [.int 1, .int (-1), .int x2, .int 6]) (rest := []) ⟨hx, hb, hml, hown, hts⟩ (kX3_runs_1_m1_6_f6_f7 l D ca za h hh f_11 L Q hI x2 (Eq.trans (by rw [ef_11, sg_up_s, sgu_s]) c_12) (by rw [ef_11, sg_up_s, sgu_n (by decide)]; exact m_8) (by have k0 : (1 : Int32).toInt = 1 := ti_1; have k1 : ((-1) : Int32).toInt = (-1) := ti_m1; have k3 : (6 : Int32).toInt = 6 := ti_6; omega) H.size) (sl_c3_runs_0_0_0_0_3 hts ⟨Nat.le_of_ble_eq_true rfl, Nat.le_of_ble_eq_true rfl⟩) (sl_vX_36 hA hK hP hS hZ) rfl rfl hl.1 rfl (lv_room (Nat.le_of_ble_eq_true rfl)) dX3_does_77 ⟨Nat.le_refl _, Nat.le_refl _⟩) hA hS (fun r_18 f_15 L_16 Q_17 H locs hq hP hS => ?_)
    obtain ⟨⟨ef9, eL9, eQ9⟩, hq, p_19, u_20⟩ := hq
    rw [ef9, eL9, eQ9] at hP; clear ef9 eL9 eQ9
    have k_23 : (1 : Int32).toInt = 1 := by decide
    have k_24 : ((-1) : Int32).toInt = (-1) := by decide
    have k_25 : (6 : Int32).toInt = 6 := by decide
    exact hret _ _ _ _ (r_18) f_11 L Q dX3_does_80 hP hS ⟨⟨hI, hF, rfl, rfl⟩, trivial, ⟨by omega, by omega⟩, (Eq.trans (Eq.symm (hs.trans ((spl_e ev_2 (spl_e ev_5 (spl_e ev_9 (spl_e ef_11 (spl_e u_20 rfl)))))))) hsp)⟩
  refine lv_iload_n hx hb dX3_does_0 rfl (lv_at hl 1 rfl) ?_
  refine lv_iload_n hx hb dX3_does_1 rfl (lv_at hl 2 rfl) ?_
  refine sg_calli (va_runS (As := [.int 0, .int 0]) (rest := []) ⟨hx, hb, hml, hown, hts⟩ (kX3_ownerOf_0_0 l D ca za h hh f L Q hI H.size) (va_cwS 2 hts (gw_S (fun _ h => List.mem_cons_of_mem _ h) mw_189 mw_190 mw_47 mw_188) rfl rfl rfl hd_yX3_ownerOf.2 ⟨Nat.le_of_ble_eq_true rfl, Nat.le_of_ble_eq_true rfl⟩) (sg_preS hA hK hP hS hZ) rfl rfl hl.1 rfl (lv_room (Nat.le_of_ble_eq_true rfl)) dX3_does_2 ⟨Nat.le_refl _, Nat.le_refl _⟩) hA hS (fun r_31 f_28 L_29 Q_30 H locs hq hP hS => ?_)
  obtain ⟨⟨ef9, eL9, eQ9⟩, hq, u_32⟩ := hq
  rw [ef9, eL9, eQ9] at hP; clear ef9 eL9 eQ9
  obtain rfl : r_31 = 0 := Int32.toInt_inj.mp (by have k9 : (0 : Int32).toInt = 0 := ti_0; omega)
  refine lv_istore (lv' := [(5, .int 0), (0, .ref (h 36)), (1, .int 0), (2, .int 0), (3, .int x2), (4, .int 5)]) hx hb dX3_does_5 hl (by decide) rfl (fun ls hl => ?_)
  refine lv_iload hx hb dX3_does_7 (lv_at hl 0 rfl) ?_
  refine lv_if_lt (tgt := 19) hx hb dX3_does_9 (by decide) (fun c => absurd c (by decide)) (fun c => ?_)
  refine lv_iload hx hb dX3_does_12 (lv_at hl 5 rfl) ?_
  refine lv_bipush (v := 40) hx hb dX3_does_14 bp_40 ?_
  refine lv_icmp_le (tgt := 21) hx hb dX3_does_16 (by decide) (fun c => ?_) (fun c => absurd c (by decide))
  refine sg_gets hx hb hZ 3 rfl hS hown (hts _ (List.mem_cons_of_mem _ mw_173)) (fun _ h9 => h9) dX3_does_21 ?_
  refine lv_iload hx hb dX3_does_24 (lv_at hl 0 rfl) ?_
  refine lv_iconst (v := 4) hx hb dX3_does_26 ic_4 ?_
  refine lv_imul hx hb dX3_does_27 ?_
  refine W.eq (g2 := F0 m 28 ls [.int 0, .ref (za 3)]) (by rw [show (0 * 4 : Int32) = 0 from by decide]) ?_
  refine lv_iload_n hx hb dX3_does_28 rfl (lv_at hl 3 rfl) ?_
  refine lv_iadd hx hb dX3_does_29 ?_
  refine W.eq (g2 := F0 m 30 ls [.int 0, .ref (za 3)]) (by rw [show (0 + 0 : Int32) = 0 from by decide]) ?_
  refine sg_sald hx hb hZ 3 rfl hS (y := 0) (N := 32) (vp_in_iff.mpr (by decide)) dX3_does_30 ?_
  refine W.eq (g2 := F0 m 31 ls [.int 1]) (by rfl) ?_
  refine lv_istore (lv' := [(6, .int 1), (5, .int 0), (0, .ref (h 36)), (1, .int 0), (2, .int 0), (3, .int x2), (4, .int 5)]) hx hb dX3_does_31 hl (by decide) rfl (fun ls hl => ?_)
  refine lv_aload_n hx hb dX3_does_33 rfl (lv_at hl 2 rfl) ?_
  refine sl_gX_36_3_3 (v := 5) hx hb hts hown hK hP (show f 36 3 = 5 from hf_36_3) dX3_does_34 ?_
  refine lv_bipush (v := 24) hx hb dX3_does_37 bp_24 ?_
  refine lv_icmp_ge (tgt := 53) hx hb dX3_does_39 (by decide) (fun c => absurd c (by decide)) (fun c => ?_)
  refine lv_aload_n hx hb dX3_does_42 rfl (lv_at hl 2 rfl) ?_
  refine sl_gX_36_1_3 hx hb hts hown hK hP dX3_does_43 ?_
  refine lv_aload_n hx hb dX3_does_46 rfl (lv_at hl 2 rfl) ?_
  refine sl_gX_36_3_3 (v := 5) hx hb hts hown hK hP (show f 36 3 = 5 from hf_36_3) dX3_does_47 ?_
  refine lv_iload hx hb dX3_does_50 (lv_at hl 0 rfl) ?_
  refine sg_iast hx hb hh hA hK hP hS 38 (by decide) 0 (fun _ => rfl) rfl (i := 5) (x := 1) (vp_in_iff.mpr (by decide)) dX3_does_52 (fun f_33 H locs ef_33 hP hS => ?_)
  have ef_33 : f_33 = sg_up f 38 (sgu (f 38) 5 1) := ef_33
  have hI : sgI loX hiX f_33 := by rw [ef_33]; exact sgI.put hI 38 5 (show 0 ≤ (1 : Int32).toInt ∧ (1 : Int32).toInt ≤ 81 from by decide)
  have hF : sgK WkX3_does_0_0_5_f5_f7 f f_33 := sgK.put hF ef_33 (by rfl)
  exact blk_53 f_33 _ _ _ (hs.trans ((spl_e u_32 (spl_e ef_33 rfl)))) (by have zz36_3 : (f_33 36 3).toInt = 5 := (congrArg Int32.toInt (show f_33 36 3 = 5 from (by rw [ef_33, sg_up_n (by decide)]; exact hf_36_3))).trans (by decide); exact ⟨by omega, by omega⟩) (by have zz36_4 : (f_33 36 4).toInt = 7 := (congrArg Int32.toInt (show f_33 36 4 = 7 from (by rw [ef_33, sg_up_n (by decide)]; exact hf_36_4))).trans (by decide); exact ⟨by omega, by omega⟩) hI hF hP hS (lv_sub hl [2, 5, 6, 1, 0] rfl)

abbrev WkX3_runs_20_0_5_f5_f7 : List (Nat × Nat × Option Nat) := [(36, 36, some 3), (38, 38, some 5)]
set_option maxHeartbeats 4000000 in
set_option maxRecDepth 100000 in
theorem kX3_runs_20_0_5_f5_f7 (l : Launch) (D : va_G) (ca : Nat → ClassId) (za h : Nat → Nat) (hh : sgH 52 h) (f : sg_F) (L : sg_L) (Q : sg_Q) (hI : sgI loX hiX f) (x2 : Int32) (hf_36_3 : f 36 3 = 5) (hf_36_4 : f 36 4 = 7) (p0 : 5 ≤ (f 36 3).toInt ∧ (f 36 3).toInt ≤ 5) (sz : Nat) : Met l yX3_runs gwX3_runs { frames := 2, cells := 0, slots := 0, locals := 50 } (sgP D vwCl (tyX ca) 52 h (eX ca h) zcX za f L Q sz [.ref (h 36), .int 20, .int 0, .int x2, .int 5]) (sgQi D vwCl 52 h (eX ca h) sz (fun r f1 L1 Q1 => ((sgI loX hiX f1 ∧ sgK WkX3_runs_20_0_5_f5_f7 f f1 ∧ L1 = L ∧ Q1 = Q) ∧ True ∧ (6 ≤ (f1 36 3).toInt ∧ (f1 36 3).toInt ≤ 6) ∧ (r, f1) = sX3_runs_20_0_5_f5_f7 x2 f L))) 0 0 (sgA 52 h sz) := by
  refine sg_ofWi (cc := cX3_runs) (maxL := 5) RX3 (by decide) rfl rfl (Nat.le_of_ble_eq_true rfl) ?_
  intro p e s m below meth cd Qz ls hx hb hml hown hts hK hZ hP hS hl hret
  have hA := sgY.self (n := 52) (h := h) (sz := s.heap.size)
  have hl : lv_has ls 5 [(0, .ref (h 36)), (1, .int 20), (2, .int 0), (3, .int x2), (4, .int 5)] := hl
  obtain ⟨H, hH⟩ : ∃ z : Heap, z = s.heap := ⟨_, rfl⟩
  obtain ⟨locs, hlo⟩ : ∃ z : List Loc, z = [] := ⟨_, rfl⟩
  have hP : va_P D vwCl (sgw 52 h (eX ca h) f L Q) H := by rw [hH]; exact hP
  have hS : va_S (sgA 52 h s.heap.size) s.heap H locs := by rw [hH, hlo]; exact hS
  suffices hgo : W p l e ({ frames := 2, cells := 0, slots := 0, locals := 50 }) s m ([.ref (h 36), .int 20, .int 0, .int x2, .int 5] : List Value).toArray below meth cd H locs 0 0 Qz (F0 m 0 ls []) by rw [hH, hlo] at hgo; exact hgo
  clear hH hlo
  obtain ⟨sp, hsp⟩ : ∃ z : Int32 × sg_F, z = sX3_runs_20_0_5_f5_f7 x2 f L := ⟨_, rfl⟩
  have hs : sp = sX3_runs_20_0_5_f5_f7 x2 f L := hsp
  have o_1 : (f 36 3).toInt = 5 := (congrArg Int32.toInt (show f 36 3 = 5 from hf_36_3)).trans (by decide)
  have hF : sgK WkX3_runs_20_0_5_f5_f7 f f := sgK.rf
  refine lv_iload_n hx hb dX3_runs_0 rfl (lv_at hl 1 rfl) ?_
  refine lv_lookup (x := 20) (off := 170) (tgt := 171) hx hb dX3_runs_1 (by decide) (by decide) (by decide) ?_
  refine lv_aload_n hx hb dX3_runs_171 rfl (lv_at hl 0 rfl) ?_
  refine lv_iload_n hx hb dX3_runs_172 rfl (lv_at hl 2 rfl) ?_
  refine lv_iconst (v := 0) hx hb dX3_runs_173 ic_0 ?_
  refine lv_iload_n hx hb dX3_runs_174 rfl (lv_at hl 3 rfl) ?_
  refine lv_iload hx hb dX3_runs_175 (lv_at hl 4 rfl) ?_
  have q_2 : (f 36 3).toInt = 5 := (congrArg Int32.toInt (show f 36 3 = 5 from hf_36_3)).trans (by decide)
  refine sg_calli (va_runV (As := [.int 0, .int 0, .int x2, .int 5]) (rest := []) ⟨hx, hb, hml, hown, hts⟩ (kX3_does_0_0_5_f5_f7 l D ca za h hh f L Q hI x2 hf_36_3 hf_36_4 (by have k0 : (0 : Int32).toInt = 0 := ti_0; have k1 : (0 : Int32).toInt = 0 := ti_0; have k3 : (5 : Int32).toInt = 5 := ti_5; omega) H.size) (sl_c3_does_1_0_0_24_3 hts ⟨Nat.le_of_ble_eq_true rfl, Nat.le_of_ble_eq_true rfl⟩) (sl_vX_36 hA hK hP hS hZ) rfl rfl hl.1 rfl (lv_room (Nat.le_of_ble_eq_true rfl)) dX3_runs_177 ⟨Nat.le_refl _, Nat.le_refl _⟩) hA hS (fun r_7 f_4 L_5 Q_6 H locs hq hP hS => ?_)
  obtain ⟨⟨hI, hk_f_4, eL9, eQ9⟩, hq, p_8, u_9⟩ := hq
  rw [eL9, eQ9] at hP; clear eL9 eQ9
  have hF : sgK WkX3_runs_20_0_5_f5_f7 f f_4 := sgK.tr hF hk_f_4 (by decide +kernel)
  obtain ⟨v_10, ev_10⟩ : ∃ z : Int32, z = f_4 36 3 := ⟨_, rfl⟩
  have q_11 : 0 ≤ v_10.toInt ∧ v_10.toInt ≤ 19 := by rw [ev_10]; exact hI 36 3
  have q_12 : (f_4 36 3).toInt = v_10.toInt := (congrArg Int32.toInt (show f_4 36 3 = v_10 from ev_10.symm))
  have k_14 : (0 : Int32).toInt = 0 := by decide
  have k_15 : (0 : Int32).toInt = 0 := by decide
  have k_16 : (5 : Int32).toInt = 5 := by decide
  refine lv_iconst (v := 3) hx hb dX3_runs_180 ic_3 ?_
  refine lv_iadd hx hb dX3_runs_181 ?_
  refine lv_topi (fun v_17 ev_17 => ?_)
  exact hret _ _ _ _ (v_17) f_4 L Q dX3_runs_182 hP hS ⟨⟨hI, hF, rfl, rfl⟩, trivial, ⟨by omega, by omega⟩, (Eq.trans (Eq.symm (hs.trans ((spl2_e u_9 (spl_e ev_10 (spl_e ev_17 rfl)))))) hsp)⟩

abbrev WkX3_does_7_0_4_f4_f7 : List (Nat × Nat × Option Nat) := [(36, 36, some 3), (38, 38, some 4), (38, 38, some 5)]
set_option maxHeartbeats 4000000 in
set_option maxRecDepth 100000 in
theorem kX3_does_7_0_4_f4_f7 (l : Launch) (D : va_G) (ca : Nat → ClassId) (za h : Nat → Nat) (hh : sgH 52 h) (f : sg_F) (L : sg_L) (Q : sg_Q) (hI : sgI loX hiX f) (x2 : Int32) (hf_36_3 : f 36 3 = 4) (hf_36_4 : f 36 4 = 7) (p0 : 4 ≤ (f 36 3).toInt ∧ (f 36 3).toInt ≤ 4) (sz : Nat) : Met l yX3_does gwX3_does { frames := 3, cells := 0, slots := 0, locals := 74 } (sgP D vwCl (tyX ca) 52 h (eX ca h) zcX za f L Q sz [.ref (h 36), .int 7, .int 0, .int x2, .int 4]) (sgQi D vwCl 52 h (eX ca h) sz (fun r f1 L1 Q1 => ((sgI loX hiX f1 ∧ sgK WkX3_does_7_0_4_f4_f7 f f1 ∧ L1 = L ∧ Q1 = Q) ∧ True ∧ (6 ≤ (f1 36 3).toInt ∧ (f1 36 3).toInt ≤ 6) ∧ (r, f1) = sX3_does_7_0_4_f4_f7 x2 f L))) 0 0 (sgA 52 h sz) := by
  refine sg_ofWi (cc := cX3_does) (maxL := 7) RX3 (by decide) rfl rfl (Nat.le_of_ble_eq_true rfl) ?_
  intro p e s m below meth cd Qz ls hx hb hml hown hts hK hZ hP hS hl hret
  have hA := sgY.self (n := 52) (h := h) (sz := s.heap.size)
  have hl : lv_has ls 7 [(0, .ref (h 36)), (1, .int 7), (2, .int 0), (3, .int x2), (4, .int 4)] := hl
  obtain ⟨H, hH⟩ : ∃ z : Heap, z = s.heap := ⟨_, rfl⟩
  obtain ⟨locs, hlo⟩ : ∃ z : List Loc, z = [] := ⟨_, rfl⟩
  have hP : va_P D vwCl (sgw 52 h (eX ca h) f L Q) H := by rw [hH]; exact hP
  have hS : va_S (sgA 52 h s.heap.size) s.heap H locs := by rw [hH, hlo]; exact hS
  suffices hgo : W p l e ({ frames := 3, cells := 0, slots := 0, locals := 74 }) s m ([.ref (h 36), .int 7, .int 0, .int x2, .int 4] : List Value).toArray below meth cd H locs 0 0 Qz (F0 m 0 ls []) by rw [hH, hlo] at hgo; exact hgo
  clear hH hlo
  obtain ⟨sp, hsp⟩ : ∃ z : Int32 × sg_F, z = sX3_does_7_0_4_f4_f7 x2 f L := ⟨_, rfl⟩
  have hs : sp = sX3_does_7_0_4_f4_f7 x2 f L := hsp
  have o_1 : (f 36 3).toInt = 4 := (congrArg Int32.toInt (show f 36 3 = 4 from hf_36_3)).trans (by decide)
  have hF : sgK WkX3_does_7_0_4_f4_f7 f f := sgK.rf
  have blk_53 : ∀ (fp_53 : sg_F) (H : Heap) (locs : List Loc) (ls : Array Slot), sp = sX3_does_7_0_4_f4_f7_b53 x2 fp_53 L → 4 ≤ (fp_53 36 3).toInt ∧ (fp_53 36 3).toInt ≤ 4 → 7 ≤ (fp_53 36 4).toInt ∧ (fp_53 36 4).toInt ≤ 7 → sgI loX hiX fp_53 → sgK WkX3_does_7_0_4_f4_f7 f fp_53 → va_P D vwCl (sgw 52 h (eX ca h) fp_53 L Q) H → va_S (sgA 52 h s.heap.size) s.heap H locs → lv_has ls 7 [(0, .ref (h 36)), (3, .int x2), (4, .int 4), (5, .int 1), (6, .int 20)] → W p l e ({ frames := 3, cells := 0, slots := 0, locals := 74 }) s m ([.ref (h 36), .int 7, .int 0, .int x2, .int 4] : List Value).toArray below meth cd H locs 0 0 Qz (F0 m 53 ls []) := by
    intro fp_53 H locs ls hs hy0_53 hy1_53 hI hF hP hS hl
    obtain ⟨v_2, ev_2⟩ : ∃ z : Int32, z = fp_53 36 3 := ⟨_, rfl⟩
    have q_3 : 0 ≤ v_2.toInt ∧ v_2.toInt ≤ 19 := by rw [ev_2]; exact hI 36 3
    have q_4 : (fp_53 36 3).toInt = v_2.toInt := by rw [ev_2]
    obtain ⟨v_5, ev_5⟩ : ∃ z : Int32, z = fp_53 36 4 := ⟨_, rfl⟩
    have q_6 : 0 ≤ v_5.toInt ∧ v_5.toInt ≤ 7 := by rw [ev_5]; exact hI 36 4
    have q_7 : (fp_53 36 4).toInt = v_5.toInt := by rw [ev_5]
    have m_8 : fp_53 36 4 = 7 := (hF 36 4 (by decide)).trans hf_36_4
    refine lv_aload_n hx hb dX3_does_53 rfl (lv_at hl 0 rfl) ?_
    refine lv_dup hx hb dX3_does_54 rfl ?_
    refine sl_gX_36_3_3 (v := v_2) hx hb hts hown hK hP (show fp_53 36 3 = v_2 from ev_2.symm) dX3_does_55 ?_
    refine lv_iconst (v := 1) hx hb dX3_does_58 ic_1 ?_
    refine lv_iadd hx hb dX3_does_59 ?_
    refine lv_topi (fun v_9 ev_9 => ?_)
    have q_10 : v_9.toInt = v_2.toInt + 1 := by rw [ev_9]; first | exact cm_add ti_1 (by omega) (by omega) | (have k1 : (1 : Int32).toInt = 1 := ti_1; exact (bn_addI (by omega) (by omega)).trans (by omega))
    refine sl_pX_36_3_3 (x := v_9) hx hb hts hown hh hA hK hP hS dX3_does_60 (fun f_11 H locs ef_11 hP hS => ?_)
    have hI : sgI loX hiX f_11 := by rw [ef_11]; exact sgI.put hI 36 3 (show 0 ≤ (v_9 : Int32).toInt ∧ (v_9 : Int32).toInt ≤ 19 from ⟨by omega, by omega⟩)
    have hF : sgK WkX3_does_7_0_4_f4_f7 f f_11 := sgK.put hF ef_11 (by rfl)
    refine lv_aload_n hx hb dX3_does_63 rfl (lv_at hl 0 rfl) ?_
    refine lv_iload hx hb dX3_does_64 (lv_at hl 4 rfl) ?_
    refine sg_gets hx hb hZ 2 rfl hS hown (hts _ (List.mem_cons_of_mem _ mw_174)) (fun _ h9 => h9) dX3_does_66 ?_
    refine lv_iload hx hb dX3_does_69 (lv_at hl 3 rfl) ?_
    refine sg_sald hx hb hZ 2 rfl hS (y := 1) (N := 8) (vp_in_iff.mpr (by decide)) dX3_does_71 ?_
    refine W.eq (g2 := F0 m 72 ls [.int 0, .int 20, .ref (h 36)]) (by rfl) ?_
    refine lv_iload_n hx hb dX3_does_72 rfl (lv_at hl 1 rfl) ?_
    refine lv_iload hx hb dX3_does_73 (lv_at hl 2 rfl) ?_
    refine lv_iconst (v := 1) hx hb dX3_does_75 ic_1 ?_
    refine lv_iadd hx hb dX3_does_76 ?_
    refine W.eq (g2 := F0 m 77 ls [.int 5, .int x2, .int 0, .int 20, .ref (h 36)]) (by rw [show (4 + 1 : Int32) = 5 from by decide]) ?_
    have c_12 : v_9 = 5 := Int32.toInt_inj.mp (by have k9 : (5 : Int32).toInt = 5 := ti_5; omega)
    have q_13 : (f_11 36 3).toInt = 5 := (congrArg Int32.toInt (show f_11 36 3 = 5 from (Eq.trans (by rw [ef_11, sg_up_s, sgu_s]) c_12))).trans (by decide)
    refine sg_calli (va_runV (As := [.int 20, .int 0, .int x2, .int 5]) (rest := []) ⟨hx, hb, hml, hown, hts⟩ (kX3_runs_20_0_5_f5_f7 l D ca za h hh f_11 L Q hI x2 (Eq.trans (by rw [ef_11, sg_up_s, sgu_s]) c_12) (by rw [ef_11, sg_up_s, sgu_n (by decide)]; exact m_8) (by have k0 : (20 : Int32).toInt = 20 := ti_20; have k1 : (0 : Int32).toInt = 0 := ti_0; have k3 : (5 : Int32).toInt = 5 := ti_5; omega) H.size) (sl_c3_runs_2_0_0_50_3 hts ⟨Nat.le_of_ble_eq_true rfl, Nat.le_of_ble_eq_true rfl⟩) (sl_vX_36 hA hK hP hS hZ) rfl rfl hl.1 rfl (lv_room (Nat.le_of_ble_eq_true rfl)) dX3_does_77 ⟨Nat.le_refl _, Nat.le_refl _⟩) hA hS (fun r_18 f_15 L_16 Q_17 H locs hq hP hS => ?_)
    obtain ⟨⟨hI, hk_f_15, eL9, eQ9⟩, hq, p_19, u_20⟩ := hq
    rw [eL9, eQ9] at hP; clear eL9 eQ9
    have hF : sgK WkX3_does_7_0_4_f4_f7 f f_15 := sgK.tr hF hk_f_15 (by decide +kernel)
    obtain ⟨v_21, ev_21⟩ : ∃ z : Int32, z = f_15 36 3 := ⟨_, rfl⟩
    have q_22 : 0 ≤ v_21.toInt ∧ v_21.toInt ≤ 19 := by rw [ev_21]; exact hI 36 3
    have q_23 : (f_15 36 3).toInt = v_21.toInt := (congrArg Int32.toInt (show f_15 36 3 = v_21 from ev_21.symm))
    have k_25 : (20 : Int32).toInt = 20 := by decide
    have k_26 : (0 : Int32).toInt = 0 := by decide
    have k_27 : (5 : Int32).toInt = 5 := by decide
    exact hret _ _ _ _ (r_18) f_15 L Q dX3_does_80 hP hS ⟨⟨hI, hF, rfl, rfl⟩, trivial, ⟨by omega, by omega⟩, (Eq.trans (Eq.symm (hs.trans ((spl_e ev_2 (spl_e ev_5 (spl_e ev_9 (spl_e ef_11 (spl2_e u_20 (spl_e ev_21 rfl))))))))) hsp)⟩
  refine lv_iload_n hx hb dX3_does_0 rfl (lv_at hl 1 rfl) ?_
  refine lv_iload_n hx hb dX3_does_1 rfl (lv_at hl 2 rfl) ?_
  refine sg_calli (va_runS (As := [.int 7, .int 0]) (rest := []) ⟨hx, hb, hml, hown, hts⟩ (kX3_ownerOf_7_0 l D ca za h hh f L Q hI H.size) (va_cwS 2 hts (gw_S (fun _ h => List.mem_cons_of_mem _ h) mw_189 mw_190 mw_47 mw_188) rfl rfl rfl hd_yX3_ownerOf.2 ⟨Nat.le_of_ble_eq_true rfl, Nat.le_of_ble_eq_true rfl⟩) (sg_preS hA hK hP hS hZ) rfl rfl hl.1 rfl (lv_room (Nat.le_of_ble_eq_true rfl)) dX3_does_2 ⟨Nat.le_refl _, Nat.le_refl _⟩) hA hS (fun r_33 f_30 L_31 Q_32 H locs hq hP hS => ?_)
  obtain ⟨⟨ef9, eL9, eQ9⟩, hq, u_34⟩ := hq
  rw [ef9, eL9, eQ9] at hP; clear ef9 eL9 eQ9
  obtain rfl : r_33 = 1 := Int32.toInt_inj.mp (by have k9 : (1 : Int32).toInt = 1 := ti_1; omega)
  refine lv_istore (lv' := [(5, .int 1), (0, .ref (h 36)), (1, .int 7), (2, .int 0), (3, .int x2), (4, .int 4)]) hx hb dX3_does_5 hl (by decide) rfl (fun ls hl => ?_)
  refine lv_iload hx hb dX3_does_7 (lv_at hl 0 rfl) ?_
  refine lv_if_lt (tgt := 19) hx hb dX3_does_9 (by decide) (fun c => absurd c (by decide)) (fun c => ?_)
  refine lv_iload hx hb dX3_does_12 (lv_at hl 5 rfl) ?_
  refine lv_bipush (v := 40) hx hb dX3_does_14 bp_40 ?_
  refine lv_icmp_le (tgt := 21) hx hb dX3_does_16 (by decide) (fun c => ?_) (fun c => absurd c (by decide))
  refine sg_gets hx hb hZ 3 rfl hS hown (hts _ (List.mem_cons_of_mem _ mw_173)) (fun _ h9 => h9) dX3_does_21 ?_
  refine lv_iload hx hb dX3_does_24 (lv_at hl 0 rfl) ?_
  refine lv_iconst (v := 4) hx hb dX3_does_26 ic_4 ?_
  refine lv_imul hx hb dX3_does_27 ?_
  refine W.eq (g2 := F0 m 28 ls [.int 4, .ref (za 3)]) (by rw [show (1 * 4 : Int32) = 4 from by decide]) ?_
  refine lv_iload_n hx hb dX3_does_28 rfl (lv_at hl 3 rfl) ?_
  refine lv_iadd hx hb dX3_does_29 ?_
  refine W.eq (g2 := F0 m 30 ls [.int 4, .ref (za 3)]) (by rw [show (4 + 0 : Int32) = 4 from by decide]) ?_
  refine sg_sald hx hb hZ 3 rfl hS (y := 4) (N := 32) (vp_in_iff.mpr (by decide)) dX3_does_30 ?_
  refine W.eq (g2 := F0 m 31 ls [.int 20]) (by rfl) ?_
  refine lv_istore (lv' := [(6, .int 20), (5, .int 1), (0, .ref (h 36)), (1, .int 7), (2, .int 0), (3, .int x2), (4, .int 4)]) hx hb dX3_does_31 hl (by decide) rfl (fun ls hl => ?_)
  refine lv_aload_n hx hb dX3_does_33 rfl (lv_at hl 2 rfl) ?_
  refine sl_gX_36_3_3 (v := 4) hx hb hts hown hK hP (show f 36 3 = 4 from hf_36_3) dX3_does_34 ?_
  refine lv_bipush (v := 24) hx hb dX3_does_37 bp_24 ?_
  refine lv_icmp_ge (tgt := 53) hx hb dX3_does_39 (by decide) (fun c => absurd c (by decide)) (fun c => ?_)
  refine lv_aload_n hx hb dX3_does_42 rfl (lv_at hl 2 rfl) ?_
  refine sl_gX_36_1_3 hx hb hts hown hK hP dX3_does_43 ?_
  refine lv_aload_n hx hb dX3_does_46 rfl (lv_at hl 2 rfl) ?_
  refine sl_gX_36_3_3 (v := 4) hx hb hts hown hK hP (show f 36 3 = 4 from hf_36_3) dX3_does_47 ?_
  refine lv_iload hx hb dX3_does_50 (lv_at hl 0 rfl) ?_
  refine sg_iast hx hb hh hA hK hP hS 38 (by decide) 0 (fun _ => rfl) rfl (i := 4) (x := 20) (vp_in_iff.mpr (by decide)) dX3_does_52 (fun f_35 H locs ef_35 hP hS => ?_)
  have ef_35 : f_35 = sg_up f 38 (sgu (f 38) 4 20) := ef_35
  have hI : sgI loX hiX f_35 := by rw [ef_35]; exact sgI.put hI 38 4 (show 0 ≤ (20 : Int32).toInt ∧ (20 : Int32).toInt ≤ 81 from by decide)
  have hF : sgK WkX3_does_7_0_4_f4_f7 f f_35 := sgK.put hF ef_35 (by rfl)
  exact blk_53 f_35 _ _ _ (hs.trans ((spl_e u_34 (spl_e ef_35 rfl)))) (by have zz36_3 : (f_35 36 3).toInt = 4 := (congrArg Int32.toInt (show f_35 36 3 = 4 from (by rw [ef_35, sg_up_n (by decide)]; exact hf_36_3))).trans (by decide); exact ⟨by omega, by omega⟩) (by have zz36_4 : (f_35 36 4).toInt = 7 := (congrArg Int32.toInt (show f_35 36 4 = 7 from (by rw [ef_35, sg_up_n (by decide)]; exact hf_36_4))).trans (by decide); exact ⟨by omega, by omega⟩) hI hF hP hS (lv_sub hl [2, 5, 6, 1, 0] rfl)

abbrev WkX3_runs_10_m1_4_f4_f7 : List (Nat × Nat × Option Nat) := [(36, 36, some 3), (38, 38, some 4), (38, 38, some 5)]
set_option maxHeartbeats 4000000 in
set_option maxRecDepth 100000 in
theorem kX3_runs_10_m1_4_f4_f7 (l : Launch) (D : va_G) (ca : Nat → ClassId) (za h : Nat → Nat) (hh : sgH 52 h) (f : sg_F) (L : sg_L) (Q : sg_Q) (hI : sgI loX hiX f) (x2 : Int32) (hf_36_3 : f 36 3 = 4) (hf_36_4 : f 36 4 = 7) (p0 : 4 ≤ (f 36 3).toInt ∧ (f 36 3).toInt ≤ 4) (sz : Nat) : Met l yX3_runs gwX3_runs { frames := 4, cells := 0, slots := 0, locals := 100 } (sgP D vwCl (tyX ca) 52 h (eX ca h) zcX za f L Q sz [.ref (h 36), .int 10, .int (-1), .int x2, .int 4]) (sgQi D vwCl 52 h (eX ca h) sz (fun r f1 L1 Q1 => ((sgI loX hiX f1 ∧ sgK WkX3_runs_10_m1_4_f4_f7 f f1 ∧ L1 = L ∧ Q1 = Q) ∧ True ∧ (6 ≤ (f1 36 3).toInt ∧ (f1 36 3).toInt ≤ 6) ∧ (r, f1) = sX3_runs_10_m1_4_f4_f7 x2 f L))) 0 0 (sgA 52 h sz) := by
  refine sg_ofWi (cc := cX3_runs) (maxL := 5) RX3 (by decide) rfl rfl (Nat.le_of_ble_eq_true rfl) ?_
  intro p e s m below meth cd Qz ls hx hb hml hown hts hK hZ hP hS hl hret
  have hA := sgY.self (n := 52) (h := h) (sz := s.heap.size)
  have hl : lv_has ls 5 [(0, .ref (h 36)), (1, .int 10), (2, .int (-1)), (3, .int x2), (4, .int 4)] := hl
  obtain ⟨H, hH⟩ : ∃ z : Heap, z = s.heap := ⟨_, rfl⟩
  obtain ⟨locs, hlo⟩ : ∃ z : List Loc, z = [] := ⟨_, rfl⟩
  have hP : va_P D vwCl (sgw 52 h (eX ca h) f L Q) H := by rw [hH]; exact hP
  have hS : va_S (sgA 52 h s.heap.size) s.heap H locs := by rw [hH, hlo]; exact hS
  suffices hgo : W p l e ({ frames := 4, cells := 0, slots := 0, locals := 100 }) s m ([.ref (h 36), .int 10, .int (-1), .int x2, .int 4] : List Value).toArray below meth cd H locs 0 0 Qz (F0 m 0 ls []) by rw [hH, hlo] at hgo; exact hgo
  clear hH hlo
  obtain ⟨sp, hsp⟩ : ∃ z : Int32 × sg_F, z = sX3_runs_10_m1_4_f4_f7 x2 f L := ⟨_, rfl⟩
  have hs : sp = sX3_runs_10_m1_4_f4_f7 x2 f L := hsp
  have o_1 : (f 36 3).toInt = 4 := (congrArg Int32.toInt (show f 36 3 = 4 from hf_36_3)).trans (by decide)
  have hF : sgK WkX3_runs_10_m1_4_f4_f7 f f := sgK.rf
  refine lv_iload_n hx hb dX3_runs_0 rfl (lv_at hl 1 rfl) ?_
  refine lv_lookup (x := 10) (off := 148) (tgt := 149) hx hb dX3_runs_1 (by decide) (by decide) (by decide) ?_
  refine lv_aload_n hx hb dX3_runs_149 rfl (lv_at hl 0 rfl) ?_
  refine lv_aload_n hx hb dX3_runs_150 rfl (lv_at hl 0 rfl) ?_
  refine sl_gX_36_4_3 (v := 7) hx hb hts hown hK hP (show f 36 4 = 7 from hf_36_4) dX3_runs_151 ?_
  refine lv_iconst (v := 0) hx hb dX3_runs_154 ic_0 ?_
  refine lv_iload_n hx hb dX3_runs_155 rfl (lv_at hl 3 rfl) ?_
  refine lv_iload hx hb dX3_runs_156 (lv_at hl 4 rfl) ?_
  have q_2 : (f 36 3).toInt = 4 := (congrArg Int32.toInt (show f 36 3 = 4 from hf_36_3)).trans (by decide)
  refine sg_calli (va_runV (As := [.int 7, .int 0, .int x2, .int 4]) (rest := []) ⟨hx, hb, hml, hown, hts⟩ (kX3_does_7_0_4_f4_f7 l D ca za h hh f L Q hI x2 hf_36_3 hf_36_4 (by have k0 : (7 : Int32).toInt = 7 := ti_7; have k1 : (0 : Int32).toInt = 0 := ti_0; have k3 : (4 : Int32).toInt = 4 := ti_4; omega) H.size) (sl_c3_does_3_0_0_74_3 hts ⟨Nat.le_of_ble_eq_true rfl, Nat.le_of_ble_eq_true rfl⟩) (sl_vX_36 hA hK hP hS hZ) rfl rfl hl.1 rfl (lv_room (Nat.le_of_ble_eq_true rfl)) dX3_runs_158 ⟨Nat.le_refl _, Nat.le_refl _⟩) hA hS (fun r_7 f_4 L_5 Q_6 H locs hq hP hS => ?_)
  obtain ⟨⟨hI, hk_f_4, eL9, eQ9⟩, hq, p_8, u_9⟩ := hq
  rw [eL9, eQ9] at hP; clear eL9 eQ9
  have hF : sgK WkX3_runs_10_m1_4_f4_f7 f f_4 := sgK.tr hF hk_f_4 (by decide +kernel)
  obtain ⟨v_10, ev_10⟩ : ∃ z : Int32, z = f_4 36 3 := ⟨_, rfl⟩
  have q_11 : 0 ≤ v_10.toInt ∧ v_10.toInt ≤ 19 := by rw [ev_10]; exact hI 36 3
  have q_12 : (f_4 36 3).toInt = v_10.toInt := (congrArg Int32.toInt (show f_4 36 3 = v_10 from ev_10.symm))
  have k_14 : (7 : Int32).toInt = 7 := by decide
  have k_15 : (0 : Int32).toInt = 0 := by decide
  have k_16 : (4 : Int32).toInt = 4 := by decide
  refine lv_iconst (v := 2) hx hb dX3_runs_161 ic_2 ?_
  refine lv_imul hx hb dX3_runs_162 ?_
  refine lv_topi (fun v_17 ev_17 => ?_)
  exact hret _ _ _ _ (v_17) f_4 L Q dX3_runs_163 hP hS ⟨⟨hI, hF, rfl, rfl⟩, trivial, ⟨by omega, by omega⟩, (Eq.trans (Eq.symm (hs.trans ((spl2_e u_9 (spl_e ev_10 (spl_e ev_17 rfl)))))) hsp)⟩

abbrev WkX3_does_4_1_3_f3_f7 : List (Nat × Nat × Option Nat) := [(36, 36, some 3), (38, 38, some 3), (38, 38, some 4), (38, 38, some 5)]
set_option maxHeartbeats 4000000 in
set_option maxRecDepth 100000 in
theorem kX3_does_4_1_3_f3_f7 (l : Launch) (D : va_G) (ca : Nat → ClassId) (za h : Nat → Nat) (hh : sgH 52 h) (f : sg_F) (L : sg_L) (Q : sg_Q) (hI : sgI loX hiX f) (x2 : Int32) (hf_36_3 : f 36 3 = 3) (hf_36_4 : f 36 4 = 7) (p0 : 3 ≤ (f 36 3).toInt ∧ (f 36 3).toInt ≤ 3) (sz : Nat) : Met l yX3_does gwX3_does { frames := 5, cells := 0, slots := 0, locals := 124 } (sgP D vwCl (tyX ca) 52 h (eX ca h) zcX za f L Q sz [.ref (h 36), .int 4, .int 1, .int x2, .int 3]) (sgQi D vwCl 52 h (eX ca h) sz (fun r f1 L1 Q1 => ((sgI loX hiX f1 ∧ sgK WkX3_does_4_1_3_f3_f7 f f1 ∧ L1 = L ∧ Q1 = Q) ∧ True ∧ (6 ≤ (f1 36 3).toInt ∧ (f1 36 3).toInt ≤ 6) ∧ (r, f1) = sX3_does_4_1_3_f3_f7 x2 f L))) 0 0 (sgA 52 h sz) := by
  refine sg_ofWi (cc := cX3_does) (maxL := 7) RX3 (by decide) rfl rfl (Nat.le_of_ble_eq_true rfl) ?_
  intro p e s m below meth cd Qz ls hx hb hml hown hts hK hZ hP hS hl hret
  have hA := sgY.self (n := 52) (h := h) (sz := s.heap.size)
  have hl : lv_has ls 7 [(0, .ref (h 36)), (1, .int 4), (2, .int 1), (3, .int x2), (4, .int 3)] := hl
  obtain ⟨H, hH⟩ : ∃ z : Heap, z = s.heap := ⟨_, rfl⟩
  obtain ⟨locs, hlo⟩ : ∃ z : List Loc, z = [] := ⟨_, rfl⟩
  have hP : va_P D vwCl (sgw 52 h (eX ca h) f L Q) H := by rw [hH]; exact hP
  have hS : va_S (sgA 52 h s.heap.size) s.heap H locs := by rw [hH, hlo]; exact hS
  suffices hgo : W p l e ({ frames := 5, cells := 0, slots := 0, locals := 124 }) s m ([.ref (h 36), .int 4, .int 1, .int x2, .int 3] : List Value).toArray below meth cd H locs 0 0 Qz (F0 m 0 ls []) by rw [hH, hlo] at hgo; exact hgo
  clear hH hlo
  obtain ⟨sp, hsp⟩ : ∃ z : Int32 × sg_F, z = sX3_does_4_1_3_f3_f7 x2 f L := ⟨_, rfl⟩
  have hs : sp = sX3_does_4_1_3_f3_f7 x2 f L := hsp
  have o_1 : (f 36 3).toInt = 3 := (congrArg Int32.toInt (show f 36 3 = 3 from hf_36_3)).trans (by decide)
  have hF : sgK WkX3_does_4_1_3_f3_f7 f f := sgK.rf
  have blk_53 : ∀ (fp_53 : sg_F) (H : Heap) (locs : List Loc) (ls : Array Slot), sp = sX3_does_4_1_3_f3_f7_b53 x2 fp_53 L → 3 ≤ (fp_53 36 3).toInt ∧ (fp_53 36 3).toInt ≤ 3 → 7 ≤ (fp_53 36 4).toInt ∧ (fp_53 36 4).toInt ≤ 7 → sgI loX hiX fp_53 → sgK WkX3_does_4_1_3_f3_f7 f fp_53 → va_P D vwCl (sgw 52 h (eX ca h) fp_53 L Q) H → va_S (sgA 52 h s.heap.size) s.heap H locs → lv_has ls 7 [(0, .ref (h 36)), (3, .int x2), (4, .int 3), (5, .int 0), (6, .int 10)] → W p l e ({ frames := 5, cells := 0, slots := 0, locals := 124 }) s m ([.ref (h 36), .int 4, .int 1, .int x2, .int 3] : List Value).toArray below meth cd H locs 0 0 Qz (F0 m 53 ls []) := by
    intro fp_53 H locs ls hs hy0_53 hy1_53 hI hF hP hS hl
    obtain ⟨v_2, ev_2⟩ : ∃ z : Int32, z = fp_53 36 3 := ⟨_, rfl⟩
    have q_3 : 0 ≤ v_2.toInt ∧ v_2.toInt ≤ 19 := by rw [ev_2]; exact hI 36 3
    have q_4 : (fp_53 36 3).toInt = v_2.toInt := by rw [ev_2]
    obtain ⟨v_5, ev_5⟩ : ∃ z : Int32, z = fp_53 36 4 := ⟨_, rfl⟩
    have q_6 : 0 ≤ v_5.toInt ∧ v_5.toInt ≤ 7 := by rw [ev_5]; exact hI 36 4
    have q_7 : (fp_53 36 4).toInt = v_5.toInt := by rw [ev_5]
    have m_8 : fp_53 36 4 = 7 := (hF 36 4 (by decide)).trans hf_36_4
    refine lv_aload_n hx hb dX3_does_53 rfl (lv_at hl 0 rfl) ?_
    refine lv_dup hx hb dX3_does_54 rfl ?_
    refine sl_gX_36_3_3 (v := v_2) hx hb hts hown hK hP (show fp_53 36 3 = v_2 from ev_2.symm) dX3_does_55 ?_
    refine lv_iconst (v := 1) hx hb dX3_does_58 ic_1 ?_
    refine lv_iadd hx hb dX3_does_59 ?_
    refine lv_topi (fun v_9 ev_9 => ?_)
    have q_10 : v_9.toInt = v_2.toInt + 1 := by rw [ev_9]; first | exact cm_add ti_1 (by omega) (by omega) | (have k1 : (1 : Int32).toInt = 1 := ti_1; exact (bn_addI (by omega) (by omega)).trans (by omega))
    refine sl_pX_36_3_3 (x := v_9) hx hb hts hown hh hA hK hP hS dX3_does_60 (fun f_11 H locs ef_11 hP hS => ?_)
    have hI : sgI loX hiX f_11 := by rw [ef_11]; exact sgI.put hI 36 3 (show 0 ≤ (v_9 : Int32).toInt ∧ (v_9 : Int32).toInt ≤ 19 from ⟨by omega, by omega⟩)
    have hF : sgK WkX3_does_4_1_3_f3_f7 f f_11 := sgK.put hF ef_11 (by rfl)
    refine lv_aload_n hx hb dX3_does_63 rfl (lv_at hl 0 rfl) ?_
    refine lv_iload hx hb dX3_does_64 (lv_at hl 4 rfl) ?_
    refine sg_gets hx hb hZ 2 rfl hS hown (hts _ (List.mem_cons_of_mem _ mw_174)) (fun _ h9 => h9) dX3_does_66 ?_
    refine lv_iload hx hb dX3_does_69 (lv_at hl 3 rfl) ?_
    refine sg_sald hx hb hZ 2 rfl hS (y := 0) (N := 8) (vp_in_iff.mpr (by decide)) dX3_does_71 ?_
    refine W.eq (g2 := F0 m 72 ls [.int (-1), .int 10, .ref (h 36)]) (by rfl) ?_
    refine lv_iload_n hx hb dX3_does_72 rfl (lv_at hl 1 rfl) ?_
    refine lv_iload hx hb dX3_does_73 (lv_at hl 2 rfl) ?_
    refine lv_iconst (v := 1) hx hb dX3_does_75 ic_1 ?_
    refine lv_iadd hx hb dX3_does_76 ?_
    refine W.eq (g2 := F0 m 77 ls [.int 4, .int x2, .int (-1), .int 10, .ref (h 36)]) (by rw [show (3 + 1 : Int32) = 4 from by decide]) ?_
    have c_12 : v_9 = 4 := Int32.toInt_inj.mp (by have k9 : (4 : Int32).toInt = 4 := ti_4; omega)
    have q_13 : (f_11 36 3).toInt = 4 := (congrArg Int32.toInt (show f_11 36 3 = 4 from (Eq.trans (by rw [ef_11, sg_up_s, sgu_s]) c_12))).trans (by decide)
    refine sg_calli (va_runV (As := [.int 10, .int (-1), .int x2, .int 4]) (rest := []) ⟨hx, hb, hml, hown, hts⟩ (kX3_runs_10_m1_4_f4_f7 l D ca za h hh f_11 L Q hI x2 (Eq.trans (by rw [ef_11, sg_up_s, sgu_s]) c_12) (by rw [ef_11, sg_up_s, sgu_n (by decide)]; exact m_8) (by have k0 : (10 : Int32).toInt = 10 := ti_10; have k1 : ((-1) : Int32).toInt = (-1) := ti_m1; have k3 : (4 : Int32).toInt = 4 := ti_4; omega) H.size) (sl_c3_runs_4_0_0_100_3 hts ⟨Nat.le_of_ble_eq_true rfl, Nat.le_of_ble_eq_true rfl⟩) (sl_vX_36 hA hK hP hS hZ) rfl rfl hl.1 rfl (lv_room (Nat.le_of_ble_eq_true rfl)) dX3_does_77 ⟨Nat.le_refl _, Nat.le_refl _⟩) hA hS (fun r_18 f_15 L_16 Q_17 H locs hq hP hS => ?_)
    obtain ⟨⟨hI, hk_f_15, eL9, eQ9⟩, hq, p_19, u_20⟩ := hq
    rw [eL9, eQ9] at hP; clear eL9 eQ9
    have hF : sgK WkX3_does_4_1_3_f3_f7 f f_15 := sgK.tr hF hk_f_15 (by decide +kernel)
    obtain ⟨v_21, ev_21⟩ : ∃ z : Int32, z = f_15 36 3 := ⟨_, rfl⟩
    have q_22 : 0 ≤ v_21.toInt ∧ v_21.toInt ≤ 19 := by rw [ev_21]; exact hI 36 3
    have q_23 : (f_15 36 3).toInt = v_21.toInt := (congrArg Int32.toInt (show f_15 36 3 = v_21 from ev_21.symm))
    have k_25 : (10 : Int32).toInt = 10 := by decide
    have k_26 : ((-1) : Int32).toInt = (-1) := by decide
    have k_27 : (4 : Int32).toInt = 4 := by decide
    exact hret _ _ _ _ (r_18) f_15 L Q dX3_does_80 hP hS ⟨⟨hI, hF, rfl, rfl⟩, trivial, ⟨by omega, by omega⟩, (Eq.trans (Eq.symm (hs.trans ((spl_e ev_2 (spl_e ev_5 (spl_e ev_9 (spl_e ef_11 (spl2_e u_20 (spl_e ev_21 rfl))))))))) hsp)⟩
  refine lv_iload_n hx hb dX3_does_0 rfl (lv_at hl 1 rfl) ?_
  refine lv_iload_n hx hb dX3_does_1 rfl (lv_at hl 2 rfl) ?_
  refine sg_calli (va_runS (As := [.int 4, .int 1]) (rest := []) ⟨hx, hb, hml, hown, hts⟩ (kX3_ownerOf_4_1 l D ca za h hh f L Q hI H.size) (va_cwS 2 hts (gw_S (fun _ h => List.mem_cons_of_mem _ h) mw_189 mw_190 mw_47 mw_188) rfl rfl rfl hd_yX3_ownerOf.2 ⟨Nat.le_of_ble_eq_true rfl, Nat.le_of_ble_eq_true rfl⟩) (sg_preS hA hK hP hS hZ) rfl rfl hl.1 rfl (lv_room (Nat.le_of_ble_eq_true rfl)) dX3_does_2 ⟨Nat.le_refl _, Nat.le_refl _⟩) hA hS (fun r_33 f_30 L_31 Q_32 H locs hq hP hS => ?_)
  obtain ⟨⟨ef9, eL9, eQ9⟩, hq, u_34⟩ := hq
  rw [ef9, eL9, eQ9] at hP; clear ef9 eL9 eQ9
  obtain rfl : r_33 = 0 := Int32.toInt_inj.mp (by have k9 : (0 : Int32).toInt = 0 := ti_0; omega)
  refine lv_istore (lv' := [(5, .int 0), (0, .ref (h 36)), (1, .int 4), (2, .int 1), (3, .int x2), (4, .int 3)]) hx hb dX3_does_5 hl (by decide) rfl (fun ls hl => ?_)
  refine lv_iload hx hb dX3_does_7 (lv_at hl 0 rfl) ?_
  refine lv_if_lt (tgt := 19) hx hb dX3_does_9 (by decide) (fun c => absurd c (by decide)) (fun c => ?_)
  refine lv_iload hx hb dX3_does_12 (lv_at hl 5 rfl) ?_
  refine lv_bipush (v := 40) hx hb dX3_does_14 bp_40 ?_
  refine lv_icmp_le (tgt := 21) hx hb dX3_does_16 (by decide) (fun c => ?_) (fun c => absurd c (by decide))
  refine sg_gets hx hb hZ 3 rfl hS hown (hts _ (List.mem_cons_of_mem _ mw_173)) (fun _ h9 => h9) dX3_does_21 ?_
  refine lv_iload hx hb dX3_does_24 (lv_at hl 0 rfl) ?_
  refine lv_iconst (v := 4) hx hb dX3_does_26 ic_4 ?_
  refine lv_imul hx hb dX3_does_27 ?_
  refine W.eq (g2 := F0 m 28 ls [.int 0, .ref (za 3)]) (by rw [show (0 * 4 : Int32) = 0 from by decide]) ?_
  refine lv_iload_n hx hb dX3_does_28 rfl (lv_at hl 3 rfl) ?_
  refine lv_iadd hx hb dX3_does_29 ?_
  refine W.eq (g2 := F0 m 30 ls [.int 1, .ref (za 3)]) (by rw [show (0 + 1 : Int32) = 1 from by decide]) ?_
  refine sg_sald hx hb hZ 3 rfl hS (y := 1) (N := 32) (vp_in_iff.mpr (by decide)) dX3_does_30 ?_
  refine W.eq (g2 := F0 m 31 ls [.int 10]) (by rfl) ?_
  refine lv_istore (lv' := [(6, .int 10), (5, .int 0), (0, .ref (h 36)), (1, .int 4), (2, .int 1), (3, .int x2), (4, .int 3)]) hx hb dX3_does_31 hl (by decide) rfl (fun ls hl => ?_)
  refine lv_aload_n hx hb dX3_does_33 rfl (lv_at hl 2 rfl) ?_
  refine sl_gX_36_3_3 (v := 3) hx hb hts hown hK hP (show f 36 3 = 3 from hf_36_3) dX3_does_34 ?_
  refine lv_bipush (v := 24) hx hb dX3_does_37 bp_24 ?_
  refine lv_icmp_ge (tgt := 53) hx hb dX3_does_39 (by decide) (fun c => absurd c (by decide)) (fun c => ?_)
  refine lv_aload_n hx hb dX3_does_42 rfl (lv_at hl 2 rfl) ?_
  refine sl_gX_36_1_3 hx hb hts hown hK hP dX3_does_43 ?_
  refine lv_aload_n hx hb dX3_does_46 rfl (lv_at hl 2 rfl) ?_
  refine sl_gX_36_3_3 (v := 3) hx hb hts hown hK hP (show f 36 3 = 3 from hf_36_3) dX3_does_47 ?_
  refine lv_iload hx hb dX3_does_50 (lv_at hl 0 rfl) ?_
  refine sg_iast hx hb hh hA hK hP hS 38 (by decide) 0 (fun _ => rfl) rfl (i := 3) (x := 10) (vp_in_iff.mpr (by decide)) dX3_does_52 (fun f_35 H locs ef_35 hP hS => ?_)
  have ef_35 : f_35 = sg_up f 38 (sgu (f 38) 3 10) := ef_35
  have hI : sgI loX hiX f_35 := by rw [ef_35]; exact sgI.put hI 38 3 (show 0 ≤ (10 : Int32).toInt ∧ (10 : Int32).toInt ≤ 81 from by decide)
  have hF : sgK WkX3_does_4_1_3_f3_f7 f f_35 := sgK.put hF ef_35 (by rfl)
  exact blk_53 f_35 _ _ _ (hs.trans ((spl_e u_34 (spl_e ef_35 rfl)))) (by have zz36_3 : (f_35 36 3).toInt = 3 := (congrArg Int32.toInt (show f_35 36 3 = 3 from (by rw [ef_35, sg_up_n (by decide)]; exact hf_36_3))).trans (by decide); exact ⟨by omega, by omega⟩) (by have zz36_4 : (f_35 36 4).toInt = 7 := (congrArg Int32.toInt (show f_35 36 4 = 7 from (by rw [ef_35, sg_up_n (by decide)]; exact hf_36_4))).trans (by decide); exact ⟨by omega, by omega⟩) hI hF hP hS (lv_sub hl [2, 5, 6, 1, 0] rfl)

set_option maxHeartbeats 4000000 in
set_option maxRecDepth 100000 in
theorem kX3_runs_11_m1_5_f8_f7 (l : Launch) (D : va_G) (ca : Nat → ClassId) (za h : Nat → Nat) (hh : sgH 52 h) (f : sg_F) (L : sg_L) (Q : sg_Q) (hI : sgI loX hiX f) (x2 : Int32) (hf_36_3 : f 36 3 = 8) (hf_36_4 : f 36 4 = 7) (b2 : 2 ≤ x2.toInt ∧ x2.toInt ≤ 2) (p0 : 8 ≤ (f 36 3).toInt ∧ (f 36 3).toInt ≤ 8) (sz : Nat) : Met l yX3_runs gwX3_runs { frames := 0, cells := 0, slots := 0, locals := 0 } (sgP D vwCl (tyX ca) 52 h (eX ca h) zcX za f L Q sz [.ref (h 36), .int 11, .int (-1), .int x2, .int 5]) (sgQi D vwCl 52 h (eX ca h) sz (fun r f1 L1 Q1 => ((f1 = f ∧ L1 = L ∧ Q1 = Q) ∧ True ∧ (8 ≤ (f1 36 3).toInt ∧ (f1 36 3).toInt ≤ 8) ∧ (r) = sX3_runs_11_m1_5_f8_f7 x2 f L))) 0 0 (sgA 52 h sz) := by
  refine sg_ofWi (cc := cX3_runs) (maxL := 5) RX3 (by decide) rfl rfl (Nat.le_of_ble_eq_true rfl) ?_
  intro p e s m below meth cd Qz ls hx hb hml hown hts hK hZ hP hS hl hret
  have hA := sgY.self (n := 52) (h := h) (sz := s.heap.size)
  have hl : lv_has ls 5 [(0, .ref (h 36)), (1, .int 11), (2, .int (-1)), (3, .int x2), (4, .int 5)] := hl
  obtain ⟨H, hH⟩ : ∃ z : Heap, z = s.heap := ⟨_, rfl⟩
  obtain ⟨locs, hlo⟩ : ∃ z : List Loc, z = [] := ⟨_, rfl⟩
  have hP : va_P D vwCl (sgw 52 h (eX ca h) f L Q) H := by rw [hH]; exact hP
  have hS : va_S (sgA 52 h s.heap.size) s.heap H locs := by rw [hH, hlo]; exact hS
  suffices hgo : W p l e ({ frames := 0, cells := 0, slots := 0, locals := 0 }) s m ([.ref (h 36), .int 11, .int (-1), .int x2, .int 5] : List Value).toArray below meth cd H locs 0 0 Qz (F0 m 0 ls []) by rw [hH, hlo] at hgo; exact hgo
  clear hH hlo
  obtain ⟨sp, hsp⟩ : ∃ z : Int32, z = sX3_runs_11_m1_5_f8_f7 x2 f L := ⟨_, rfl⟩
  have hs : sp = sX3_runs_11_m1_5_f8_f7 x2 f L := hsp
  have o_1 : (f 36 3).toInt = 8 := (congrArg Int32.toInt (show f 36 3 = 8 from hf_36_3)).trans (by decide)
  refine lv_iload_n hx hb dX3_runs_0 rfl (lv_at hl 1 rfl) ?_
  refine lv_lookup (x := 11) (off := 163) (tgt := 164) hx hb dX3_runs_1 (by decide) (by decide) (by decide) ?_
  refine lv_iload_n hx hb dX3_runs_164 rfl (lv_at hl 3 rfl) ?_
  refine lv_aload_n hx hb dX3_runs_165 rfl (lv_at hl 0 rfl) ?_
  refine sl_gX_36_5_3 (v := (f 36 5)) hx hb hts hown hK hP rfl dX3_runs_166 ?_
  refine lv_topi (fun v_2 ev_2 => ?_)
  have q_3 : 0 ≤ v_2.toInt ∧ v_2.toInt ≤ 49 := by rw [ev_2]; exact hI 36 5
  refine lv_ixor hx hb dX3_runs_169 ?_
  refine lv_topi (fun v_4 ev_4 => ?_)
  have q_5 : (f 36 3).toInt = 8 := (congrArg Int32.toInt (show f 36 3 = 8 from hf_36_3)).trans (by decide)
  exact hret _ _ _ _ (v_4) f L Q dX3_runs_170 hP hS ⟨⟨rfl, rfl, rfl⟩, trivial, ⟨by omega, by omega⟩, (Eq.trans (Eq.symm (hs.trans ((spl_e ev_2 (spl_e ev_4 rfl))))) hsp)⟩

abbrev WkX3_does_1_2_4_f7_f7 : List (Nat × Nat × Option Nat) := [(36, 36, some 3), (38, 38, some 7)]
set_option maxHeartbeats 4000000 in
set_option maxRecDepth 100000 in
theorem kX3_does_1_2_4_f7_f7 (l : Launch) (D : va_G) (ca : Nat → ClassId) (za h : Nat → Nat) (hh : sgH 52 h) (f : sg_F) (L : sg_L) (Q : sg_Q) (hI : sgI loX hiX f) (x2 : Int32) (hf_36_3 : f 36 3 = 7) (hf_36_4 : f 36 4 = 7) (b2 : 2 ≤ x2.toInt ∧ x2.toInt ≤ 2) (p0 : 7 ≤ (f 36 3).toInt ∧ (f 36 3).toInt ≤ 7) (sz : Nat) : Met l yX3_does gwX3_does { frames := 1, cells := 0, slots := 0, locals := 24 } (sgP D vwCl (tyX ca) 52 h (eX ca h) zcX za f L Q sz [.ref (h 36), .int 1, .int 2, .int x2, .int 4]) (sgQi D vwCl 52 h (eX ca h) sz (fun r f1 L1 Q1 => ((sgI loX hiX f1 ∧ sgK WkX3_does_1_2_4_f7_f7 f f1 ∧ L1 = L ∧ Q1 = Q) ∧ True ∧ (8 ≤ (f1 36 3).toInt ∧ (f1 36 3).toInt ≤ 8) ∧ (r, f1) = sX3_does_1_2_4_f7_f7 x2 f L))) 0 0 (sgA 52 h sz) := by
  refine sg_ofWi (cc := cX3_does) (maxL := 7) RX3 (by decide) rfl rfl (Nat.le_of_ble_eq_true rfl) ?_
  intro p e s m below meth cd Qz ls hx hb hml hown hts hK hZ hP hS hl hret
  have hA := sgY.self (n := 52) (h := h) (sz := s.heap.size)
  have hl : lv_has ls 7 [(0, .ref (h 36)), (1, .int 1), (2, .int 2), (3, .int x2), (4, .int 4)] := hl
  obtain ⟨H, hH⟩ : ∃ z : Heap, z = s.heap := ⟨_, rfl⟩
  obtain ⟨locs, hlo⟩ : ∃ z : List Loc, z = [] := ⟨_, rfl⟩
  have hP : va_P D vwCl (sgw 52 h (eX ca h) f L Q) H := by rw [hH]; exact hP
  have hS : va_S (sgA 52 h s.heap.size) s.heap H locs := by rw [hH, hlo]; exact hS
  suffices hgo : W p l e ({ frames := 1, cells := 0, slots := 0, locals := 24 }) s m ([.ref (h 36), .int 1, .int 2, .int x2, .int 4] : List Value).toArray below meth cd H locs 0 0 Qz (F0 m 0 ls []) by rw [hH, hlo] at hgo; exact hgo
  clear hH hlo
  obtain ⟨sp, hsp⟩ : ∃ z : Int32 × sg_F, z = sX3_does_1_2_4_f7_f7 x2 f L := ⟨_, rfl⟩
  have hs : sp = sX3_does_1_2_4_f7_f7 x2 f L := hsp
  have o_1 : (f 36 3).toInt = 7 := (congrArg Int32.toInt (show f 36 3 = 7 from hf_36_3)).trans (by decide)
  have hF : sgK WkX3_does_1_2_4_f7_f7 f f := sgK.rf
  have blk_53 : ∀ (fp_53 : sg_F) (H : Heap) (locs : List Loc) (ls : Array Slot), sp = sX3_does_1_2_4_f7_f7_b53 x2 fp_53 L → 7 ≤ (fp_53 36 3).toInt ∧ (fp_53 36 3).toInt ≤ 7 → 7 ≤ (fp_53 36 4).toInt ∧ (fp_53 36 4).toInt ≤ 7 → sgI loX hiX fp_53 → sgK WkX3_does_1_2_4_f7_f7 f fp_53 → va_P D vwCl (sgw 52 h (eX ca h) fp_53 L Q) H → va_S (sgA 52 h s.heap.size) s.heap H locs → lv_has ls 7 [(0, .ref (h 36)), (3, .int x2), (4, .int 4), (5, .int 0), (6, .int 11)] → W p l e ({ frames := 1, cells := 0, slots := 0, locals := 24 }) s m ([.ref (h 36), .int 1, .int 2, .int x2, .int 4] : List Value).toArray below meth cd H locs 0 0 Qz (F0 m 53 ls []) := by
    intro fp_53 H locs ls hs hy0_53 hy1_53 hI hF hP hS hl
    obtain ⟨v_2, ev_2⟩ : ∃ z : Int32, z = fp_53 36 3 := ⟨_, rfl⟩
    have q_3 : 0 ≤ v_2.toInt ∧ v_2.toInt ≤ 19 := by rw [ev_2]; exact hI 36 3
    have q_4 : (fp_53 36 3).toInt = v_2.toInt := by rw [ev_2]
    obtain ⟨v_5, ev_5⟩ : ∃ z : Int32, z = fp_53 36 4 := ⟨_, rfl⟩
    have q_6 : 0 ≤ v_5.toInt ∧ v_5.toInt ≤ 7 := by rw [ev_5]; exact hI 36 4
    have q_7 : (fp_53 36 4).toInt = v_5.toInt := by rw [ev_5]
    have m_8 : fp_53 36 4 = 7 := (hF 36 4 (by decide)).trans hf_36_4
    refine lv_aload_n hx hb dX3_does_53 rfl (lv_at hl 0 rfl) ?_
    refine lv_dup hx hb dX3_does_54 rfl ?_
    refine sl_gX_36_3_3 (v := v_2) hx hb hts hown hK hP (show fp_53 36 3 = v_2 from ev_2.symm) dX3_does_55 ?_
    refine lv_iconst (v := 1) hx hb dX3_does_58 ic_1 ?_
    refine lv_iadd hx hb dX3_does_59 ?_
    refine lv_topi (fun v_9 ev_9 => ?_)
    have q_10 : v_9.toInt = v_2.toInt + 1 := by rw [ev_9]; first | exact cm_add ti_1 (by omega) (by omega) | (have k1 : (1 : Int32).toInt = 1 := ti_1; exact (bn_addI (by omega) (by omega)).trans (by omega))
    refine sl_pX_36_3_3 (x := v_9) hx hb hts hown hh hA hK hP hS dX3_does_60 (fun f_11 H locs ef_11 hP hS => ?_)
    have hI : sgI loX hiX f_11 := by rw [ef_11]; exact sgI.put hI 36 3 (show 0 ≤ (v_9 : Int32).toInt ∧ (v_9 : Int32).toInt ≤ 19 from ⟨by omega, by omega⟩)
    have hF : sgK WkX3_does_1_2_4_f7_f7 f f_11 := sgK.put hF ef_11 (by rfl)
    refine lv_aload_n hx hb dX3_does_63 rfl (lv_at hl 0 rfl) ?_
    refine lv_iload hx hb dX3_does_64 (lv_at hl 4 rfl) ?_
    refine sg_gets hx hb hZ 2 rfl hS hown (hts _ (List.mem_cons_of_mem _ mw_174)) (fun _ h9 => h9) dX3_does_66 ?_
    refine lv_iload hx hb dX3_does_69 (lv_at hl 3 rfl) ?_
    refine sg_sald hx hb hZ 2 rfl hS (y := 0) (N := 8) (vp_in_iff.mpr (by decide)) dX3_does_71 ?_
    refine W.eq (g2 := F0 m 72 ls [.int (-1), .int 11, .ref (h 36)]) (by rfl) ?_
    refine lv_iload_n hx hb dX3_does_72 rfl (lv_at hl 1 rfl) ?_
    refine lv_iload hx hb dX3_does_73 (lv_at hl 2 rfl) ?_
    refine lv_iconst (v := 1) hx hb dX3_does_75 ic_1 ?_
    refine lv_iadd hx hb dX3_does_76 ?_
    refine W.eq (g2 := F0 m 77 ls [.int 5, .int x2, .int (-1), .int 11, .ref (h 36)]) (by rw [show (4 + 1 : Int32) = 5 from by decide]) ?_
    have c_12 : v_9 = 8 := Int32.toInt_inj.mp (by have k9 : (8 : Int32).toInt = 8 := ti_8; omega)
    have q_13 : (f_11 36 3).toInt = 8 := (congrArg Int32.toInt (show f_11 36 3 = 8 from (Eq.trans (by rw [ef_11, sg_up_s, sgu_s]) c_12))).trans (by decide)
    refine sg_calli (va_runV (As := [.int 11, .int (-1), .int x2, .int 5]) (rest := []) ⟨hx, hb, hml, hown, hts⟩ (kX3_runs_11_m1_5_f8_f7 l D ca za h hh f_11 L Q hI x2 (Eq.trans (by rw [ef_11, sg_up_s, sgu_s]) c_12) (by rw [ef_11, sg_up_s, sgu_n (by decide)]; exact m_8) b2 (by have k0 : (11 : Int32).toInt = 11 := ti_11; have k1 : ((-1) : Int32).toInt = (-1) := ti_m1; have k3 : (5 : Int32).toInt = 5 := ti_5; omega) H.size) (sl_c3_runs_0_0_0_0_3 hts ⟨Nat.le_of_ble_eq_true rfl, Nat.le_of_ble_eq_true rfl⟩) (sl_vX_36 hA hK hP hS hZ) rfl rfl hl.1 rfl (lv_room (Nat.le_of_ble_eq_true rfl)) dX3_does_77 ⟨Nat.le_refl _, Nat.le_refl _⟩) hA hS (fun r_18 f_15 L_16 Q_17 H locs hq hP hS => ?_)
    obtain ⟨⟨ef9, eL9, eQ9⟩, hq, p_19, u_20⟩ := hq
    rw [ef9, eL9, eQ9] at hP; clear ef9 eL9 eQ9
    have k_23 : (11 : Int32).toInt = 11 := by decide
    have k_24 : ((-1) : Int32).toInt = (-1) := by decide
    have k_25 : (5 : Int32).toInt = 5 := by decide
    exact hret _ _ _ _ (r_18) f_11 L Q dX3_does_80 hP hS ⟨⟨hI, hF, rfl, rfl⟩, trivial, ⟨by omega, by omega⟩, (Eq.trans (Eq.symm (hs.trans ((spl_e ev_2 (spl_e ev_5 (spl_e ev_9 (spl_e ef_11 (spl_e u_20 rfl)))))))) hsp)⟩
  refine lv_iload_n hx hb dX3_does_0 rfl (lv_at hl 1 rfl) ?_
  refine lv_iload_n hx hb dX3_does_1 rfl (lv_at hl 2 rfl) ?_
  refine sg_calli (va_runS (As := [.int 1, .int 2]) (rest := []) ⟨hx, hb, hml, hown, hts⟩ (kX3_ownerOf_1_2 l D ca za h hh f L Q hI H.size) (va_cwS 2 hts (gw_S (fun _ h => List.mem_cons_of_mem _ h) mw_189 mw_190 mw_47 mw_188) rfl rfl rfl hd_yX3_ownerOf.2 ⟨Nat.le_of_ble_eq_true rfl, Nat.le_of_ble_eq_true rfl⟩) (sg_preS hA hK hP hS hZ) rfl rfl hl.1 rfl (lv_room (Nat.le_of_ble_eq_true rfl)) dX3_does_2 ⟨Nat.le_refl _, Nat.le_refl _⟩) hA hS (fun r_31 f_28 L_29 Q_30 H locs hq hP hS => ?_)
  obtain ⟨⟨ef9, eL9, eQ9⟩, hq, u_32⟩ := hq
  rw [ef9, eL9, eQ9] at hP; clear ef9 eL9 eQ9
  obtain rfl : r_31 = 0 := Int32.toInt_inj.mp (by have k9 : (0 : Int32).toInt = 0 := ti_0; omega)
  refine lv_istore (lv' := [(5, .int 0), (0, .ref (h 36)), (1, .int 1), (2, .int 2), (3, .int x2), (4, .int 4)]) hx hb dX3_does_5 hl (by decide) rfl (fun ls hl => ?_)
  refine lv_iload hx hb dX3_does_7 (lv_at hl 0 rfl) ?_
  refine lv_if_lt (tgt := 19) hx hb dX3_does_9 (by decide) (fun c => absurd c (by decide)) (fun c => ?_)
  refine lv_iload hx hb dX3_does_12 (lv_at hl 5 rfl) ?_
  refine lv_bipush (v := 40) hx hb dX3_does_14 bp_40 ?_
  refine lv_icmp_le (tgt := 21) hx hb dX3_does_16 (by decide) (fun c => ?_) (fun c => absurd c (by decide))
  refine sg_gets hx hb hZ 3 rfl hS hown (hts _ (List.mem_cons_of_mem _ mw_173)) (fun _ h9 => h9) dX3_does_21 ?_
  refine lv_iload hx hb dX3_does_24 (lv_at hl 0 rfl) ?_
  refine lv_iconst (v := 4) hx hb dX3_does_26 ic_4 ?_
  refine lv_imul hx hb dX3_does_27 ?_
  refine W.eq (g2 := F0 m 28 ls [.int 0, .ref (za 3)]) (by rw [show (0 * 4 : Int32) = 0 from by decide]) ?_
  refine lv_iload_n hx hb dX3_does_28 rfl (lv_at hl 3 rfl) ?_
  refine lv_iadd hx hb dX3_does_29 ?_
  refine W.eq (g2 := F0 m 30 ls [.int 2, .ref (za 3)]) (by rw [show (0 + 2 : Int32) = 2 from by decide]) ?_
  refine sg_sald hx hb hZ 3 rfl hS (y := 2) (N := 32) (vp_in_iff.mpr (by decide)) dX3_does_30 ?_
  refine W.eq (g2 := F0 m 31 ls [.int 11]) (by rfl) ?_
  refine lv_istore (lv' := [(6, .int 11), (5, .int 0), (0, .ref (h 36)), (1, .int 1), (2, .int 2), (3, .int x2), (4, .int 4)]) hx hb dX3_does_31 hl (by decide) rfl (fun ls hl => ?_)
  refine lv_aload_n hx hb dX3_does_33 rfl (lv_at hl 2 rfl) ?_
  refine sl_gX_36_3_3 (v := 7) hx hb hts hown hK hP (show f 36 3 = 7 from hf_36_3) dX3_does_34 ?_
  refine lv_bipush (v := 24) hx hb dX3_does_37 bp_24 ?_
  refine lv_icmp_ge (tgt := 53) hx hb dX3_does_39 (by decide) (fun c => absurd c (by decide)) (fun c => ?_)
  refine lv_aload_n hx hb dX3_does_42 rfl (lv_at hl 2 rfl) ?_
  refine sl_gX_36_1_3 hx hb hts hown hK hP dX3_does_43 ?_
  refine lv_aload_n hx hb dX3_does_46 rfl (lv_at hl 2 rfl) ?_
  refine sl_gX_36_3_3 (v := 7) hx hb hts hown hK hP (show f 36 3 = 7 from hf_36_3) dX3_does_47 ?_
  refine lv_iload hx hb dX3_does_50 (lv_at hl 0 rfl) ?_
  refine sg_iast hx hb hh hA hK hP hS 38 (by decide) 0 (fun _ => rfl) rfl (i := 7) (x := 11) (vp_in_iff.mpr (by decide)) dX3_does_52 (fun f_33 H locs ef_33 hP hS => ?_)
  have ef_33 : f_33 = sg_up f 38 (sgu (f 38) 7 11) := ef_33
  have hI : sgI loX hiX f_33 := by rw [ef_33]; exact sgI.put hI 38 7 (show 0 ≤ (11 : Int32).toInt ∧ (11 : Int32).toInt ≤ 81 from by decide)
  have hF : sgK WkX3_does_1_2_4_f7_f7 f f_33 := sgK.put hF ef_33 (by rfl)
  exact blk_53 f_33 _ _ _ (hs.trans ((spl_e u_32 (spl_e ef_33 rfl)))) (by have zz36_3 : (f_33 36 3).toInt = 7 := (congrArg Int32.toInt (show f_33 36 3 = 7 from (by rw [ef_33, sg_up_n (by decide)]; exact hf_36_3))).trans (by decide); exact ⟨by omega, by omega⟩) (by have zz36_4 : (f_33 36 4).toInt = 7 := (congrArg Int32.toInt (show f_33 36 4 = 7 from (by rw [ef_33, sg_up_n (by decide)]; exact hf_36_4))).trans (by decide); exact ⟨by omega, by omega⟩) hI hF hP hS (lv_sub hl [2, 5, 6, 1, 0] rfl)

set_option maxHeartbeats 4000000 in
set_option maxRecDepth 100000 in
theorem kX3_runs_1_m1_6_f10_f7 (l : Launch) (D : va_G) (ca : Nat → ClassId) (za h : Nat → Nat) (hh : sgH 52 h) (f : sg_F) (L : sg_L) (Q : sg_Q) (hI : sgI loX hiX f) (x2 : Int32) (hf_36_3 : f 36 3 = 10) (hf_36_4 : f 36 4 = 7) (b2 : 2 ≤ x2.toInt ∧ x2.toInt ≤ 2) (p0 : 10 ≤ (f 36 3).toInt ∧ (f 36 3).toInt ≤ 10) (sz : Nat) : Met l yX3_runs gwX3_runs { frames := 0, cells := 0, slots := 0, locals := 0 } (sgP D vwCl (tyX ca) 52 h (eX ca h) zcX za f L Q sz [.ref (h 36), .int 1, .int (-1), .int x2, .int 6]) (sgQi D vwCl 52 h (eX ca h) sz (fun r f1 L1 Q1 => ((f1 = f ∧ L1 = L ∧ Q1 = Q) ∧ (2 ≤ r.toInt ∧ r.toInt ≤ 51) ∧ (10 ≤ (f1 36 3).toInt ∧ (f1 36 3).toInt ≤ 10) ∧ (r) = sX3_runs_1_m1_6_f10_f7 x2 f L))) 0 0 (sgA 52 h sz) := by
  refine sg_ofWi (cc := cX3_runs) (maxL := 5) RX3 (by decide) rfl rfl (Nat.le_of_ble_eq_true rfl) ?_
  intro p e s m below meth cd Qz ls hx hb hml hown hts hK hZ hP hS hl hret
  have hA := sgY.self (n := 52) (h := h) (sz := s.heap.size)
  have hl : lv_has ls 5 [(0, .ref (h 36)), (1, .int 1), (2, .int (-1)), (3, .int x2), (4, .int 6)] := hl
  obtain ⟨H, hH⟩ : ∃ z : Heap, z = s.heap := ⟨_, rfl⟩
  obtain ⟨locs, hlo⟩ : ∃ z : List Loc, z = [] := ⟨_, rfl⟩
  have hP : va_P D vwCl (sgw 52 h (eX ca h) f L Q) H := by rw [hH]; exact hP
  have hS : va_S (sgA 52 h s.heap.size) s.heap H locs := by rw [hH, hlo]; exact hS
  suffices hgo : W p l e ({ frames := 0, cells := 0, slots := 0, locals := 0 }) s m ([.ref (h 36), .int 1, .int (-1), .int x2, .int 6] : List Value).toArray below meth cd H locs 0 0 Qz (F0 m 0 ls []) by rw [hH, hlo] at hgo; exact hgo
  clear hH hlo
  obtain ⟨sp, hsp⟩ : ∃ z : Int32, z = sX3_runs_1_m1_6_f10_f7 x2 f L := ⟨_, rfl⟩
  have hs : sp = sX3_runs_1_m1_6_f10_f7 x2 f L := hsp
  have o_1 : (f 36 3).toInt = 10 := (congrArg Int32.toInt (show f 36 3 = 10 from hf_36_3)).trans (by decide)
  refine lv_iload_n hx hb dX3_runs_0 rfl (lv_at hl 1 rfl) ?_
  refine lv_lookup (x := 1) (off := 115) (tgt := 116) hx hb dX3_runs_1 (by decide) (by decide) (by decide) ?_
  refine lv_iload_n hx hb dX3_runs_116 rfl (lv_at hl 3 rfl) ?_
  refine lv_aload_n hx hb dX3_runs_117 rfl (lv_at hl 0 rfl) ?_
  refine sl_gX_36_5_3 (v := (f 36 5)) hx hb hts hown hK hP rfl dX3_runs_118 ?_
  refine lv_topi (fun v_2 ev_2 => ?_)
  have q_3 : 0 ≤ v_2.toInt ∧ v_2.toInt ≤ 49 := by rw [ev_2]; exact hI 36 5
  refine lv_iadd hx hb dX3_runs_121 ?_
  refine lv_topi (fun v_4 ev_4 => ?_)
  have q_5 : v_4.toInt = x2.toInt + v_2.toInt := by rw [ev_4]; first | exact bn_addI (by omega) (by omega) | exact (bn_addI (by omega) (by omega)).trans (by omega)
  have q_6 : (f 36 3).toInt = 10 := (congrArg Int32.toInt (show f 36 3 = 10 from hf_36_3)).trans (by decide)
  exact hret _ _ _ _ (v_4) f L Q dX3_runs_122 hP hS ⟨⟨rfl, rfl, rfl⟩, ⟨by omega, by omega⟩, ⟨by omega, by omega⟩, (Eq.trans (Eq.symm (hs.trans ((spl_e ev_2 (spl_e ev_4 rfl))))) hsp)⟩

abbrev WkX3_does_0_0_5_f9_f7 : List (Nat × Nat × Option Nat) := [(36, 36, some 3), (38, 38, some 9)]
set_option maxHeartbeats 4000000 in
set_option maxRecDepth 100000 in
theorem kX3_does_0_0_5_f9_f7 (l : Launch) (D : va_G) (ca : Nat → ClassId) (za h : Nat → Nat) (hh : sgH 52 h) (f : sg_F) (L : sg_L) (Q : sg_Q) (hI : sgI loX hiX f) (x2 : Int32) (hf_36_3 : f 36 3 = 9) (hf_36_4 : f 36 4 = 7) (b2 : 2 ≤ x2.toInt ∧ x2.toInt ≤ 2) (p0 : 9 ≤ (f 36 3).toInt ∧ (f 36 3).toInt ≤ 9) (sz : Nat) : Met l yX3_does gwX3_does { frames := 1, cells := 0, slots := 0, locals := 24 } (sgP D vwCl (tyX ca) 52 h (eX ca h) zcX za f L Q sz [.ref (h 36), .int 0, .int 0, .int x2, .int 5]) (sgQi D vwCl 52 h (eX ca h) sz (fun r f1 L1 Q1 => ((sgI loX hiX f1 ∧ sgK WkX3_does_0_0_5_f9_f7 f f1 ∧ L1 = L ∧ Q1 = Q) ∧ (2 ≤ r.toInt ∧ r.toInt ≤ 51) ∧ (10 ≤ (f1 36 3).toInt ∧ (f1 36 3).toInt ≤ 10) ∧ (r, f1) = sX3_does_0_0_5_f9_f7 x2 f L))) 0 0 (sgA 52 h sz) := by
  refine sg_ofWi (cc := cX3_does) (maxL := 7) RX3 (by decide) rfl rfl (Nat.le_of_ble_eq_true rfl) ?_
  intro p e s m below meth cd Qz ls hx hb hml hown hts hK hZ hP hS hl hret
  have hA := sgY.self (n := 52) (h := h) (sz := s.heap.size)
  have hl : lv_has ls 7 [(0, .ref (h 36)), (1, .int 0), (2, .int 0), (3, .int x2), (4, .int 5)] := hl
  obtain ⟨H, hH⟩ : ∃ z : Heap, z = s.heap := ⟨_, rfl⟩
  obtain ⟨locs, hlo⟩ : ∃ z : List Loc, z = [] := ⟨_, rfl⟩
  have hP : va_P D vwCl (sgw 52 h (eX ca h) f L Q) H := by rw [hH]; exact hP
  have hS : va_S (sgA 52 h s.heap.size) s.heap H locs := by rw [hH, hlo]; exact hS
  suffices hgo : W p l e ({ frames := 1, cells := 0, slots := 0, locals := 24 }) s m ([.ref (h 36), .int 0, .int 0, .int x2, .int 5] : List Value).toArray below meth cd H locs 0 0 Qz (F0 m 0 ls []) by rw [hH, hlo] at hgo; exact hgo
  clear hH hlo
  obtain ⟨sp, hsp⟩ : ∃ z : Int32 × sg_F, z = sX3_does_0_0_5_f9_f7 x2 f L := ⟨_, rfl⟩
  have hs : sp = sX3_does_0_0_5_f9_f7 x2 f L := hsp
  have o_1 : (f 36 3).toInt = 9 := (congrArg Int32.toInt (show f 36 3 = 9 from hf_36_3)).trans (by decide)
  have hF : sgK WkX3_does_0_0_5_f9_f7 f f := sgK.rf
  have blk_53 : ∀ (fp_53 : sg_F) (H : Heap) (locs : List Loc) (ls : Array Slot), sp = sX3_does_0_0_5_f9_f7_b53 x2 fp_53 L → 9 ≤ (fp_53 36 3).toInt ∧ (fp_53 36 3).toInt ≤ 9 → 7 ≤ (fp_53 36 4).toInt ∧ (fp_53 36 4).toInt ≤ 7 → sgI loX hiX fp_53 → sgK WkX3_does_0_0_5_f9_f7 f fp_53 → va_P D vwCl (sgw 52 h (eX ca h) fp_53 L Q) H → va_S (sgA 52 h s.heap.size) s.heap H locs → lv_has ls 7 [(0, .ref (h 36)), (3, .int x2), (4, .int 5), (5, .int 0), (6, .int 1)] → W p l e ({ frames := 1, cells := 0, slots := 0, locals := 24 }) s m ([.ref (h 36), .int 0, .int 0, .int x2, .int 5] : List Value).toArray below meth cd H locs 0 0 Qz (F0 m 53 ls []) := by
    intro fp_53 H locs ls hs hy0_53 hy1_53 hI hF hP hS hl
    obtain ⟨v_2, ev_2⟩ : ∃ z : Int32, z = fp_53 36 3 := ⟨_, rfl⟩
    have q_3 : 0 ≤ v_2.toInt ∧ v_2.toInt ≤ 19 := by rw [ev_2]; exact hI 36 3
    have q_4 : (fp_53 36 3).toInt = v_2.toInt := by rw [ev_2]
    obtain ⟨v_5, ev_5⟩ : ∃ z : Int32, z = fp_53 36 4 := ⟨_, rfl⟩
    have q_6 : 0 ≤ v_5.toInt ∧ v_5.toInt ≤ 7 := by rw [ev_5]; exact hI 36 4
    have q_7 : (fp_53 36 4).toInt = v_5.toInt := by rw [ev_5]
    have m_8 : fp_53 36 4 = 7 := (hF 36 4 (by decide)).trans hf_36_4
    refine lv_aload_n hx hb dX3_does_53 rfl (lv_at hl 0 rfl) ?_
    refine lv_dup hx hb dX3_does_54 rfl ?_
    refine sl_gX_36_3_3 (v := v_2) hx hb hts hown hK hP (show fp_53 36 3 = v_2 from ev_2.symm) dX3_does_55 ?_
    refine lv_iconst (v := 1) hx hb dX3_does_58 ic_1 ?_
    refine lv_iadd hx hb dX3_does_59 ?_
    refine lv_topi (fun v_9 ev_9 => ?_)
    have q_10 : v_9.toInt = v_2.toInt + 1 := by rw [ev_9]; first | exact cm_add ti_1 (by omega) (by omega) | (have k1 : (1 : Int32).toInt = 1 := ti_1; exact (bn_addI (by omega) (by omega)).trans (by omega))
    refine sl_pX_36_3_3 (x := v_9) hx hb hts hown hh hA hK hP hS dX3_does_60 (fun f_11 H locs ef_11 hP hS => ?_)
    have hI : sgI loX hiX f_11 := by rw [ef_11]; exact sgI.put hI 36 3 (show 0 ≤ (v_9 : Int32).toInt ∧ (v_9 : Int32).toInt ≤ 19 from ⟨by omega, by omega⟩)
    have hF : sgK WkX3_does_0_0_5_f9_f7 f f_11 := sgK.put hF ef_11 (by rfl)
    refine lv_aload_n hx hb dX3_does_63 rfl (lv_at hl 0 rfl) ?_
    refine lv_iload hx hb dX3_does_64 (lv_at hl 4 rfl) ?_
    refine sg_gets hx hb hZ 2 rfl hS hown (hts _ (List.mem_cons_of_mem _ mw_174)) (fun _ h9 => h9) dX3_does_66 ?_
    refine lv_iload hx hb dX3_does_69 (lv_at hl 3 rfl) ?_
    refine sg_sald hx hb hZ 2 rfl hS (y := 0) (N := 8) (vp_in_iff.mpr (by decide)) dX3_does_71 ?_
    refine W.eq (g2 := F0 m 72 ls [.int (-1), .int 1, .ref (h 36)]) (by rfl) ?_
    refine lv_iload_n hx hb dX3_does_72 rfl (lv_at hl 1 rfl) ?_
    refine lv_iload hx hb dX3_does_73 (lv_at hl 2 rfl) ?_
    refine lv_iconst (v := 1) hx hb dX3_does_75 ic_1 ?_
    refine lv_iadd hx hb dX3_does_76 ?_
    refine W.eq (g2 := F0 m 77 ls [.int 6, .int x2, .int (-1), .int 1, .ref (h 36)]) (by rw [show (5 + 1 : Int32) = 6 from by decide]) ?_
    have c_12 : v_9 = 10 := Int32.toInt_inj.mp (by have k9 : (10 : Int32).toInt = 10 := ti_10; omega)
    have q_13 : (f_11 36 3).toInt = 10 := (congrArg Int32.toInt (show f_11 36 3 = 10 from (Eq.trans (by rw [ef_11, sg_up_s, sgu_s]) c_12))).trans (by decide)
    refine sg_calli (va_runV (As := [.int 1, .int (-1), .int x2, .int 6]) (rest := []) ⟨hx, hb, hml, hown, hts⟩ (kX3_runs_1_m1_6_f10_f7 l D ca za h hh f_11 L Q hI x2 (Eq.trans (by rw [ef_11, sg_up_s, sgu_s]) c_12) (by rw [ef_11, sg_up_s, sgu_n (by decide)]; exact m_8) b2 (by have k0 : (1 : Int32).toInt = 1 := ti_1; have k1 : ((-1) : Int32).toInt = (-1) := ti_m1; have k3 : (6 : Int32).toInt = 6 := ti_6; omega) H.size) (sl_c3_runs_0_0_0_0_3 hts ⟨Nat.le_of_ble_eq_true rfl, Nat.le_of_ble_eq_true rfl⟩) (sl_vX_36 hA hK hP hS hZ) rfl rfl hl.1 rfl (lv_room (Nat.le_of_ble_eq_true rfl)) dX3_does_77 ⟨Nat.le_refl _, Nat.le_refl _⟩) hA hS (fun r_18 f_15 L_16 Q_17 H locs hq hP hS => ?_)
    obtain ⟨⟨ef9, eL9, eQ9⟩, hq, p_19, u_20⟩ := hq
    rw [ef9, eL9, eQ9] at hP; clear ef9 eL9 eQ9
    have k_23 : (1 : Int32).toInt = 1 := by decide
    have k_24 : ((-1) : Int32).toInt = (-1) := by decide
    have k_25 : (6 : Int32).toInt = 6 := by decide
    exact hret _ _ _ _ (r_18) f_11 L Q dX3_does_80 hP hS ⟨⟨hI, hF, rfl, rfl⟩, ⟨by omega, by omega⟩, ⟨by omega, by omega⟩, (Eq.trans (Eq.symm (hs.trans ((spl_e ev_2 (spl_e ev_5 (spl_e ev_9 (spl_e ef_11 (spl_e u_20 rfl)))))))) hsp)⟩
  refine lv_iload_n hx hb dX3_does_0 rfl (lv_at hl 1 rfl) ?_
  refine lv_iload_n hx hb dX3_does_1 rfl (lv_at hl 2 rfl) ?_
  refine sg_calli (va_runS (As := [.int 0, .int 0]) (rest := []) ⟨hx, hb, hml, hown, hts⟩ (kX3_ownerOf_0_0 l D ca za h hh f L Q hI H.size) (va_cwS 2 hts (gw_S (fun _ h => List.mem_cons_of_mem _ h) mw_189 mw_190 mw_47 mw_188) rfl rfl rfl hd_yX3_ownerOf.2 ⟨Nat.le_of_ble_eq_true rfl, Nat.le_of_ble_eq_true rfl⟩) (sg_preS hA hK hP hS hZ) rfl rfl hl.1 rfl (lv_room (Nat.le_of_ble_eq_true rfl)) dX3_does_2 ⟨Nat.le_refl _, Nat.le_refl _⟩) hA hS (fun r_31 f_28 L_29 Q_30 H locs hq hP hS => ?_)
  obtain ⟨⟨ef9, eL9, eQ9⟩, hq, u_32⟩ := hq
  rw [ef9, eL9, eQ9] at hP; clear ef9 eL9 eQ9
  obtain rfl : r_31 = 0 := Int32.toInt_inj.mp (by have k9 : (0 : Int32).toInt = 0 := ti_0; omega)
  refine lv_istore (lv' := [(5, .int 0), (0, .ref (h 36)), (1, .int 0), (2, .int 0), (3, .int x2), (4, .int 5)]) hx hb dX3_does_5 hl (by decide) rfl (fun ls hl => ?_)
  refine lv_iload hx hb dX3_does_7 (lv_at hl 0 rfl) ?_
  refine lv_if_lt (tgt := 19) hx hb dX3_does_9 (by decide) (fun c => absurd c (by decide)) (fun c => ?_)
  refine lv_iload hx hb dX3_does_12 (lv_at hl 5 rfl) ?_
  refine lv_bipush (v := 40) hx hb dX3_does_14 bp_40 ?_
  refine lv_icmp_le (tgt := 21) hx hb dX3_does_16 (by decide) (fun c => ?_) (fun c => absurd c (by decide))
  refine sg_gets hx hb hZ 3 rfl hS hown (hts _ (List.mem_cons_of_mem _ mw_173)) (fun _ h9 => h9) dX3_does_21 ?_
  refine lv_iload hx hb dX3_does_24 (lv_at hl 0 rfl) ?_
  refine lv_iconst (v := 4) hx hb dX3_does_26 ic_4 ?_
  refine lv_imul hx hb dX3_does_27 ?_
  refine W.eq (g2 := F0 m 28 ls [.int 0, .ref (za 3)]) (by rw [show (0 * 4 : Int32) = 0 from by decide]) ?_
  refine lv_iload_n hx hb dX3_does_28 rfl (lv_at hl 3 rfl) ?_
  refine lv_iadd hx hb dX3_does_29 ?_
  refine W.eq (g2 := F0 m 30 ls [.int 0, .ref (za 3)]) (by rw [show (0 + 0 : Int32) = 0 from by decide]) ?_
  refine sg_sald hx hb hZ 3 rfl hS (y := 0) (N := 32) (vp_in_iff.mpr (by decide)) dX3_does_30 ?_
  refine W.eq (g2 := F0 m 31 ls [.int 1]) (by rfl) ?_
  refine lv_istore (lv' := [(6, .int 1), (5, .int 0), (0, .ref (h 36)), (1, .int 0), (2, .int 0), (3, .int x2), (4, .int 5)]) hx hb dX3_does_31 hl (by decide) rfl (fun ls hl => ?_)
  refine lv_aload_n hx hb dX3_does_33 rfl (lv_at hl 2 rfl) ?_
  refine sl_gX_36_3_3 (v := 9) hx hb hts hown hK hP (show f 36 3 = 9 from hf_36_3) dX3_does_34 ?_
  refine lv_bipush (v := 24) hx hb dX3_does_37 bp_24 ?_
  refine lv_icmp_ge (tgt := 53) hx hb dX3_does_39 (by decide) (fun c => absurd c (by decide)) (fun c => ?_)
  refine lv_aload_n hx hb dX3_does_42 rfl (lv_at hl 2 rfl) ?_
  refine sl_gX_36_1_3 hx hb hts hown hK hP dX3_does_43 ?_
  refine lv_aload_n hx hb dX3_does_46 rfl (lv_at hl 2 rfl) ?_
  refine sl_gX_36_3_3 (v := 9) hx hb hts hown hK hP (show f 36 3 = 9 from hf_36_3) dX3_does_47 ?_
  refine lv_iload hx hb dX3_does_50 (lv_at hl 0 rfl) ?_
  refine sg_iast hx hb hh hA hK hP hS 38 (by decide) 0 (fun _ => rfl) rfl (i := 9) (x := 1) (vp_in_iff.mpr (by decide)) dX3_does_52 (fun f_33 H locs ef_33 hP hS => ?_)
  have ef_33 : f_33 = sg_up f 38 (sgu (f 38) 9 1) := ef_33
  have hI : sgI loX hiX f_33 := by rw [ef_33]; exact sgI.put hI 38 9 (show 0 ≤ (1 : Int32).toInt ∧ (1 : Int32).toInt ≤ 81 from by decide)
  have hF : sgK WkX3_does_0_0_5_f9_f7 f f_33 := sgK.put hF ef_33 (by rfl)
  exact blk_53 f_33 _ _ _ (hs.trans ((spl_e u_32 (spl_e ef_33 rfl)))) (by have zz36_3 : (f_33 36 3).toInt = 9 := (congrArg Int32.toInt (show f_33 36 3 = 9 from (by rw [ef_33, sg_up_n (by decide)]; exact hf_36_3))).trans (by decide); exact ⟨by omega, by omega⟩) (by have zz36_4 : (f_33 36 4).toInt = 7 := (congrArg Int32.toInt (show f_33 36 4 = 7 from (by rw [ef_33, sg_up_n (by decide)]; exact hf_36_4))).trans (by decide); exact ⟨by omega, by omega⟩) hI hF hP hS (lv_sub hl [2, 5, 6, 1, 0] rfl)

abbrev WkX3_runs_20_0_5_f9_f7 : List (Nat × Nat × Option Nat) := [(36, 36, some 3), (38, 38, some 9)]
set_option maxHeartbeats 4000000 in
set_option maxRecDepth 100000 in
theorem kX3_runs_20_0_5_f9_f7 (l : Launch) (D : va_G) (ca : Nat → ClassId) (za h : Nat → Nat) (hh : sgH 52 h) (f : sg_F) (L : sg_L) (Q : sg_Q) (hI : sgI loX hiX f) (x2 : Int32) (hf_36_3 : f 36 3 = 9) (hf_36_4 : f 36 4 = 7) (b2 : 2 ≤ x2.toInt ∧ x2.toInt ≤ 2) (p0 : 9 ≤ (f 36 3).toInt ∧ (f 36 3).toInt ≤ 9) (sz : Nat) : Met l yX3_runs gwX3_runs { frames := 2, cells := 0, slots := 0, locals := 50 } (sgP D vwCl (tyX ca) 52 h (eX ca h) zcX za f L Q sz [.ref (h 36), .int 20, .int 0, .int x2, .int 5]) (sgQi D vwCl 52 h (eX ca h) sz (fun r f1 L1 Q1 => ((sgI loX hiX f1 ∧ sgK WkX3_runs_20_0_5_f9_f7 f f1 ∧ L1 = L ∧ Q1 = Q) ∧ (5 ≤ r.toInt ∧ r.toInt ≤ 54) ∧ (10 ≤ (f1 36 3).toInt ∧ (f1 36 3).toInt ≤ 10) ∧ (r, f1) = sX3_runs_20_0_5_f9_f7 x2 f L))) 0 0 (sgA 52 h sz) := by
  refine sg_ofWi (cc := cX3_runs) (maxL := 5) RX3 (by decide) rfl rfl (Nat.le_of_ble_eq_true rfl) ?_
  intro p e s m below meth cd Qz ls hx hb hml hown hts hK hZ hP hS hl hret
  have hA := sgY.self (n := 52) (h := h) (sz := s.heap.size)
  have hl : lv_has ls 5 [(0, .ref (h 36)), (1, .int 20), (2, .int 0), (3, .int x2), (4, .int 5)] := hl
  obtain ⟨H, hH⟩ : ∃ z : Heap, z = s.heap := ⟨_, rfl⟩
  obtain ⟨locs, hlo⟩ : ∃ z : List Loc, z = [] := ⟨_, rfl⟩
  have hP : va_P D vwCl (sgw 52 h (eX ca h) f L Q) H := by rw [hH]; exact hP
  have hS : va_S (sgA 52 h s.heap.size) s.heap H locs := by rw [hH, hlo]; exact hS
  suffices hgo : W p l e ({ frames := 2, cells := 0, slots := 0, locals := 50 }) s m ([.ref (h 36), .int 20, .int 0, .int x2, .int 5] : List Value).toArray below meth cd H locs 0 0 Qz (F0 m 0 ls []) by rw [hH, hlo] at hgo; exact hgo
  clear hH hlo
  obtain ⟨sp, hsp⟩ : ∃ z : Int32 × sg_F, z = sX3_runs_20_0_5_f9_f7 x2 f L := ⟨_, rfl⟩
  have hs : sp = sX3_runs_20_0_5_f9_f7 x2 f L := hsp
  have o_1 : (f 36 3).toInt = 9 := (congrArg Int32.toInt (show f 36 3 = 9 from hf_36_3)).trans (by decide)
  have hF : sgK WkX3_runs_20_0_5_f9_f7 f f := sgK.rf
  refine lv_iload_n hx hb dX3_runs_0 rfl (lv_at hl 1 rfl) ?_
  refine lv_lookup (x := 20) (off := 170) (tgt := 171) hx hb dX3_runs_1 (by decide) (by decide) (by decide) ?_
  refine lv_aload_n hx hb dX3_runs_171 rfl (lv_at hl 0 rfl) ?_
  refine lv_iload_n hx hb dX3_runs_172 rfl (lv_at hl 2 rfl) ?_
  refine lv_iconst (v := 0) hx hb dX3_runs_173 ic_0 ?_
  refine lv_iload_n hx hb dX3_runs_174 rfl (lv_at hl 3 rfl) ?_
  refine lv_iload hx hb dX3_runs_175 (lv_at hl 4 rfl) ?_
  have q_2 : (f 36 3).toInt = 9 := (congrArg Int32.toInt (show f 36 3 = 9 from hf_36_3)).trans (by decide)
  refine sg_calli (va_runV (As := [.int 0, .int 0, .int x2, .int 5]) (rest := []) ⟨hx, hb, hml, hown, hts⟩ (kX3_does_0_0_5_f9_f7 l D ca za h hh f L Q hI x2 hf_36_3 hf_36_4 b2 (by have k0 : (0 : Int32).toInt = 0 := ti_0; have k1 : (0 : Int32).toInt = 0 := ti_0; have k3 : (5 : Int32).toInt = 5 := ti_5; omega) H.size) (sl_c3_does_1_0_0_24_3 hts ⟨Nat.le_of_ble_eq_true rfl, Nat.le_of_ble_eq_true rfl⟩) (sl_vX_36 hA hK hP hS hZ) rfl rfl hl.1 rfl (lv_room (Nat.le_of_ble_eq_true rfl)) dX3_runs_177 ⟨Nat.le_refl _, Nat.le_refl _⟩) hA hS (fun r_7 f_4 L_5 Q_6 H locs hq hP hS => ?_)
  obtain ⟨⟨hI, hk_f_4, eL9, eQ9⟩, hq, p_8, u_9⟩ := hq
  rw [eL9, eQ9] at hP; clear eL9 eQ9
  have hF : sgK WkX3_runs_20_0_5_f9_f7 f f_4 := sgK.tr hF hk_f_4 (by decide +kernel)
  obtain ⟨v_10, ev_10⟩ : ∃ z : Int32, z = f_4 36 3 := ⟨_, rfl⟩
  have q_11 : 0 ≤ v_10.toInt ∧ v_10.toInt ≤ 19 := by rw [ev_10]; exact hI 36 3
  have q_12 : (f_4 36 3).toInt = v_10.toInt := (congrArg Int32.toInt (show f_4 36 3 = v_10 from ev_10.symm))
  have k_14 : (0 : Int32).toInt = 0 := by decide
  have k_15 : (0 : Int32).toInt = 0 := by decide
  have k_16 : (5 : Int32).toInt = 5 := by decide
  refine lv_iconst (v := 3) hx hb dX3_runs_180 ic_3 ?_
  refine lv_iadd hx hb dX3_runs_181 ?_
  refine lv_topi (fun v_17 ev_17 => ?_)
  have q_18 : v_17.toInt = r_7.toInt + 3 := by rw [ev_17]; first | exact cm_add ti_3 (by omega) (by omega) | (have k1 : (3 : Int32).toInt = 3 := ti_3; exact (bn_addI (by omega) (by omega)).trans (by omega))
  exact hret _ _ _ _ (v_17) f_4 L Q dX3_runs_182 hP hS ⟨⟨hI, hF, rfl, rfl⟩, ⟨by omega, by omega⟩, ⟨by omega, by omega⟩, (Eq.trans (Eq.symm (hs.trans ((spl2_e u_9 (spl_e ev_10 (spl_e ev_17 rfl)))))) hsp)⟩

abbrev WkX3_does_7_0_4_f8_f7 : List (Nat × Nat × Option Nat) := [(36, 36, some 3), (38, 38, some 8), (38, 38, some 9)]
set_option maxHeartbeats 4000000 in
set_option maxRecDepth 100000 in
theorem kX3_does_7_0_4_f8_f7 (l : Launch) (D : va_G) (ca : Nat → ClassId) (za h : Nat → Nat) (hh : sgH 52 h) (f : sg_F) (L : sg_L) (Q : sg_Q) (hI : sgI loX hiX f) (x2 : Int32) (hf_36_3 : f 36 3 = 8) (hf_36_4 : f 36 4 = 7) (b2 : 2 ≤ x2.toInt ∧ x2.toInt ≤ 2) (p0 : 8 ≤ (f 36 3).toInt ∧ (f 36 3).toInt ≤ 8) (sz : Nat) : Met l yX3_does gwX3_does { frames := 3, cells := 0, slots := 0, locals := 74 } (sgP D vwCl (tyX ca) 52 h (eX ca h) zcX za f L Q sz [.ref (h 36), .int 7, .int 0, .int x2, .int 4]) (sgQi D vwCl 52 h (eX ca h) sz (fun r f1 L1 Q1 => ((sgI loX hiX f1 ∧ sgK WkX3_does_7_0_4_f8_f7 f f1 ∧ L1 = L ∧ Q1 = Q) ∧ (5 ≤ r.toInt ∧ r.toInt ≤ 54) ∧ (10 ≤ (f1 36 3).toInt ∧ (f1 36 3).toInt ≤ 10) ∧ (r, f1) = sX3_does_7_0_4_f8_f7 x2 f L))) 0 0 (sgA 52 h sz) := by
  refine sg_ofWi (cc := cX3_does) (maxL := 7) RX3 (by decide) rfl rfl (Nat.le_of_ble_eq_true rfl) ?_
  intro p e s m below meth cd Qz ls hx hb hml hown hts hK hZ hP hS hl hret
  have hA := sgY.self (n := 52) (h := h) (sz := s.heap.size)
  have hl : lv_has ls 7 [(0, .ref (h 36)), (1, .int 7), (2, .int 0), (3, .int x2), (4, .int 4)] := hl
  obtain ⟨H, hH⟩ : ∃ z : Heap, z = s.heap := ⟨_, rfl⟩
  obtain ⟨locs, hlo⟩ : ∃ z : List Loc, z = [] := ⟨_, rfl⟩
  have hP : va_P D vwCl (sgw 52 h (eX ca h) f L Q) H := by rw [hH]; exact hP
  have hS : va_S (sgA 52 h s.heap.size) s.heap H locs := by rw [hH, hlo]; exact hS
  suffices hgo : W p l e ({ frames := 3, cells := 0, slots := 0, locals := 74 }) s m ([.ref (h 36), .int 7, .int 0, .int x2, .int 4] : List Value).toArray below meth cd H locs 0 0 Qz (F0 m 0 ls []) by rw [hH, hlo] at hgo; exact hgo
  clear hH hlo
  obtain ⟨sp, hsp⟩ : ∃ z : Int32 × sg_F, z = sX3_does_7_0_4_f8_f7 x2 f L := ⟨_, rfl⟩
  have hs : sp = sX3_does_7_0_4_f8_f7 x2 f L := hsp
  have o_1 : (f 36 3).toInt = 8 := (congrArg Int32.toInt (show f 36 3 = 8 from hf_36_3)).trans (by decide)
  have hF : sgK WkX3_does_7_0_4_f8_f7 f f := sgK.rf
  have blk_53 : ∀ (fp_53 : sg_F) (H : Heap) (locs : List Loc) (ls : Array Slot), sp = sX3_does_7_0_4_f8_f7_b53 x2 fp_53 L → 8 ≤ (fp_53 36 3).toInt ∧ (fp_53 36 3).toInt ≤ 8 → 7 ≤ (fp_53 36 4).toInt ∧ (fp_53 36 4).toInt ≤ 7 → sgI loX hiX fp_53 → sgK WkX3_does_7_0_4_f8_f7 f fp_53 → va_P D vwCl (sgw 52 h (eX ca h) fp_53 L Q) H → va_S (sgA 52 h s.heap.size) s.heap H locs → lv_has ls 7 [(0, .ref (h 36)), (3, .int x2), (4, .int 4), (5, .int 1), (6, .int 20)] → W p l e ({ frames := 3, cells := 0, slots := 0, locals := 74 }) s m ([.ref (h 36), .int 7, .int 0, .int x2, .int 4] : List Value).toArray below meth cd H locs 0 0 Qz (F0 m 53 ls []) := by
    intro fp_53 H locs ls hs hy0_53 hy1_53 hI hF hP hS hl
    obtain ⟨v_2, ev_2⟩ : ∃ z : Int32, z = fp_53 36 3 := ⟨_, rfl⟩
    have q_3 : 0 ≤ v_2.toInt ∧ v_2.toInt ≤ 19 := by rw [ev_2]; exact hI 36 3
    have q_4 : (fp_53 36 3).toInt = v_2.toInt := by rw [ev_2]
    obtain ⟨v_5, ev_5⟩ : ∃ z : Int32, z = fp_53 36 4 := ⟨_, rfl⟩
    have q_6 : 0 ≤ v_5.toInt ∧ v_5.toInt ≤ 7 := by rw [ev_5]; exact hI 36 4
    have q_7 : (fp_53 36 4).toInt = v_5.toInt := by rw [ev_5]
    have m_8 : fp_53 36 4 = 7 := (hF 36 4 (by decide)).trans hf_36_4
    refine lv_aload_n hx hb dX3_does_53 rfl (lv_at hl 0 rfl) ?_
    refine lv_dup hx hb dX3_does_54 rfl ?_
    refine sl_gX_36_3_3 (v := v_2) hx hb hts hown hK hP (show fp_53 36 3 = v_2 from ev_2.symm) dX3_does_55 ?_
    refine lv_iconst (v := 1) hx hb dX3_does_58 ic_1 ?_
    refine lv_iadd hx hb dX3_does_59 ?_
    refine lv_topi (fun v_9 ev_9 => ?_)
    have q_10 : v_9.toInt = v_2.toInt + 1 := by rw [ev_9]; first | exact cm_add ti_1 (by omega) (by omega) | (have k1 : (1 : Int32).toInt = 1 := ti_1; exact (bn_addI (by omega) (by omega)).trans (by omega))
    refine sl_pX_36_3_3 (x := v_9) hx hb hts hown hh hA hK hP hS dX3_does_60 (fun f_11 H locs ef_11 hP hS => ?_)
    have hI : sgI loX hiX f_11 := by rw [ef_11]; exact sgI.put hI 36 3 (show 0 ≤ (v_9 : Int32).toInt ∧ (v_9 : Int32).toInt ≤ 19 from ⟨by omega, by omega⟩)
    have hF : sgK WkX3_does_7_0_4_f8_f7 f f_11 := sgK.put hF ef_11 (by rfl)
    refine lv_aload_n hx hb dX3_does_63 rfl (lv_at hl 0 rfl) ?_
    refine lv_iload hx hb dX3_does_64 (lv_at hl 4 rfl) ?_
    refine sg_gets hx hb hZ 2 rfl hS hown (hts _ (List.mem_cons_of_mem _ mw_174)) (fun _ h9 => h9) dX3_does_66 ?_
    refine lv_iload hx hb dX3_does_69 (lv_at hl 3 rfl) ?_
    refine sg_sald hx hb hZ 2 rfl hS (y := 1) (N := 8) (vp_in_iff.mpr (by decide)) dX3_does_71 ?_
    refine W.eq (g2 := F0 m 72 ls [.int 0, .int 20, .ref (h 36)]) (by rfl) ?_
    refine lv_iload_n hx hb dX3_does_72 rfl (lv_at hl 1 rfl) ?_
    refine lv_iload hx hb dX3_does_73 (lv_at hl 2 rfl) ?_
    refine lv_iconst (v := 1) hx hb dX3_does_75 ic_1 ?_
    refine lv_iadd hx hb dX3_does_76 ?_
    refine W.eq (g2 := F0 m 77 ls [.int 5, .int x2, .int 0, .int 20, .ref (h 36)]) (by rw [show (4 + 1 : Int32) = 5 from by decide]) ?_
    have c_12 : v_9 = 9 := Int32.toInt_inj.mp (by have k9 : (9 : Int32).toInt = 9 := ti_9; omega)
    have q_13 : (f_11 36 3).toInt = 9 := (congrArg Int32.toInt (show f_11 36 3 = 9 from (Eq.trans (by rw [ef_11, sg_up_s, sgu_s]) c_12))).trans (by decide)
    refine sg_calli (va_runV (As := [.int 20, .int 0, .int x2, .int 5]) (rest := []) ⟨hx, hb, hml, hown, hts⟩ (kX3_runs_20_0_5_f9_f7 l D ca za h hh f_11 L Q hI x2 (Eq.trans (by rw [ef_11, sg_up_s, sgu_s]) c_12) (by rw [ef_11, sg_up_s, sgu_n (by decide)]; exact m_8) b2 (by have k0 : (20 : Int32).toInt = 20 := ti_20; have k1 : (0 : Int32).toInt = 0 := ti_0; have k3 : (5 : Int32).toInt = 5 := ti_5; omega) H.size) (sl_c3_runs_2_0_0_50_3 hts ⟨Nat.le_of_ble_eq_true rfl, Nat.le_of_ble_eq_true rfl⟩) (sl_vX_36 hA hK hP hS hZ) rfl rfl hl.1 rfl (lv_room (Nat.le_of_ble_eq_true rfl)) dX3_does_77 ⟨Nat.le_refl _, Nat.le_refl _⟩) hA hS (fun r_18 f_15 L_16 Q_17 H locs hq hP hS => ?_)
    obtain ⟨⟨hI, hk_f_15, eL9, eQ9⟩, hq, p_19, u_20⟩ := hq
    rw [eL9, eQ9] at hP; clear eL9 eQ9
    have hF : sgK WkX3_does_7_0_4_f8_f7 f f_15 := sgK.tr hF hk_f_15 (by decide +kernel)
    obtain ⟨v_21, ev_21⟩ : ∃ z : Int32, z = f_15 36 3 := ⟨_, rfl⟩
    have q_22 : 0 ≤ v_21.toInt ∧ v_21.toInt ≤ 19 := by rw [ev_21]; exact hI 36 3
    have q_23 : (f_15 36 3).toInt = v_21.toInt := (congrArg Int32.toInt (show f_15 36 3 = v_21 from ev_21.symm))
    have k_25 : (20 : Int32).toInt = 20 := by decide
    have k_26 : (0 : Int32).toInt = 0 := by decide
    have k_27 : (5 : Int32).toInt = 5 := by decide
    exact hret _ _ _ _ (r_18) f_15 L Q dX3_does_80 hP hS ⟨⟨hI, hF, rfl, rfl⟩, ⟨by omega, by omega⟩, ⟨by omega, by omega⟩, (Eq.trans (Eq.symm (hs.trans ((spl_e ev_2 (spl_e ev_5 (spl_e ev_9 (spl_e ef_11 (spl2_e u_20 (spl_e ev_21 rfl))))))))) hsp)⟩
  refine lv_iload_n hx hb dX3_does_0 rfl (lv_at hl 1 rfl) ?_
  refine lv_iload_n hx hb dX3_does_1 rfl (lv_at hl 2 rfl) ?_
  refine sg_calli (va_runS (As := [.int 7, .int 0]) (rest := []) ⟨hx, hb, hml, hown, hts⟩ (kX3_ownerOf_7_0 l D ca za h hh f L Q hI H.size) (va_cwS 2 hts (gw_S (fun _ h => List.mem_cons_of_mem _ h) mw_189 mw_190 mw_47 mw_188) rfl rfl rfl hd_yX3_ownerOf.2 ⟨Nat.le_of_ble_eq_true rfl, Nat.le_of_ble_eq_true rfl⟩) (sg_preS hA hK hP hS hZ) rfl rfl hl.1 rfl (lv_room (Nat.le_of_ble_eq_true rfl)) dX3_does_2 ⟨Nat.le_refl _, Nat.le_refl _⟩) hA hS (fun r_33 f_30 L_31 Q_32 H locs hq hP hS => ?_)
  obtain ⟨⟨ef9, eL9, eQ9⟩, hq, u_34⟩ := hq
  rw [ef9, eL9, eQ9] at hP; clear ef9 eL9 eQ9
  obtain rfl : r_33 = 1 := Int32.toInt_inj.mp (by have k9 : (1 : Int32).toInt = 1 := ti_1; omega)
  refine lv_istore (lv' := [(5, .int 1), (0, .ref (h 36)), (1, .int 7), (2, .int 0), (3, .int x2), (4, .int 4)]) hx hb dX3_does_5 hl (by decide) rfl (fun ls hl => ?_)
  refine lv_iload hx hb dX3_does_7 (lv_at hl 0 rfl) ?_
  refine lv_if_lt (tgt := 19) hx hb dX3_does_9 (by decide) (fun c => absurd c (by decide)) (fun c => ?_)
  refine lv_iload hx hb dX3_does_12 (lv_at hl 5 rfl) ?_
  refine lv_bipush (v := 40) hx hb dX3_does_14 bp_40 ?_
  refine lv_icmp_le (tgt := 21) hx hb dX3_does_16 (by decide) (fun c => ?_) (fun c => absurd c (by decide))
  refine sg_gets hx hb hZ 3 rfl hS hown (hts _ (List.mem_cons_of_mem _ mw_173)) (fun _ h9 => h9) dX3_does_21 ?_
  refine lv_iload hx hb dX3_does_24 (lv_at hl 0 rfl) ?_
  refine lv_iconst (v := 4) hx hb dX3_does_26 ic_4 ?_
  refine lv_imul hx hb dX3_does_27 ?_
  refine W.eq (g2 := F0 m 28 ls [.int 4, .ref (za 3)]) (by rw [show (1 * 4 : Int32) = 4 from by decide]) ?_
  refine lv_iload_n hx hb dX3_does_28 rfl (lv_at hl 3 rfl) ?_
  refine lv_iadd hx hb dX3_does_29 ?_
  refine W.eq (g2 := F0 m 30 ls [.int 4, .ref (za 3)]) (by rw [show (4 + 0 : Int32) = 4 from by decide]) ?_
  refine sg_sald hx hb hZ 3 rfl hS (y := 4) (N := 32) (vp_in_iff.mpr (by decide)) dX3_does_30 ?_
  refine W.eq (g2 := F0 m 31 ls [.int 20]) (by rfl) ?_
  refine lv_istore (lv' := [(6, .int 20), (5, .int 1), (0, .ref (h 36)), (1, .int 7), (2, .int 0), (3, .int x2), (4, .int 4)]) hx hb dX3_does_31 hl (by decide) rfl (fun ls hl => ?_)
  refine lv_aload_n hx hb dX3_does_33 rfl (lv_at hl 2 rfl) ?_
  refine sl_gX_36_3_3 (v := 8) hx hb hts hown hK hP (show f 36 3 = 8 from hf_36_3) dX3_does_34 ?_
  refine lv_bipush (v := 24) hx hb dX3_does_37 bp_24 ?_
  refine lv_icmp_ge (tgt := 53) hx hb dX3_does_39 (by decide) (fun c => absurd c (by decide)) (fun c => ?_)
  refine lv_aload_n hx hb dX3_does_42 rfl (lv_at hl 2 rfl) ?_
  refine sl_gX_36_1_3 hx hb hts hown hK hP dX3_does_43 ?_
  refine lv_aload_n hx hb dX3_does_46 rfl (lv_at hl 2 rfl) ?_
  refine sl_gX_36_3_3 (v := 8) hx hb hts hown hK hP (show f 36 3 = 8 from hf_36_3) dX3_does_47 ?_
  refine lv_iload hx hb dX3_does_50 (lv_at hl 0 rfl) ?_
  refine sg_iast hx hb hh hA hK hP hS 38 (by decide) 0 (fun _ => rfl) rfl (i := 8) (x := 20) (vp_in_iff.mpr (by decide)) dX3_does_52 (fun f_35 H locs ef_35 hP hS => ?_)
  have ef_35 : f_35 = sg_up f 38 (sgu (f 38) 8 20) := ef_35
  have hI : sgI loX hiX f_35 := by rw [ef_35]; exact sgI.put hI 38 8 (show 0 ≤ (20 : Int32).toInt ∧ (20 : Int32).toInt ≤ 81 from by decide)
  have hF : sgK WkX3_does_7_0_4_f8_f7 f f_35 := sgK.put hF ef_35 (by rfl)
  exact blk_53 f_35 _ _ _ (hs.trans ((spl_e u_34 (spl_e ef_35 rfl)))) (by have zz36_3 : (f_35 36 3).toInt = 8 := (congrArg Int32.toInt (show f_35 36 3 = 8 from (by rw [ef_35, sg_up_n (by decide)]; exact hf_36_3))).trans (by decide); exact ⟨by omega, by omega⟩) (by have zz36_4 : (f_35 36 4).toInt = 7 := (congrArg Int32.toInt (show f_35 36 4 = 7 from (by rw [ef_35, sg_up_n (by decide)]; exact hf_36_4))).trans (by decide); exact ⟨by omega, by omega⟩) hI hF hP hS (lv_sub hl [2, 5, 6, 1, 0] rfl)

abbrev WkX3_runs_50_1_4_f7_f7 : List (Nat × Nat × Option Nat) := [(36, 36, some 3), (38, 38, some 7), (38, 38, some 8), (38, 38, some 9)]
set_option maxHeartbeats 4000000 in
set_option maxRecDepth 100000 in
theorem kX3_runs_50_1_4_f7_f7 (l : Launch) (D : va_G) (ca : Nat → ClassId) (za h : Nat → Nat) (hh : sgH 52 h) (f : sg_F) (L : sg_L) (Q : sg_Q) (hI : sgI loX hiX f) (x2 : Int32) (hf_36_3 : f 36 3 = 7) (hf_36_4 : f 36 4 = 7) (b2 : 2 ≤ x2.toInt ∧ x2.toInt ≤ 2) (p0 : 7 ≤ (f 36 3).toInt ∧ (f 36 3).toInt ≤ 7) (sz : Nat) : Met l yX3_runs gwX3_runs { frames := 4, cells := 0, slots := 0, locals := 100 } (sgP D vwCl (tyX ca) 52 h (eX ca h) zcX za f L Q sz [.ref (h 36), .int 50, .int 1, .int x2, .int 4]) (sgQi D vwCl 52 h (eX ca h) sz (fun r f1 L1 Q1 => ((sgI loX hiX f1 ∧ sgK WkX3_runs_50_1_4_f7_f7 f f1 ∧ L1 = L ∧ Q1 = Q) ∧ True ∧ (10 ≤ (f1 36 3).toInt ∧ (f1 36 3).toInt ≤ 10) ∧ (r, f1) = sX3_runs_50_1_4_f7_f7 x2 f L))) 0 0 (sgA 52 h sz) := by
  refine sg_ofWi (cc := cX3_runs) (maxL := 5) RX3 (by decide) rfl rfl (Nat.le_of_ble_eq_true rfl) ?_
  intro p e s m below meth cd Qz ls hx hb hml hown hts hK hZ hP hS hl hret
  have hA := sgY.self (n := 52) (h := h) (sz := s.heap.size)
  have hl : lv_has ls 5 [(0, .ref (h 36)), (1, .int 50), (2, .int 1), (3, .int x2), (4, .int 4)] := hl
  obtain ⟨H, hH⟩ : ∃ z : Heap, z = s.heap := ⟨_, rfl⟩
  obtain ⟨locs, hlo⟩ : ∃ z : List Loc, z = [] := ⟨_, rfl⟩
  have hP : va_P D vwCl (sgw 52 h (eX ca h) f L Q) H := by rw [hH]; exact hP
  have hS : va_S (sgA 52 h s.heap.size) s.heap H locs := by rw [hH, hlo]; exact hS
  suffices hgo : W p l e ({ frames := 4, cells := 0, slots := 0, locals := 100 }) s m ([.ref (h 36), .int 50, .int 1, .int x2, .int 4] : List Value).toArray below meth cd H locs 0 0 Qz (F0 m 0 ls []) by rw [hH, hlo] at hgo; exact hgo
  clear hH hlo
  obtain ⟨sp, hsp⟩ : ∃ z : Int32 × sg_F, z = sX3_runs_50_1_4_f7_f7 x2 f L := ⟨_, rfl⟩
  have hs : sp = sX3_runs_50_1_4_f7_f7 x2 f L := hsp
  have o_1 : (f 36 3).toInt = 7 := (congrArg Int32.toInt (show f 36 3 = 7 from hf_36_3)).trans (by decide)
  have hF : sgK WkX3_runs_50_1_4_f7_f7 f f := sgK.rf
  refine lv_iload_n hx hb dX3_runs_0 rfl (lv_at hl 1 rfl) ?_
  refine lv_lookup (x := 50) (off := 217) (tgt := 218) hx hb dX3_runs_1 (by decide) (by decide) (by decide) ?_
  refine lv_aload_n hx hb dX3_runs_218 rfl (lv_at hl 0 rfl) ?_
  refine lv_iload_n hx hb dX3_runs_219 rfl (lv_at hl 2 rfl) ?_
  refine lv_iconst (v := 2) hx hb dX3_runs_220 ic_2 ?_
  refine lv_iload_n hx hb dX3_runs_221 rfl (lv_at hl 3 rfl) ?_
  refine lv_iload hx hb dX3_runs_222 (lv_at hl 4 rfl) ?_
  have q_2 : (f 36 3).toInt = 7 := (congrArg Int32.toInt (show f 36 3 = 7 from hf_36_3)).trans (by decide)
  refine sg_calli (va_runV (As := [.int 1, .int 2, .int x2, .int 4]) (rest := []) ⟨hx, hb, hml, hown, hts⟩ (kX3_does_1_2_4_f7_f7 l D ca za h hh f L Q hI x2 hf_36_3 hf_36_4 b2 (by have k0 : (1 : Int32).toInt = 1 := ti_1; have k1 : (2 : Int32).toInt = 2 := ti_2; have k3 : (4 : Int32).toInt = 4 := ti_4; omega) H.size) (sl_c3_does_1_0_0_24_3 hts ⟨Nat.le_of_ble_eq_true rfl, Nat.le_of_ble_eq_true rfl⟩) (sl_vX_36 hA hK hP hS hZ) rfl rfl hl.1 rfl (lv_room (Nat.le_of_ble_eq_true rfl)) dX3_runs_224 ⟨Nat.le_refl _, Nat.le_refl _⟩) hA hS (fun r_7 f_4 L_5 Q_6 H locs hq hP hS => ?_)
  obtain ⟨⟨hI, hk_f_4, eL9, eQ9⟩, hq, p_8, u_9⟩ := hq
  rw [eL9, eQ9] at hP; clear eL9 eQ9
  have hF : sgK WkX3_runs_50_1_4_f7_f7 f f_4 := sgK.tr hF hk_f_4 (by decide +kernel)
  obtain ⟨v_10, ev_10⟩ : ∃ z : Int32, z = f_4 36 3 := ⟨_, rfl⟩
  have q_11 : 0 ≤ v_10.toInt ∧ v_10.toInt ≤ 19 := by rw [ev_10]; exact hI 36 3
  have q_12 : (f_4 36 3).toInt = v_10.toInt := (congrArg Int32.toInt (show f_4 36 3 = v_10 from ev_10.symm))
  have k_14 : (1 : Int32).toInt = 1 := by decide
  have k_15 : (2 : Int32).toInt = 2 := by decide
  have k_16 : (4 : Int32).toInt = 4 := by decide
  refine lv_aload_n hx hb dX3_runs_227 rfl (lv_at hl 0 rfl) ?_
  refine lv_aload_n hx hb dX3_runs_228 rfl (lv_at hl 0 rfl) ?_
  refine sl_gX_36_4_3 (v := 7) hx hb hts hown hK hP (show f_4 36 4 = 7 from ((hk_f_4 36 4 (by decide)).trans hf_36_4)) dX3_runs_229 ?_
  refine lv_iconst (v := 0) hx hb dX3_runs_232 ic_0 ?_
  refine lv_iconst (v := 2) hx hb dX3_runs_233 ic_2 ?_
  refine lv_iload hx hb dX3_runs_234 (lv_at hl 4 rfl) ?_
  have c_17 : v_10 = 8 := Int32.toInt_inj.mp (by have k9 : (8 : Int32).toInt = 8 := ti_8; omega)
  have q_18 : (f_4 36 3).toInt = 8 := (congrArg Int32.toInt (show f_4 36 3 = 8 from (Eq.trans ev_10.symm c_17))).trans (by decide)
  refine sg_calli (va_runV (As := [.int 7, .int 0, .int 2, .int 4]) (rest := [.int r_7]) ⟨hx, hb, hml, hown, hts⟩ (kX3_does_7_0_4_f8_f7 l D ca za h hh f_4 L Q hI 2 (Eq.trans ev_10.symm c_17) ((hk_f_4 36 4 (by decide)).trans hf_36_4) (by decide) (by have k0 : (7 : Int32).toInt = 7 := ti_7; have k1 : (0 : Int32).toInt = 0 := ti_0; have k2 : (2 : Int32).toInt = 2 := ti_2; have k3 : (4 : Int32).toInt = 4 := ti_4; omega) H.size) (sl_c3_does_3_0_0_74_3 hts ⟨Nat.le_of_ble_eq_true rfl, Nat.le_of_ble_eq_true rfl⟩) (sl_vX_36 hA hK hP hS hZ) rfl rfl hl.1 rfl (lv_room (Nat.le_of_ble_eq_true rfl)) dX3_runs_236 ⟨Nat.le_refl _, Nat.le_refl _⟩) hA hS (fun r_23 f_20 L_21 Q_22 H locs hq hP hS => ?_)
  obtain ⟨⟨hI, hk_f_20, eL9, eQ9⟩, hq, p_24, u_25⟩ := hq
  rw [eL9, eQ9] at hP; clear eL9 eQ9
  have hF : sgK WkX3_runs_50_1_4_f7_f7 f f_20 := sgK.tr hF hk_f_20 (by decide +kernel)
  obtain ⟨v_26, ev_26⟩ : ∃ z : Int32, z = f_20 36 3 := ⟨_, rfl⟩
  have q_27 : 0 ≤ v_26.toInt ∧ v_26.toInt ≤ 19 := by rw [ev_26]; exact hI 36 3
  have q_28 : (f_20 36 3).toInt = v_26.toInt := (congrArg Int32.toInt (show f_20 36 3 = v_26 from ev_26.symm))
  have k_30 : (7 : Int32).toInt = 7 := by decide
  have k_31 : (0 : Int32).toInt = 0 := by decide
  have k_32 : (2 : Int32).toInt = 2 := by decide
  have k_33 : (4 : Int32).toInt = 4 := by decide
  refine lv_isub hx hb dX3_runs_239 ?_
  refine lv_topi (fun v_34 ev_34 => ?_)
  exact hret _ _ _ _ (v_34) f_20 L Q dX3_runs_240 hP hS ⟨⟨hI, hF, rfl, rfl⟩, trivial, ⟨by omega, by omega⟩, (Eq.trans (Eq.symm (hs.trans ((spl2_e u_9 (spl_e ev_10 (spl2_e u_25 (spl_e ev_26 (spl_e ev_34 rfl)))))))) hsp)⟩

abbrev WkX3_does_7_2_3_f6_f7 : List (Nat × Nat × Option Nat) := [(36, 36, some 3), (38, 38, some 6), (38, 38, some 7), (38, 38, some 8), (38, 38, some 9)]
set_option maxHeartbeats 4000000 in
set_option maxRecDepth 100000 in
theorem kX3_does_7_2_3_f6_f7 (l : Launch) (D : va_G) (ca : Nat → ClassId) (za h : Nat → Nat) (hh : sgH 52 h) (f : sg_F) (L : sg_L) (Q : sg_Q) (hI : sgI loX hiX f) (x2 : Int32) (hf_36_3 : f 36 3 = 6) (hf_36_4 : f 36 4 = 7) (b2 : 2 ≤ x2.toInt ∧ x2.toInt ≤ 2) (p0 : 6 ≤ (f 36 3).toInt ∧ (f 36 3).toInt ≤ 6) (sz : Nat) : Met l yX3_does gwX3_does { frames := 5, cells := 0, slots := 0, locals := 124 } (sgP D vwCl (tyX ca) 52 h (eX ca h) zcX za f L Q sz [.ref (h 36), .int 7, .int 2, .int x2, .int 3]) (sgQi D vwCl 52 h (eX ca h) sz (fun r f1 L1 Q1 => ((sgI loX hiX f1 ∧ sgK WkX3_does_7_2_3_f6_f7 f f1 ∧ L1 = L ∧ Q1 = Q) ∧ True ∧ (10 ≤ (f1 36 3).toInt ∧ (f1 36 3).toInt ≤ 10) ∧ (r, f1) = sX3_does_7_2_3_f6_f7 x2 f L))) 0 0 (sgA 52 h sz) := by
  refine sg_ofWi (cc := cX3_does) (maxL := 7) RX3 (by decide) rfl rfl (Nat.le_of_ble_eq_true rfl) ?_
  intro p e s m below meth cd Qz ls hx hb hml hown hts hK hZ hP hS hl hret
  have hA := sgY.self (n := 52) (h := h) (sz := s.heap.size)
  have hl : lv_has ls 7 [(0, .ref (h 36)), (1, .int 7), (2, .int 2), (3, .int x2), (4, .int 3)] := hl
  obtain ⟨H, hH⟩ : ∃ z : Heap, z = s.heap := ⟨_, rfl⟩
  obtain ⟨locs, hlo⟩ : ∃ z : List Loc, z = [] := ⟨_, rfl⟩
  have hP : va_P D vwCl (sgw 52 h (eX ca h) f L Q) H := by rw [hH]; exact hP
  have hS : va_S (sgA 52 h s.heap.size) s.heap H locs := by rw [hH, hlo]; exact hS
  suffices hgo : W p l e ({ frames := 5, cells := 0, slots := 0, locals := 124 }) s m ([.ref (h 36), .int 7, .int 2, .int x2, .int 3] : List Value).toArray below meth cd H locs 0 0 Qz (F0 m 0 ls []) by rw [hH, hlo] at hgo; exact hgo
  clear hH hlo
  obtain ⟨sp, hsp⟩ : ∃ z : Int32 × sg_F, z = sX3_does_7_2_3_f6_f7 x2 f L := ⟨_, rfl⟩
  have hs : sp = sX3_does_7_2_3_f6_f7 x2 f L := hsp
  have o_1 : (f 36 3).toInt = 6 := (congrArg Int32.toInt (show f 36 3 = 6 from hf_36_3)).trans (by decide)
  have hF : sgK WkX3_does_7_2_3_f6_f7 f f := sgK.rf
  have blk_53 : ∀ (fp_53 : sg_F) (H : Heap) (locs : List Loc) (ls : Array Slot), sp = sX3_does_7_2_3_f6_f7_b53 x2 fp_53 L → 6 ≤ (fp_53 36 3).toInt ∧ (fp_53 36 3).toInt ≤ 6 → 7 ≤ (fp_53 36 4).toInt ∧ (fp_53 36 4).toInt ≤ 7 → sgI loX hiX fp_53 → sgK WkX3_does_7_2_3_f6_f7 f fp_53 → va_P D vwCl (sgw 52 h (eX ca h) fp_53 L Q) H → va_S (sgA 52 h s.heap.size) s.heap H locs → lv_has ls 7 [(0, .ref (h 36)), (3, .int x2), (4, .int 3), (5, .int 4), (6, .int 50)] → W p l e ({ frames := 5, cells := 0, slots := 0, locals := 124 }) s m ([.ref (h 36), .int 7, .int 2, .int x2, .int 3] : List Value).toArray below meth cd H locs 0 0 Qz (F0 m 53 ls []) := by
    intro fp_53 H locs ls hs hy0_53 hy1_53 hI hF hP hS hl
    obtain ⟨v_2, ev_2⟩ : ∃ z : Int32, z = fp_53 36 3 := ⟨_, rfl⟩
    have q_3 : 0 ≤ v_2.toInt ∧ v_2.toInt ≤ 19 := by rw [ev_2]; exact hI 36 3
    have q_4 : (fp_53 36 3).toInt = v_2.toInt := by rw [ev_2]
    obtain ⟨v_5, ev_5⟩ : ∃ z : Int32, z = fp_53 36 4 := ⟨_, rfl⟩
    have q_6 : 0 ≤ v_5.toInt ∧ v_5.toInt ≤ 7 := by rw [ev_5]; exact hI 36 4
    have q_7 : (fp_53 36 4).toInt = v_5.toInt := by rw [ev_5]
    have m_8 : fp_53 36 4 = 7 := (hF 36 4 (by decide)).trans hf_36_4
    refine lv_aload_n hx hb dX3_does_53 rfl (lv_at hl 0 rfl) ?_
    refine lv_dup hx hb dX3_does_54 rfl ?_
    refine sl_gX_36_3_3 (v := v_2) hx hb hts hown hK hP (show fp_53 36 3 = v_2 from ev_2.symm) dX3_does_55 ?_
    refine lv_iconst (v := 1) hx hb dX3_does_58 ic_1 ?_
    refine lv_iadd hx hb dX3_does_59 ?_
    refine lv_topi (fun v_9 ev_9 => ?_)
    have q_10 : v_9.toInt = v_2.toInt + 1 := by rw [ev_9]; first | exact cm_add ti_1 (by omega) (by omega) | (have k1 : (1 : Int32).toInt = 1 := ti_1; exact (bn_addI (by omega) (by omega)).trans (by omega))
    refine sl_pX_36_3_3 (x := v_9) hx hb hts hown hh hA hK hP hS dX3_does_60 (fun f_11 H locs ef_11 hP hS => ?_)
    have hI : sgI loX hiX f_11 := by rw [ef_11]; exact sgI.put hI 36 3 (show 0 ≤ (v_9 : Int32).toInt ∧ (v_9 : Int32).toInt ≤ 19 from ⟨by omega, by omega⟩)
    have hF : sgK WkX3_does_7_2_3_f6_f7 f f_11 := sgK.put hF ef_11 (by rfl)
    refine lv_aload_n hx hb dX3_does_63 rfl (lv_at hl 0 rfl) ?_
    refine lv_iload hx hb dX3_does_64 (lv_at hl 4 rfl) ?_
    refine sg_gets hx hb hZ 2 rfl hS hown (hts _ (List.mem_cons_of_mem _ mw_174)) (fun _ h9 => h9) dX3_does_66 ?_
    refine lv_iload hx hb dX3_does_69 (lv_at hl 3 rfl) ?_
    refine sg_sald hx hb hZ 2 rfl hS (y := 4) (N := 8) (vp_in_iff.mpr (by decide)) dX3_does_71 ?_
    refine W.eq (g2 := F0 m 72 ls [.int 1, .int 50, .ref (h 36)]) (by rfl) ?_
    refine lv_iload_n hx hb dX3_does_72 rfl (lv_at hl 1 rfl) ?_
    refine lv_iload hx hb dX3_does_73 (lv_at hl 2 rfl) ?_
    refine lv_iconst (v := 1) hx hb dX3_does_75 ic_1 ?_
    refine lv_iadd hx hb dX3_does_76 ?_
    refine W.eq (g2 := F0 m 77 ls [.int 4, .int x2, .int 1, .int 50, .ref (h 36)]) (by rw [show (3 + 1 : Int32) = 4 from by decide]) ?_
    have c_12 : v_9 = 7 := Int32.toInt_inj.mp (by have k9 : (7 : Int32).toInt = 7 := ti_7; omega)
    have q_13 : (f_11 36 3).toInt = 7 := (congrArg Int32.toInt (show f_11 36 3 = 7 from (Eq.trans (by rw [ef_11, sg_up_s, sgu_s]) c_12))).trans (by decide)
    refine sg_calli (va_runV (As := [.int 50, .int 1, .int x2, .int 4]) (rest := []) ⟨hx, hb, hml, hown, hts⟩ (kX3_runs_50_1_4_f7_f7 l D ca za h hh f_11 L Q hI x2 (Eq.trans (by rw [ef_11, sg_up_s, sgu_s]) c_12) (by rw [ef_11, sg_up_s, sgu_n (by decide)]; exact m_8) b2 (by have k0 : (50 : Int32).toInt = 50 := ti_50; have k1 : (1 : Int32).toInt = 1 := ti_1; have k3 : (4 : Int32).toInt = 4 := ti_4; omega) H.size) (sl_c3_runs_4_0_0_100_3 hts ⟨Nat.le_of_ble_eq_true rfl, Nat.le_of_ble_eq_true rfl⟩) (sl_vX_36 hA hK hP hS hZ) rfl rfl hl.1 rfl (lv_room (Nat.le_of_ble_eq_true rfl)) dX3_does_77 ⟨Nat.le_refl _, Nat.le_refl _⟩) hA hS (fun r_18 f_15 L_16 Q_17 H locs hq hP hS => ?_)
    obtain ⟨⟨hI, hk_f_15, eL9, eQ9⟩, hq, p_19, u_20⟩ := hq
    rw [eL9, eQ9] at hP; clear eL9 eQ9
    have hF : sgK WkX3_does_7_2_3_f6_f7 f f_15 := sgK.tr hF hk_f_15 (by decide +kernel)
    obtain ⟨v_21, ev_21⟩ : ∃ z : Int32, z = f_15 36 3 := ⟨_, rfl⟩
    have q_22 : 0 ≤ v_21.toInt ∧ v_21.toInt ≤ 19 := by rw [ev_21]; exact hI 36 3
    have q_23 : (f_15 36 3).toInt = v_21.toInt := (congrArg Int32.toInt (show f_15 36 3 = v_21 from ev_21.symm))
    have k_25 : (50 : Int32).toInt = 50 := by decide
    have k_26 : (1 : Int32).toInt = 1 := by decide
    have k_27 : (4 : Int32).toInt = 4 := by decide
    exact hret _ _ _ _ (r_18) f_15 L Q dX3_does_80 hP hS ⟨⟨hI, hF, rfl, rfl⟩, trivial, ⟨by omega, by omega⟩, (Eq.trans (Eq.symm (hs.trans ((spl_e ev_2 (spl_e ev_5 (spl_e ev_9 (spl_e ef_11 (spl2_e u_20 (spl_e ev_21 rfl))))))))) hsp)⟩
  refine lv_iload_n hx hb dX3_does_0 rfl (lv_at hl 1 rfl) ?_
  refine lv_iload_n hx hb dX3_does_1 rfl (lv_at hl 2 rfl) ?_
  refine sg_calli (va_runS (As := [.int 7, .int 2]) (rest := []) ⟨hx, hb, hml, hown, hts⟩ (kX3_ownerOf_7_2 l D ca za h hh f L Q hI H.size) (va_cwS 2 hts (gw_S (fun _ h => List.mem_cons_of_mem _ h) mw_189 mw_190 mw_47 mw_188) rfl rfl rfl hd_yX3_ownerOf.2 ⟨Nat.le_of_ble_eq_true rfl, Nat.le_of_ble_eq_true rfl⟩) (sg_preS hA hK hP hS hZ) rfl rfl hl.1 rfl (lv_room (Nat.le_of_ble_eq_true rfl)) dX3_does_2 ⟨Nat.le_refl _, Nat.le_refl _⟩) hA hS (fun r_33 f_30 L_31 Q_32 H locs hq hP hS => ?_)
  obtain ⟨⟨ef9, eL9, eQ9⟩, hq, u_34⟩ := hq
  rw [ef9, eL9, eQ9] at hP; clear ef9 eL9 eQ9
  obtain rfl : r_33 = 4 := Int32.toInt_inj.mp (by have k9 : (4 : Int32).toInt = 4 := ti_4; omega)
  refine lv_istore (lv' := [(5, .int 4), (0, .ref (h 36)), (1, .int 7), (2, .int 2), (3, .int x2), (4, .int 3)]) hx hb dX3_does_5 hl (by decide) rfl (fun ls hl => ?_)
  refine lv_iload hx hb dX3_does_7 (lv_at hl 0 rfl) ?_
  refine lv_if_lt (tgt := 19) hx hb dX3_does_9 (by decide) (fun c => absurd c (by decide)) (fun c => ?_)
  refine lv_iload hx hb dX3_does_12 (lv_at hl 5 rfl) ?_
  refine lv_bipush (v := 40) hx hb dX3_does_14 bp_40 ?_
  refine lv_icmp_le (tgt := 21) hx hb dX3_does_16 (by decide) (fun c => ?_) (fun c => absurd c (by decide))
  refine sg_gets hx hb hZ 3 rfl hS hown (hts _ (List.mem_cons_of_mem _ mw_173)) (fun _ h9 => h9) dX3_does_21 ?_
  refine lv_iload hx hb dX3_does_24 (lv_at hl 0 rfl) ?_
  refine lv_iconst (v := 4) hx hb dX3_does_26 ic_4 ?_
  refine lv_imul hx hb dX3_does_27 ?_
  refine W.eq (g2 := F0 m 28 ls [.int 16, .ref (za 3)]) (by rw [show (4 * 4 : Int32) = 16 from by decide]) ?_
  refine lv_iload_n hx hb dX3_does_28 rfl (lv_at hl 3 rfl) ?_
  refine lv_iadd hx hb dX3_does_29 ?_
  refine W.eq (g2 := F0 m 30 ls [.int 18, .ref (za 3)]) (by rw [show (16 + 2 : Int32) = 18 from by decide]) ?_
  refine sg_sald hx hb hZ 3 rfl hS (y := 18) (N := 32) (vp_in_iff.mpr (by decide)) dX3_does_30 ?_
  refine W.eq (g2 := F0 m 31 ls [.int 50]) (by rfl) ?_
  refine lv_istore (lv' := [(6, .int 50), (5, .int 4), (0, .ref (h 36)), (1, .int 7), (2, .int 2), (3, .int x2), (4, .int 3)]) hx hb dX3_does_31 hl (by decide) rfl (fun ls hl => ?_)
  refine lv_aload_n hx hb dX3_does_33 rfl (lv_at hl 2 rfl) ?_
  refine sl_gX_36_3_3 (v := 6) hx hb hts hown hK hP (show f 36 3 = 6 from hf_36_3) dX3_does_34 ?_
  refine lv_bipush (v := 24) hx hb dX3_does_37 bp_24 ?_
  refine lv_icmp_ge (tgt := 53) hx hb dX3_does_39 (by decide) (fun c => absurd c (by decide)) (fun c => ?_)
  refine lv_aload_n hx hb dX3_does_42 rfl (lv_at hl 2 rfl) ?_
  refine sl_gX_36_1_3 hx hb hts hown hK hP dX3_does_43 ?_
  refine lv_aload_n hx hb dX3_does_46 rfl (lv_at hl 2 rfl) ?_
  refine sl_gX_36_3_3 (v := 6) hx hb hts hown hK hP (show f 36 3 = 6 from hf_36_3) dX3_does_47 ?_
  refine lv_iload hx hb dX3_does_50 (lv_at hl 0 rfl) ?_
  refine sg_iast hx hb hh hA hK hP hS 38 (by decide) 0 (fun _ => rfl) rfl (i := 6) (x := 50) (vp_in_iff.mpr (by decide)) dX3_does_52 (fun f_35 H locs ef_35 hP hS => ?_)
  have ef_35 : f_35 = sg_up f 38 (sgu (f 38) 6 50) := ef_35
  have hI : sgI loX hiX f_35 := by rw [ef_35]; exact sgI.put hI 38 6 (show 0 ≤ (50 : Int32).toInt ∧ (50 : Int32).toInt ≤ 81 from by decide)
  have hF : sgK WkX3_does_7_2_3_f6_f7 f f_35 := sgK.put hF ef_35 (by rfl)
  exact blk_53 f_35 _ _ _ (hs.trans ((spl_e u_34 (spl_e ef_35 rfl)))) (by have zz36_3 : (f_35 36 3).toInt = 6 := (congrArg Int32.toInt (show f_35 36 3 = 6 from (by rw [ef_35, sg_up_n (by decide)]; exact hf_36_3))).trans (by decide); exact ⟨by omega, by omega⟩) (by have zz36_4 : (f_35 36 4).toInt = 7 := (congrArg Int32.toInt (show f_35 36 4 = 7 from (by rw [ef_35, sg_up_n (by decide)]; exact hf_36_4))).trans (by decide); exact ⟨by omega, by omega⟩) hI hF hP hS (lv_sub hl [2, 5, 6, 1, 0] rfl)

abbrev WkX3_runs_80_4_3_f3_f7 : List (Nat × Nat × Option Nat) := [(36, 36, some 3), (38, 38, some 3), (38, 38, some 4), (38, 38, some 5), (38, 38, some 6), (38, 38, some 7), (38, 38, some 8), (38, 38, some 9)]
set_option maxHeartbeats 4000000 in
set_option maxRecDepth 100000 in
theorem kX3_runs_80_4_3_f3_f7 (l : Launch) (D : va_G) (ca : Nat → ClassId) (za h : Nat → Nat) (hh : sgH 52 h) (f : sg_F) (L : sg_L) (Q : sg_Q) (hI : sgI loX hiX f) (x2 : Int32) (hf_36_3 : f 36 3 = 3) (hf_36_4 : f 36 4 = 7) (p0 : 3 ≤ (f 36 3).toInt ∧ (f 36 3).toInt ≤ 3) (sz : Nat) : Met l yX3_runs gwX3_runs { frames := 6, cells := 0, slots := 0, locals := 150 } (sgP D vwCl (tyX ca) 52 h (eX ca h) zcX za f L Q sz [.ref (h 36), .int 80, .int 4, .int x2, .int 3]) (sgQi D vwCl 52 h (eX ca h) sz (fun r f1 L1 Q1 => ((sgI loX hiX f1 ∧ sgK WkX3_runs_80_4_3_f3_f7 f f1 ∧ L1 = L ∧ Q1 = Q) ∧ True ∧ (10 ≤ (f1 36 3).toInt ∧ (f1 36 3).toInt ≤ 10) ∧ (r, f1) = sX3_runs_80_4_3_f3_f7 x2 f L))) 0 0 (sgA 52 h sz) := by
  refine sg_ofWi (cc := cX3_runs) (maxL := 5) RX3 (by decide) rfl rfl (Nat.le_of_ble_eq_true rfl) ?_
  intro p e s m below meth cd Qz ls hx hb hml hown hts hK hZ hP hS hl hret
  have hA := sgY.self (n := 52) (h := h) (sz := s.heap.size)
  have hl : lv_has ls 5 [(0, .ref (h 36)), (1, .int 80), (2, .int 4), (3, .int x2), (4, .int 3)] := hl
  obtain ⟨H, hH⟩ : ∃ z : Heap, z = s.heap := ⟨_, rfl⟩
  obtain ⟨locs, hlo⟩ : ∃ z : List Loc, z = [] := ⟨_, rfl⟩
  have hP : va_P D vwCl (sgw 52 h (eX ca h) f L Q) H := by rw [hH]; exact hP
  have hS : va_S (sgA 52 h s.heap.size) s.heap H locs := by rw [hH, hlo]; exact hS
  suffices hgo : W p l e ({ frames := 6, cells := 0, slots := 0, locals := 150 }) s m ([.ref (h 36), .int 80, .int 4, .int x2, .int 3] : List Value).toArray below meth cd H locs 0 0 Qz (F0 m 0 ls []) by rw [hH, hlo] at hgo; exact hgo
  clear hH hlo
  obtain ⟨sp, hsp⟩ : ∃ z : Int32 × sg_F, z = sX3_runs_80_4_3_f3_f7 x2 f L := ⟨_, rfl⟩
  have hs : sp = sX3_runs_80_4_3_f3_f7 x2 f L := hsp
  have o_1 : (f 36 3).toInt = 3 := (congrArg Int32.toInt (show f 36 3 = 3 from hf_36_3)).trans (by decide)
  have hF : sgK WkX3_runs_80_4_3_f3_f7 f f := sgK.rf
  refine lv_iload_n hx hb dX3_runs_0 rfl (lv_at hl 1 rfl) ?_
  refine lv_lookup (x := 80) (off := 264) (tgt := 265) hx hb dX3_runs_1 (by decide) (by decide) (by decide) ?_
  refine lv_aload_n hx hb dX3_runs_265 rfl (lv_at hl 0 rfl) ?_
  refine lv_iload_n hx hb dX3_runs_266 rfl (lv_at hl 2 rfl) ?_
  refine lv_iconst (v := 1) hx hb dX3_runs_267 ic_1 ?_
  refine lv_iload_n hx hb dX3_runs_268 rfl (lv_at hl 3 rfl) ?_
  refine lv_iload hx hb dX3_runs_269 (lv_at hl 4 rfl) ?_
  have q_2 : (f 36 3).toInt = 3 := (congrArg Int32.toInt (show f 36 3 = 3 from hf_36_3)).trans (by decide)
  refine sg_calli (va_runV (As := [.int 4, .int 1, .int x2, .int 3]) (rest := []) ⟨hx, hb, hml, hown, hts⟩ (kX3_does_4_1_3_f3_f7 l D ca za h hh f L Q hI x2 hf_36_3 hf_36_4 (by have k0 : (4 : Int32).toInt = 4 := ti_4; have k1 : (1 : Int32).toInt = 1 := ti_1; have k3 : (3 : Int32).toInt = 3 := ti_3; omega) H.size) (sl_c3_does_5_0_0_124_3 hts ⟨Nat.le_of_ble_eq_true rfl, Nat.le_of_ble_eq_true rfl⟩) (sl_vX_36 hA hK hP hS hZ) rfl rfl hl.1 rfl (lv_room (Nat.le_of_ble_eq_true rfl)) dX3_runs_271 ⟨Nat.le_refl _, Nat.le_refl _⟩) hA hS (fun r_7 f_4 L_5 Q_6 H locs hq hP hS => ?_)
  obtain ⟨⟨hI, hk_f_4, eL9, eQ9⟩, hq, p_8, u_9⟩ := hq
  rw [eL9, eQ9] at hP; clear eL9 eQ9
  have hF : sgK WkX3_runs_80_4_3_f3_f7 f f_4 := sgK.tr hF hk_f_4 (by decide +kernel)
  obtain ⟨v_10, ev_10⟩ : ∃ z : Int32, z = f_4 36 3 := ⟨_, rfl⟩
  have q_11 : 0 ≤ v_10.toInt ∧ v_10.toInt ≤ 19 := by rw [ev_10]; exact hI 36 3
  have q_12 : (f_4 36 3).toInt = v_10.toInt := (congrArg Int32.toInt (show f_4 36 3 = v_10 from ev_10.symm))
  have k_14 : (4 : Int32).toInt = 4 := by decide
  have k_15 : (1 : Int32).toInt = 1 := by decide
  have k_16 : (3 : Int32).toInt = 3 := by decide
  refine lv_aload_n hx hb dX3_runs_274 rfl (lv_at hl 0 rfl) ?_
  refine lv_aload_n hx hb dX3_runs_275 rfl (lv_at hl 0 rfl) ?_
  refine sl_gX_36_4_3 (v := 7) hx hb hts hown hK hP (show f_4 36 4 = 7 from ((hk_f_4 36 4 (by decide)).trans hf_36_4)) dX3_runs_276 ?_
  refine lv_iconst (v := 2) hx hb dX3_runs_279 ic_2 ?_
  refine lv_iconst (v := 2) hx hb dX3_runs_280 ic_2 ?_
  refine lv_iload hx hb dX3_runs_281 (lv_at hl 4 rfl) ?_
  have c_17 : v_10 = 6 := Int32.toInt_inj.mp (by have k9 : (6 : Int32).toInt = 6 := ti_6; omega)
  have q_18 : (f_4 36 3).toInt = 6 := (congrArg Int32.toInt (show f_4 36 3 = 6 from (Eq.trans ev_10.symm c_17))).trans (by decide)
  refine sg_calli (va_runV (As := [.int 7, .int 2, .int 2, .int 3]) (rest := [.int r_7]) ⟨hx, hb, hml, hown, hts⟩ (kX3_does_7_2_3_f6_f7 l D ca za h hh f_4 L Q hI 2 (Eq.trans ev_10.symm c_17) ((hk_f_4 36 4 (by decide)).trans hf_36_4) (by decide) (by have k0 : (7 : Int32).toInt = 7 := ti_7; have k1 : (2 : Int32).toInt = 2 := ti_2; have k2 : (2 : Int32).toInt = 2 := ti_2; have k3 : (3 : Int32).toInt = 3 := ti_3; omega) H.size) (sl_c3_does_5_0_0_124_3 hts ⟨Nat.le_of_ble_eq_true rfl, Nat.le_of_ble_eq_true rfl⟩) (sl_vX_36 hA hK hP hS hZ) rfl rfl hl.1 rfl (lv_room (Nat.le_of_ble_eq_true rfl)) dX3_runs_283 ⟨Nat.le_refl _, Nat.le_refl _⟩) hA hS (fun r_23 f_20 L_21 Q_22 H locs hq hP hS => ?_)
  obtain ⟨⟨hI, hk_f_20, eL9, eQ9⟩, hq, p_24, u_25⟩ := hq
  rw [eL9, eQ9] at hP; clear eL9 eQ9
  have hF : sgK WkX3_runs_80_4_3_f3_f7 f f_20 := sgK.tr hF hk_f_20 (by decide +kernel)
  obtain ⟨v_26, ev_26⟩ : ∃ z : Int32, z = f_20 36 3 := ⟨_, rfl⟩
  have q_27 : 0 ≤ v_26.toInt ∧ v_26.toInt ≤ 19 := by rw [ev_26]; exact hI 36 3
  have q_28 : (f_20 36 3).toInt = v_26.toInt := (congrArg Int32.toInt (show f_20 36 3 = v_26 from ev_26.symm))
  have k_30 : (7 : Int32).toInt = 7 := by decide
  have k_31 : (2 : Int32).toInt = 2 := by decide
  have k_32 : (2 : Int32).toInt = 2 := by decide
  have k_33 : (3 : Int32).toInt = 3 := by decide
  refine lv_iadd hx hb dX3_runs_286 ?_
  refine lv_topi (fun v_34 ev_34 => ?_)
  exact hret _ _ _ _ (v_34) f_20 L Q dX3_runs_287 hP hS ⟨⟨hI, hF, rfl, rfl⟩, trivial, ⟨by omega, by omega⟩, (Eq.trans (Eq.symm (hs.trans ((spl2_e u_9 (spl_e ev_10 (spl2_e u_25 (spl_e ev_26 (spl_e ev_34 rfl)))))))) hsp)⟩

abbrev WkX3_does_7_1_2_f2_f7 : List (Nat × Nat × Option Nat) := [(36, 36, some 3), (38, 38, some 2), (38, 38, some 3), (38, 38, some 4), (38, 38, some 5), (38, 38, some 6), (38, 38, some 7), (38, 38, some 8), (38, 38, some 9)]
set_option maxHeartbeats 4000000 in
set_option maxRecDepth 100000 in
theorem kX3_does_7_1_2_f2_f7 (l : Launch) (D : va_G) (ca : Nat → ClassId) (za h : Nat → Nat) (hh : sgH 52 h) (f : sg_F) (L : sg_L) (Q : sg_Q) (hI : sgI loX hiX f) (x2 : Int32) (hf_36_3 : f 36 3 = 2) (hf_36_4 : f 36 4 = 7) (p0 : 2 ≤ (f 36 3).toInt ∧ (f 36 3).toInt ≤ 2) (sz : Nat) : Met l yX3_does gwX3_does { frames := 7, cells := 0, slots := 0, locals := 174 } (sgP D vwCl (tyX ca) 52 h (eX ca h) zcX za f L Q sz [.ref (h 36), .int 7, .int 1, .int x2, .int 2]) (sgQi D vwCl 52 h (eX ca h) sz (fun r f1 L1 Q1 => ((sgI loX hiX f1 ∧ sgK WkX3_does_7_1_2_f2_f7 f f1 ∧ L1 = L ∧ Q1 = Q) ∧ True ∧ (10 ≤ (f1 36 3).toInt ∧ (f1 36 3).toInt ≤ 10) ∧ (r, f1) = sX3_does_7_1_2_f2_f7 x2 f L))) 0 0 (sgA 52 h sz) := by
  refine sg_ofWi (cc := cX3_does) (maxL := 7) RX3 (by decide) rfl rfl (Nat.le_of_ble_eq_true rfl) ?_
  intro p e s m below meth cd Qz ls hx hb hml hown hts hK hZ hP hS hl hret
  have hA := sgY.self (n := 52) (h := h) (sz := s.heap.size)
  have hl : lv_has ls 7 [(0, .ref (h 36)), (1, .int 7), (2, .int 1), (3, .int x2), (4, .int 2)] := hl
  obtain ⟨H, hH⟩ : ∃ z : Heap, z = s.heap := ⟨_, rfl⟩
  obtain ⟨locs, hlo⟩ : ∃ z : List Loc, z = [] := ⟨_, rfl⟩
  have hP : va_P D vwCl (sgw 52 h (eX ca h) f L Q) H := by rw [hH]; exact hP
  have hS : va_S (sgA 52 h s.heap.size) s.heap H locs := by rw [hH, hlo]; exact hS
  suffices hgo : W p l e ({ frames := 7, cells := 0, slots := 0, locals := 174 }) s m ([.ref (h 36), .int 7, .int 1, .int x2, .int 2] : List Value).toArray below meth cd H locs 0 0 Qz (F0 m 0 ls []) by rw [hH, hlo] at hgo; exact hgo
  clear hH hlo
  obtain ⟨sp, hsp⟩ : ∃ z : Int32 × sg_F, z = sX3_does_7_1_2_f2_f7 x2 f L := ⟨_, rfl⟩
  have hs : sp = sX3_does_7_1_2_f2_f7 x2 f L := hsp
  have o_1 : (f 36 3).toInt = 2 := (congrArg Int32.toInt (show f 36 3 = 2 from hf_36_3)).trans (by decide)
  have hF : sgK WkX3_does_7_1_2_f2_f7 f f := sgK.rf
  have blk_53 : ∀ (fp_53 : sg_F) (H : Heap) (locs : List Loc) (ls : Array Slot), sp = sX3_does_7_1_2_f2_f7_b53 x2 fp_53 L → 2 ≤ (fp_53 36 3).toInt ∧ (fp_53 36 3).toInt ≤ 2 → 7 ≤ (fp_53 36 4).toInt ∧ (fp_53 36 4).toInt ≤ 7 → sgI loX hiX fp_53 → sgK WkX3_does_7_1_2_f2_f7 f fp_53 → va_P D vwCl (sgw 52 h (eX ca h) fp_53 L Q) H → va_S (sgA 52 h s.heap.size) s.heap H locs → lv_has ls 7 [(0, .ref (h 36)), (3, .int x2), (4, .int 2), (5, .int 7), (6, .int 80)] → W p l e ({ frames := 7, cells := 0, slots := 0, locals := 174 }) s m ([.ref (h 36), .int 7, .int 1, .int x2, .int 2] : List Value).toArray below meth cd H locs 0 0 Qz (F0 m 53 ls []) := by
    intro fp_53 H locs ls hs hy0_53 hy1_53 hI hF hP hS hl
    obtain ⟨v_2, ev_2⟩ : ∃ z : Int32, z = fp_53 36 3 := ⟨_, rfl⟩
    have q_3 : 0 ≤ v_2.toInt ∧ v_2.toInt ≤ 19 := by rw [ev_2]; exact hI 36 3
    have q_4 : (fp_53 36 3).toInt = v_2.toInt := by rw [ev_2]
    obtain ⟨v_5, ev_5⟩ : ∃ z : Int32, z = fp_53 36 4 := ⟨_, rfl⟩
    have q_6 : 0 ≤ v_5.toInt ∧ v_5.toInt ≤ 7 := by rw [ev_5]; exact hI 36 4
    have q_7 : (fp_53 36 4).toInt = v_5.toInt := by rw [ev_5]
    have m_8 : fp_53 36 4 = 7 := (hF 36 4 (by decide)).trans hf_36_4
    refine lv_aload_n hx hb dX3_does_53 rfl (lv_at hl 0 rfl) ?_
    refine lv_dup hx hb dX3_does_54 rfl ?_
    refine sl_gX_36_3_3 (v := v_2) hx hb hts hown hK hP (show fp_53 36 3 = v_2 from ev_2.symm) dX3_does_55 ?_
    refine lv_iconst (v := 1) hx hb dX3_does_58 ic_1 ?_
    refine lv_iadd hx hb dX3_does_59 ?_
    refine lv_topi (fun v_9 ev_9 => ?_)
    have q_10 : v_9.toInt = v_2.toInt + 1 := by rw [ev_9]; first | exact cm_add ti_1 (by omega) (by omega) | (have k1 : (1 : Int32).toInt = 1 := ti_1; exact (bn_addI (by omega) (by omega)).trans (by omega))
    refine sl_pX_36_3_3 (x := v_9) hx hb hts hown hh hA hK hP hS dX3_does_60 (fun f_11 H locs ef_11 hP hS => ?_)
    have hI : sgI loX hiX f_11 := by rw [ef_11]; exact sgI.put hI 36 3 (show 0 ≤ (v_9 : Int32).toInt ∧ (v_9 : Int32).toInt ≤ 19 from ⟨by omega, by omega⟩)
    have hF : sgK WkX3_does_7_1_2_f2_f7 f f_11 := sgK.put hF ef_11 (by rfl)
    refine lv_aload_n hx hb dX3_does_63 rfl (lv_at hl 0 rfl) ?_
    refine lv_iload hx hb dX3_does_64 (lv_at hl 4 rfl) ?_
    refine sg_gets hx hb hZ 2 rfl hS hown (hts _ (List.mem_cons_of_mem _ mw_174)) (fun _ h9 => h9) dX3_does_66 ?_
    refine lv_iload hx hb dX3_does_69 (lv_at hl 3 rfl) ?_
    refine sg_sald hx hb hZ 2 rfl hS (y := 7) (N := 8) (vp_in_iff.mpr (by decide)) dX3_does_71 ?_
    refine W.eq (g2 := F0 m 72 ls [.int 4, .int 80, .ref (h 36)]) (by rfl) ?_
    refine lv_iload_n hx hb dX3_does_72 rfl (lv_at hl 1 rfl) ?_
    refine lv_iload hx hb dX3_does_73 (lv_at hl 2 rfl) ?_
    refine lv_iconst (v := 1) hx hb dX3_does_75 ic_1 ?_
    refine lv_iadd hx hb dX3_does_76 ?_
    refine W.eq (g2 := F0 m 77 ls [.int 3, .int x2, .int 4, .int 80, .ref (h 36)]) (by rw [show (2 + 1 : Int32) = 3 from by decide]) ?_
    have c_12 : v_9 = 3 := Int32.toInt_inj.mp (by have k9 : (3 : Int32).toInt = 3 := ti_3; omega)
    have q_13 : (f_11 36 3).toInt = 3 := (congrArg Int32.toInt (show f_11 36 3 = 3 from (Eq.trans (by rw [ef_11, sg_up_s, sgu_s]) c_12))).trans (by decide)
    refine sg_calli (va_runV (As := [.int 80, .int 4, .int x2, .int 3]) (rest := []) ⟨hx, hb, hml, hown, hts⟩ (kX3_runs_80_4_3_f3_f7 l D ca za h hh f_11 L Q hI x2 (Eq.trans (by rw [ef_11, sg_up_s, sgu_s]) c_12) (by rw [ef_11, sg_up_s, sgu_n (by decide)]; exact m_8) (by have k0 : (80 : Int32).toInt = 80 := ti_80; have k1 : (4 : Int32).toInt = 4 := ti_4; have k3 : (3 : Int32).toInt = 3 := ti_3; omega) H.size) (sl_c3_runs_6_0_0_150_3 hts ⟨Nat.le_of_ble_eq_true rfl, Nat.le_of_ble_eq_true rfl⟩) (sl_vX_36 hA hK hP hS hZ) rfl rfl hl.1 rfl (lv_room (Nat.le_of_ble_eq_true rfl)) dX3_does_77 ⟨Nat.le_refl _, Nat.le_refl _⟩) hA hS (fun r_18 f_15 L_16 Q_17 H locs hq hP hS => ?_)
    obtain ⟨⟨hI, hk_f_15, eL9, eQ9⟩, hq, p_19, u_20⟩ := hq
    rw [eL9, eQ9] at hP; clear eL9 eQ9
    have hF : sgK WkX3_does_7_1_2_f2_f7 f f_15 := sgK.tr hF hk_f_15 (by decide +kernel)
    obtain ⟨v_21, ev_21⟩ : ∃ z : Int32, z = f_15 36 3 := ⟨_, rfl⟩
    have q_22 : 0 ≤ v_21.toInt ∧ v_21.toInt ≤ 19 := by rw [ev_21]; exact hI 36 3
    have q_23 : (f_15 36 3).toInt = v_21.toInt := (congrArg Int32.toInt (show f_15 36 3 = v_21 from ev_21.symm))
    have k_25 : (80 : Int32).toInt = 80 := by decide
    have k_26 : (4 : Int32).toInt = 4 := by decide
    have k_27 : (3 : Int32).toInt = 3 := by decide
    exact hret _ _ _ _ (r_18) f_15 L Q dX3_does_80 hP hS ⟨⟨hI, hF, rfl, rfl⟩, trivial, ⟨by omega, by omega⟩, (Eq.trans (Eq.symm (hs.trans ((spl_e ev_2 (spl_e ev_5 (spl_e ev_9 (spl_e ef_11 (spl2_e u_20 (spl_e ev_21 rfl))))))))) hsp)⟩
  refine lv_iload_n hx hb dX3_does_0 rfl (lv_at hl 1 rfl) ?_
  refine lv_iload_n hx hb dX3_does_1 rfl (lv_at hl 2 rfl) ?_
  refine sg_calli (va_runS (As := [.int 7, .int 1]) (rest := []) ⟨hx, hb, hml, hown, hts⟩ (kX3_ownerOf_7_1 l D ca za h hh f L Q hI H.size) (va_cwS 2 hts (gw_S (fun _ h => List.mem_cons_of_mem _ h) mw_189 mw_190 mw_47 mw_188) rfl rfl rfl hd_yX3_ownerOf.2 ⟨Nat.le_of_ble_eq_true rfl, Nat.le_of_ble_eq_true rfl⟩) (sg_preS hA hK hP hS hZ) rfl rfl hl.1 rfl (lv_room (Nat.le_of_ble_eq_true rfl)) dX3_does_2 ⟨Nat.le_refl _, Nat.le_refl _⟩) hA hS (fun r_33 f_30 L_31 Q_32 H locs hq hP hS => ?_)
  obtain ⟨⟨ef9, eL9, eQ9⟩, hq, u_34⟩ := hq
  rw [ef9, eL9, eQ9] at hP; clear ef9 eL9 eQ9
  obtain rfl : r_33 = 7 := Int32.toInt_inj.mp (by have k9 : (7 : Int32).toInt = 7 := ti_7; omega)
  refine lv_istore (lv' := [(5, .int 7), (0, .ref (h 36)), (1, .int 7), (2, .int 1), (3, .int x2), (4, .int 2)]) hx hb dX3_does_5 hl (by decide) rfl (fun ls hl => ?_)
  refine lv_iload hx hb dX3_does_7 (lv_at hl 0 rfl) ?_
  refine lv_if_lt (tgt := 19) hx hb dX3_does_9 (by decide) (fun c => absurd c (by decide)) (fun c => ?_)
  refine lv_iload hx hb dX3_does_12 (lv_at hl 5 rfl) ?_
  refine lv_bipush (v := 40) hx hb dX3_does_14 bp_40 ?_
  refine lv_icmp_le (tgt := 21) hx hb dX3_does_16 (by decide) (fun c => ?_) (fun c => absurd c (by decide))
  refine sg_gets hx hb hZ 3 rfl hS hown (hts _ (List.mem_cons_of_mem _ mw_173)) (fun _ h9 => h9) dX3_does_21 ?_
  refine lv_iload hx hb dX3_does_24 (lv_at hl 0 rfl) ?_
  refine lv_iconst (v := 4) hx hb dX3_does_26 ic_4 ?_
  refine lv_imul hx hb dX3_does_27 ?_
  refine W.eq (g2 := F0 m 28 ls [.int 28, .ref (za 3)]) (by rw [show (7 * 4 : Int32) = 28 from by decide]) ?_
  refine lv_iload_n hx hb dX3_does_28 rfl (lv_at hl 3 rfl) ?_
  refine lv_iadd hx hb dX3_does_29 ?_
  refine W.eq (g2 := F0 m 30 ls [.int 29, .ref (za 3)]) (by rw [show (28 + 1 : Int32) = 29 from by decide]) ?_
  refine sg_sald hx hb hZ 3 rfl hS (y := 29) (N := 32) (vp_in_iff.mpr (by decide)) dX3_does_30 ?_
  refine W.eq (g2 := F0 m 31 ls [.int 80]) (by rfl) ?_
  refine lv_istore (lv' := [(6, .int 80), (5, .int 7), (0, .ref (h 36)), (1, .int 7), (2, .int 1), (3, .int x2), (4, .int 2)]) hx hb dX3_does_31 hl (by decide) rfl (fun ls hl => ?_)
  refine lv_aload_n hx hb dX3_does_33 rfl (lv_at hl 2 rfl) ?_
  refine sl_gX_36_3_3 (v := 2) hx hb hts hown hK hP (show f 36 3 = 2 from hf_36_3) dX3_does_34 ?_
  refine lv_bipush (v := 24) hx hb dX3_does_37 bp_24 ?_
  refine lv_icmp_ge (tgt := 53) hx hb dX3_does_39 (by decide) (fun c => absurd c (by decide)) (fun c => ?_)
  refine lv_aload_n hx hb dX3_does_42 rfl (lv_at hl 2 rfl) ?_
  refine sl_gX_36_1_3 hx hb hts hown hK hP dX3_does_43 ?_
  refine lv_aload_n hx hb dX3_does_46 rfl (lv_at hl 2 rfl) ?_
  refine sl_gX_36_3_3 (v := 2) hx hb hts hown hK hP (show f 36 3 = 2 from hf_36_3) dX3_does_47 ?_
  refine lv_iload hx hb dX3_does_50 (lv_at hl 0 rfl) ?_
  refine sg_iast hx hb hh hA hK hP hS 38 (by decide) 0 (fun _ => rfl) rfl (i := 2) (x := 80) (vp_in_iff.mpr (by decide)) dX3_does_52 (fun f_35 H locs ef_35 hP hS => ?_)
  have ef_35 : f_35 = sg_up f 38 (sgu (f 38) 2 80) := ef_35
  have hI : sgI loX hiX f_35 := by rw [ef_35]; exact sgI.put hI 38 2 (show 0 ≤ (80 : Int32).toInt ∧ (80 : Int32).toInt ≤ 81 from by decide)
  have hF : sgK WkX3_does_7_1_2_f2_f7 f f_35 := sgK.put hF ef_35 (by rfl)
  exact blk_53 f_35 _ _ _ (hs.trans ((spl_e u_34 (spl_e ef_35 rfl)))) (by have zz36_3 : (f_35 36 3).toInt = 2 := (congrArg Int32.toInt (show f_35 36 3 = 2 from (by rw [ef_35, sg_up_n (by decide)]; exact hf_36_3))).trans (by decide); exact ⟨by omega, by omega⟩) (by have zz36_4 : (f_35 36 4).toInt = 7 := (congrArg Int32.toInt (show f_35 36 4 = 7 from (by rw [ef_35, sg_up_n (by decide)]; exact hf_36_4))).trans (by decide); exact ⟨by omega, by omega⟩) hI hF hP hS (lv_sub hl [2, 5, 6, 1, 0] rfl)

set_option maxHeartbeats 4000000 in
set_option maxRecDepth 100000 in
theorem kX3_runs_11_m1_4_f12_f7 (l : Launch) (D : va_G) (ca : Nat → ClassId) (za h : Nat → Nat) (hh : sgH 52 h) (f : sg_F) (L : sg_L) (Q : sg_Q) (hI : sgI loX hiX f) (x2 : Int32) (hf_36_3 : f 36 3 = 12) (hf_36_4 : f 36 4 = 7) (b2 : 1 ≤ x2.toInt ∧ x2.toInt ≤ 1) (p0 : 12 ≤ (f 36 3).toInt ∧ (f 36 3).toInt ≤ 12) (sz : Nat) : Met l yX3_runs gwX3_runs { frames := 0, cells := 0, slots := 0, locals := 0 } (sgP D vwCl (tyX ca) 52 h (eX ca h) zcX za f L Q sz [.ref (h 36), .int 11, .int (-1), .int x2, .int 4]) (sgQi D vwCl 52 h (eX ca h) sz (fun r f1 L1 Q1 => ((f1 = f ∧ L1 = L ∧ Q1 = Q) ∧ True ∧ (12 ≤ (f1 36 3).toInt ∧ (f1 36 3).toInt ≤ 12) ∧ (r) = sX3_runs_11_m1_4_f12_f7 x2 f L))) 0 0 (sgA 52 h sz) := by
  refine sg_ofWi (cc := cX3_runs) (maxL := 5) RX3 (by decide) rfl rfl (Nat.le_of_ble_eq_true rfl) ?_
  intro p e s m below meth cd Qz ls hx hb hml hown hts hK hZ hP hS hl hret
  have hA := sgY.self (n := 52) (h := h) (sz := s.heap.size)
  have hl : lv_has ls 5 [(0, .ref (h 36)), (1, .int 11), (2, .int (-1)), (3, .int x2), (4, .int 4)] := hl
  obtain ⟨H, hH⟩ : ∃ z : Heap, z = s.heap := ⟨_, rfl⟩
  obtain ⟨locs, hlo⟩ : ∃ z : List Loc, z = [] := ⟨_, rfl⟩
  have hP : va_P D vwCl (sgw 52 h (eX ca h) f L Q) H := by rw [hH]; exact hP
  have hS : va_S (sgA 52 h s.heap.size) s.heap H locs := by rw [hH, hlo]; exact hS
  suffices hgo : W p l e ({ frames := 0, cells := 0, slots := 0, locals := 0 }) s m ([.ref (h 36), .int 11, .int (-1), .int x2, .int 4] : List Value).toArray below meth cd H locs 0 0 Qz (F0 m 0 ls []) by rw [hH, hlo] at hgo; exact hgo
  clear hH hlo
  obtain ⟨sp, hsp⟩ : ∃ z : Int32, z = sX3_runs_11_m1_4_f12_f7 x2 f L := ⟨_, rfl⟩
  have hs : sp = sX3_runs_11_m1_4_f12_f7 x2 f L := hsp
  have o_1 : (f 36 3).toInt = 12 := (congrArg Int32.toInt (show f 36 3 = 12 from hf_36_3)).trans (by decide)
  refine lv_iload_n hx hb dX3_runs_0 rfl (lv_at hl 1 rfl) ?_
  refine lv_lookup (x := 11) (off := 163) (tgt := 164) hx hb dX3_runs_1 (by decide) (by decide) (by decide) ?_
  refine lv_iload_n hx hb dX3_runs_164 rfl (lv_at hl 3 rfl) ?_
  refine lv_aload_n hx hb dX3_runs_165 rfl (lv_at hl 0 rfl) ?_
  refine sl_gX_36_5_3 (v := (f 36 5)) hx hb hts hown hK hP rfl dX3_runs_166 ?_
  refine lv_topi (fun v_2 ev_2 => ?_)
  have q_3 : 0 ≤ v_2.toInt ∧ v_2.toInt ≤ 49 := by rw [ev_2]; exact hI 36 5
  refine lv_ixor hx hb dX3_runs_169 ?_
  refine lv_topi (fun v_4 ev_4 => ?_)
  have q_5 : (f 36 3).toInt = 12 := (congrArg Int32.toInt (show f 36 3 = 12 from hf_36_3)).trans (by decide)
  exact hret _ _ _ _ (v_4) f L Q dX3_runs_170 hP hS ⟨⟨rfl, rfl, rfl⟩, trivial, ⟨by omega, by omega⟩, (Eq.trans (Eq.symm (hs.trans ((spl_e ev_2 (spl_e ev_4 rfl))))) hsp)⟩

abbrev WkX3_does_1_2_3_f11_f7 : List (Nat × Nat × Option Nat) := [(36, 36, some 3), (38, 38, some 11)]
set_option maxHeartbeats 4000000 in
set_option maxRecDepth 100000 in
theorem kX3_does_1_2_3_f11_f7 (l : Launch) (D : va_G) (ca : Nat → ClassId) (za h : Nat → Nat) (hh : sgH 52 h) (f : sg_F) (L : sg_L) (Q : sg_Q) (hI : sgI loX hiX f) (x2 : Int32) (hf_36_3 : f 36 3 = 11) (hf_36_4 : f 36 4 = 7) (b2 : 1 ≤ x2.toInt ∧ x2.toInt ≤ 1) (p0 : 11 ≤ (f 36 3).toInt ∧ (f 36 3).toInt ≤ 11) (sz : Nat) : Met l yX3_does gwX3_does { frames := 1, cells := 0, slots := 0, locals := 24 } (sgP D vwCl (tyX ca) 52 h (eX ca h) zcX za f L Q sz [.ref (h 36), .int 1, .int 2, .int x2, .int 3]) (sgQi D vwCl 52 h (eX ca h) sz (fun r f1 L1 Q1 => ((sgI loX hiX f1 ∧ sgK WkX3_does_1_2_3_f11_f7 f f1 ∧ L1 = L ∧ Q1 = Q) ∧ True ∧ (12 ≤ (f1 36 3).toInt ∧ (f1 36 3).toInt ≤ 12) ∧ (r, f1) = sX3_does_1_2_3_f11_f7 x2 f L))) 0 0 (sgA 52 h sz) := by
  refine sg_ofWi (cc := cX3_does) (maxL := 7) RX3 (by decide) rfl rfl (Nat.le_of_ble_eq_true rfl) ?_
  intro p e s m below meth cd Qz ls hx hb hml hown hts hK hZ hP hS hl hret
  have hA := sgY.self (n := 52) (h := h) (sz := s.heap.size)
  have hl : lv_has ls 7 [(0, .ref (h 36)), (1, .int 1), (2, .int 2), (3, .int x2), (4, .int 3)] := hl
  obtain ⟨H, hH⟩ : ∃ z : Heap, z = s.heap := ⟨_, rfl⟩
  obtain ⟨locs, hlo⟩ : ∃ z : List Loc, z = [] := ⟨_, rfl⟩
  have hP : va_P D vwCl (sgw 52 h (eX ca h) f L Q) H := by rw [hH]; exact hP
  have hS : va_S (sgA 52 h s.heap.size) s.heap H locs := by rw [hH, hlo]; exact hS
  suffices hgo : W p l e ({ frames := 1, cells := 0, slots := 0, locals := 24 }) s m ([.ref (h 36), .int 1, .int 2, .int x2, .int 3] : List Value).toArray below meth cd H locs 0 0 Qz (F0 m 0 ls []) by rw [hH, hlo] at hgo; exact hgo
  clear hH hlo
  obtain ⟨sp, hsp⟩ : ∃ z : Int32 × sg_F, z = sX3_does_1_2_3_f11_f7 x2 f L := ⟨_, rfl⟩
  have hs : sp = sX3_does_1_2_3_f11_f7 x2 f L := hsp
  have o_1 : (f 36 3).toInt = 11 := (congrArg Int32.toInt (show f 36 3 = 11 from hf_36_3)).trans (by decide)
  have hF : sgK WkX3_does_1_2_3_f11_f7 f f := sgK.rf
  have blk_53 : ∀ (fp_53 : sg_F) (H : Heap) (locs : List Loc) (ls : Array Slot), sp = sX3_does_1_2_3_f11_f7_b53 x2 fp_53 L → 11 ≤ (fp_53 36 3).toInt ∧ (fp_53 36 3).toInt ≤ 11 → 7 ≤ (fp_53 36 4).toInt ∧ (fp_53 36 4).toInt ≤ 7 → sgI loX hiX fp_53 → sgK WkX3_does_1_2_3_f11_f7 f fp_53 → va_P D vwCl (sgw 52 h (eX ca h) fp_53 L Q) H → va_S (sgA 52 h s.heap.size) s.heap H locs → lv_has ls 7 [(0, .ref (h 36)), (3, .int x2), (4, .int 3), (5, .int 0), (6, .int 11)] → W p l e ({ frames := 1, cells := 0, slots := 0, locals := 24 }) s m ([.ref (h 36), .int 1, .int 2, .int x2, .int 3] : List Value).toArray below meth cd H locs 0 0 Qz (F0 m 53 ls []) := by
    intro fp_53 H locs ls hs hy0_53 hy1_53 hI hF hP hS hl
    obtain ⟨v_2, ev_2⟩ : ∃ z : Int32, z = fp_53 36 3 := ⟨_, rfl⟩
    have q_3 : 0 ≤ v_2.toInt ∧ v_2.toInt ≤ 19 := by rw [ev_2]; exact hI 36 3
    have q_4 : (fp_53 36 3).toInt = v_2.toInt := by rw [ev_2]
    obtain ⟨v_5, ev_5⟩ : ∃ z : Int32, z = fp_53 36 4 := ⟨_, rfl⟩
    have q_6 : 0 ≤ v_5.toInt ∧ v_5.toInt ≤ 7 := by rw [ev_5]; exact hI 36 4
    have q_7 : (fp_53 36 4).toInt = v_5.toInt := by rw [ev_5]
    have m_8 : fp_53 36 4 = 7 := (hF 36 4 (by decide)).trans hf_36_4
    refine lv_aload_n hx hb dX3_does_53 rfl (lv_at hl 0 rfl) ?_
    refine lv_dup hx hb dX3_does_54 rfl ?_
    refine sl_gX_36_3_3 (v := v_2) hx hb hts hown hK hP (show fp_53 36 3 = v_2 from ev_2.symm) dX3_does_55 ?_
    refine lv_iconst (v := 1) hx hb dX3_does_58 ic_1 ?_
    refine lv_iadd hx hb dX3_does_59 ?_
    refine lv_topi (fun v_9 ev_9 => ?_)
    have q_10 : v_9.toInt = v_2.toInt + 1 := by rw [ev_9]; first | exact cm_add ti_1 (by omega) (by omega) | (have k1 : (1 : Int32).toInt = 1 := ti_1; exact (bn_addI (by omega) (by omega)).trans (by omega))
    refine sl_pX_36_3_3 (x := v_9) hx hb hts hown hh hA hK hP hS dX3_does_60 (fun f_11 H locs ef_11 hP hS => ?_)
    have hI : sgI loX hiX f_11 := by rw [ef_11]; exact sgI.put hI 36 3 (show 0 ≤ (v_9 : Int32).toInt ∧ (v_9 : Int32).toInt ≤ 19 from ⟨by omega, by omega⟩)
    have hF : sgK WkX3_does_1_2_3_f11_f7 f f_11 := sgK.put hF ef_11 (by rfl)
    refine lv_aload_n hx hb dX3_does_63 rfl (lv_at hl 0 rfl) ?_
    refine lv_iload hx hb dX3_does_64 (lv_at hl 4 rfl) ?_
    refine sg_gets hx hb hZ 2 rfl hS hown (hts _ (List.mem_cons_of_mem _ mw_174)) (fun _ h9 => h9) dX3_does_66 ?_
    refine lv_iload hx hb dX3_does_69 (lv_at hl 3 rfl) ?_
    refine sg_sald hx hb hZ 2 rfl hS (y := 0) (N := 8) (vp_in_iff.mpr (by decide)) dX3_does_71 ?_
    refine W.eq (g2 := F0 m 72 ls [.int (-1), .int 11, .ref (h 36)]) (by rfl) ?_
    refine lv_iload_n hx hb dX3_does_72 rfl (lv_at hl 1 rfl) ?_
    refine lv_iload hx hb dX3_does_73 (lv_at hl 2 rfl) ?_
    refine lv_iconst (v := 1) hx hb dX3_does_75 ic_1 ?_
    refine lv_iadd hx hb dX3_does_76 ?_
    refine W.eq (g2 := F0 m 77 ls [.int 4, .int x2, .int (-1), .int 11, .ref (h 36)]) (by rw [show (3 + 1 : Int32) = 4 from by decide]) ?_
    have c_12 : v_9 = 12 := Int32.toInt_inj.mp (by have k9 : (12 : Int32).toInt = 12 := ti_12; omega)
    have q_13 : (f_11 36 3).toInt = 12 := (congrArg Int32.toInt (show f_11 36 3 = 12 from (Eq.trans (by rw [ef_11, sg_up_s, sgu_s]) c_12))).trans (by decide)
    refine sg_calli (va_runV (As := [.int 11, .int (-1), .int x2, .int 4]) (rest := []) ⟨hx, hb, hml, hown, hts⟩ (kX3_runs_11_m1_4_f12_f7 l D ca za h hh f_11 L Q hI x2 (Eq.trans (by rw [ef_11, sg_up_s, sgu_s]) c_12) (by rw [ef_11, sg_up_s, sgu_n (by decide)]; exact m_8) b2 (by have k0 : (11 : Int32).toInt = 11 := ti_11; have k1 : ((-1) : Int32).toInt = (-1) := ti_m1; have k3 : (4 : Int32).toInt = 4 := ti_4; omega) H.size) (sl_c3_runs_0_0_0_0_3 hts ⟨Nat.le_of_ble_eq_true rfl, Nat.le_of_ble_eq_true rfl⟩) (sl_vX_36 hA hK hP hS hZ) rfl rfl hl.1 rfl (lv_room (Nat.le_of_ble_eq_true rfl)) dX3_does_77 ⟨Nat.le_refl _, Nat.le_refl _⟩) hA hS (fun r_18 f_15 L_16 Q_17 H locs hq hP hS => ?_)
    obtain ⟨⟨ef9, eL9, eQ9⟩, hq, p_19, u_20⟩ := hq
    rw [ef9, eL9, eQ9] at hP; clear ef9 eL9 eQ9
    have k_23 : (11 : Int32).toInt = 11 := by decide
    have k_24 : ((-1) : Int32).toInt = (-1) := by decide
    have k_25 : (4 : Int32).toInt = 4 := by decide
    exact hret _ _ _ _ (r_18) f_11 L Q dX3_does_80 hP hS ⟨⟨hI, hF, rfl, rfl⟩, trivial, ⟨by omega, by omega⟩, (Eq.trans (Eq.symm (hs.trans ((spl_e ev_2 (spl_e ev_5 (spl_e ev_9 (spl_e ef_11 (spl_e u_20 rfl)))))))) hsp)⟩
  refine lv_iload_n hx hb dX3_does_0 rfl (lv_at hl 1 rfl) ?_
  refine lv_iload_n hx hb dX3_does_1 rfl (lv_at hl 2 rfl) ?_
  refine sg_calli (va_runS (As := [.int 1, .int 2]) (rest := []) ⟨hx, hb, hml, hown, hts⟩ (kX3_ownerOf_1_2 l D ca za h hh f L Q hI H.size) (va_cwS 2 hts (gw_S (fun _ h => List.mem_cons_of_mem _ h) mw_189 mw_190 mw_47 mw_188) rfl rfl rfl hd_yX3_ownerOf.2 ⟨Nat.le_of_ble_eq_true rfl, Nat.le_of_ble_eq_true rfl⟩) (sg_preS hA hK hP hS hZ) rfl rfl hl.1 rfl (lv_room (Nat.le_of_ble_eq_true rfl)) dX3_does_2 ⟨Nat.le_refl _, Nat.le_refl _⟩) hA hS (fun r_31 f_28 L_29 Q_30 H locs hq hP hS => ?_)
  obtain ⟨⟨ef9, eL9, eQ9⟩, hq, u_32⟩ := hq
  rw [ef9, eL9, eQ9] at hP; clear ef9 eL9 eQ9
  obtain rfl : r_31 = 0 := Int32.toInt_inj.mp (by have k9 : (0 : Int32).toInt = 0 := ti_0; omega)
  refine lv_istore (lv' := [(5, .int 0), (0, .ref (h 36)), (1, .int 1), (2, .int 2), (3, .int x2), (4, .int 3)]) hx hb dX3_does_5 hl (by decide) rfl (fun ls hl => ?_)
  refine lv_iload hx hb dX3_does_7 (lv_at hl 0 rfl) ?_
  refine lv_if_lt (tgt := 19) hx hb dX3_does_9 (by decide) (fun c => absurd c (by decide)) (fun c => ?_)
  refine lv_iload hx hb dX3_does_12 (lv_at hl 5 rfl) ?_
  refine lv_bipush (v := 40) hx hb dX3_does_14 bp_40 ?_
  refine lv_icmp_le (tgt := 21) hx hb dX3_does_16 (by decide) (fun c => ?_) (fun c => absurd c (by decide))
  refine sg_gets hx hb hZ 3 rfl hS hown (hts _ (List.mem_cons_of_mem _ mw_173)) (fun _ h9 => h9) dX3_does_21 ?_
  refine lv_iload hx hb dX3_does_24 (lv_at hl 0 rfl) ?_
  refine lv_iconst (v := 4) hx hb dX3_does_26 ic_4 ?_
  refine lv_imul hx hb dX3_does_27 ?_
  refine W.eq (g2 := F0 m 28 ls [.int 0, .ref (za 3)]) (by rw [show (0 * 4 : Int32) = 0 from by decide]) ?_
  refine lv_iload_n hx hb dX3_does_28 rfl (lv_at hl 3 rfl) ?_
  refine lv_iadd hx hb dX3_does_29 ?_
  refine W.eq (g2 := F0 m 30 ls [.int 2, .ref (za 3)]) (by rw [show (0 + 2 : Int32) = 2 from by decide]) ?_
  refine sg_sald hx hb hZ 3 rfl hS (y := 2) (N := 32) (vp_in_iff.mpr (by decide)) dX3_does_30 ?_
  refine W.eq (g2 := F0 m 31 ls [.int 11]) (by rfl) ?_
  refine lv_istore (lv' := [(6, .int 11), (5, .int 0), (0, .ref (h 36)), (1, .int 1), (2, .int 2), (3, .int x2), (4, .int 3)]) hx hb dX3_does_31 hl (by decide) rfl (fun ls hl => ?_)
  refine lv_aload_n hx hb dX3_does_33 rfl (lv_at hl 2 rfl) ?_
  refine sl_gX_36_3_3 (v := 11) hx hb hts hown hK hP (show f 36 3 = 11 from hf_36_3) dX3_does_34 ?_
  refine lv_bipush (v := 24) hx hb dX3_does_37 bp_24 ?_
  refine lv_icmp_ge (tgt := 53) hx hb dX3_does_39 (by decide) (fun c => absurd c (by decide)) (fun c => ?_)
  refine lv_aload_n hx hb dX3_does_42 rfl (lv_at hl 2 rfl) ?_
  refine sl_gX_36_1_3 hx hb hts hown hK hP dX3_does_43 ?_
  refine lv_aload_n hx hb dX3_does_46 rfl (lv_at hl 2 rfl) ?_
  refine sl_gX_36_3_3 (v := 11) hx hb hts hown hK hP (show f 36 3 = 11 from hf_36_3) dX3_does_47 ?_
  refine lv_iload hx hb dX3_does_50 (lv_at hl 0 rfl) ?_
  refine sg_iast hx hb hh hA hK hP hS 38 (by decide) 0 (fun _ => rfl) rfl (i := 11) (x := 11) (vp_in_iff.mpr (by decide)) dX3_does_52 (fun f_33 H locs ef_33 hP hS => ?_)
  have ef_33 : f_33 = sg_up f 38 (sgu (f 38) 11 11) := ef_33
  have hI : sgI loX hiX f_33 := by rw [ef_33]; exact sgI.put hI 38 11 (show 0 ≤ (11 : Int32).toInt ∧ (11 : Int32).toInt ≤ 81 from by decide)
  have hF : sgK WkX3_does_1_2_3_f11_f7 f f_33 := sgK.put hF ef_33 (by rfl)
  exact blk_53 f_33 _ _ _ (hs.trans ((spl_e u_32 (spl_e ef_33 rfl)))) (by have zz36_3 : (f_33 36 3).toInt = 11 := (congrArg Int32.toInt (show f_33 36 3 = 11 from (by rw [ef_33, sg_up_n (by decide)]; exact hf_36_3))).trans (by decide); exact ⟨by omega, by omega⟩) (by have zz36_4 : (f_33 36 4).toInt = 7 := (congrArg Int32.toInt (show f_33 36 4 = 7 from (by rw [ef_33, sg_up_n (by decide)]; exact hf_36_4))).trans (by decide); exact ⟨by omega, by omega⟩) hI hF hP hS (lv_sub hl [2, 5, 6, 1, 0] rfl)

set_option maxHeartbeats 4000000 in
set_option maxRecDepth 100000 in
theorem kX3_runs_1_m1_5_f14_f7 (l : Launch) (D : va_G) (ca : Nat → ClassId) (za h : Nat → Nat) (hh : sgH 52 h) (f : sg_F) (L : sg_L) (Q : sg_Q) (hI : sgI loX hiX f) (x2 : Int32) (hf_36_3 : f 36 3 = 14) (hf_36_4 : f 36 4 = 7) (b2 : 2 ≤ x2.toInt ∧ x2.toInt ≤ 2) (p0 : 14 ≤ (f 36 3).toInt ∧ (f 36 3).toInt ≤ 14) (sz : Nat) : Met l yX3_runs gwX3_runs { frames := 0, cells := 0, slots := 0, locals := 0 } (sgP D vwCl (tyX ca) 52 h (eX ca h) zcX za f L Q sz [.ref (h 36), .int 1, .int (-1), .int x2, .int 5]) (sgQi D vwCl 52 h (eX ca h) sz (fun r f1 L1 Q1 => ((f1 = f ∧ L1 = L ∧ Q1 = Q) ∧ (2 ≤ r.toInt ∧ r.toInt ≤ 51) ∧ (14 ≤ (f1 36 3).toInt ∧ (f1 36 3).toInt ≤ 14) ∧ (r) = sX3_runs_1_m1_5_f14_f7 x2 f L))) 0 0 (sgA 52 h sz) := by
  refine sg_ofWi (cc := cX3_runs) (maxL := 5) RX3 (by decide) rfl rfl (Nat.le_of_ble_eq_true rfl) ?_
  intro p e s m below meth cd Qz ls hx hb hml hown hts hK hZ hP hS hl hret
  have hA := sgY.self (n := 52) (h := h) (sz := s.heap.size)
  have hl : lv_has ls 5 [(0, .ref (h 36)), (1, .int 1), (2, .int (-1)), (3, .int x2), (4, .int 5)] := hl
  obtain ⟨H, hH⟩ : ∃ z : Heap, z = s.heap := ⟨_, rfl⟩
  obtain ⟨locs, hlo⟩ : ∃ z : List Loc, z = [] := ⟨_, rfl⟩
  have hP : va_P D vwCl (sgw 52 h (eX ca h) f L Q) H := by rw [hH]; exact hP
  have hS : va_S (sgA 52 h s.heap.size) s.heap H locs := by rw [hH, hlo]; exact hS
  suffices hgo : W p l e ({ frames := 0, cells := 0, slots := 0, locals := 0 }) s m ([.ref (h 36), .int 1, .int (-1), .int x2, .int 5] : List Value).toArray below meth cd H locs 0 0 Qz (F0 m 0 ls []) by rw [hH, hlo] at hgo; exact hgo
  clear hH hlo
  obtain ⟨sp, hsp⟩ : ∃ z : Int32, z = sX3_runs_1_m1_5_f14_f7 x2 f L := ⟨_, rfl⟩
  have hs : sp = sX3_runs_1_m1_5_f14_f7 x2 f L := hsp
  have o_1 : (f 36 3).toInt = 14 := (congrArg Int32.toInt (show f 36 3 = 14 from hf_36_3)).trans (by decide)
  refine lv_iload_n hx hb dX3_runs_0 rfl (lv_at hl 1 rfl) ?_
  refine lv_lookup (x := 1) (off := 115) (tgt := 116) hx hb dX3_runs_1 (by decide) (by decide) (by decide) ?_
  refine lv_iload_n hx hb dX3_runs_116 rfl (lv_at hl 3 rfl) ?_
  refine lv_aload_n hx hb dX3_runs_117 rfl (lv_at hl 0 rfl) ?_
  refine sl_gX_36_5_3 (v := (f 36 5)) hx hb hts hown hK hP rfl dX3_runs_118 ?_
  refine lv_topi (fun v_2 ev_2 => ?_)
  have q_3 : 0 ≤ v_2.toInt ∧ v_2.toInt ≤ 49 := by rw [ev_2]; exact hI 36 5
  refine lv_iadd hx hb dX3_runs_121 ?_
  refine lv_topi (fun v_4 ev_4 => ?_)
  have q_5 : v_4.toInt = x2.toInt + v_2.toInt := by rw [ev_4]; first | exact bn_addI (by omega) (by omega) | exact (bn_addI (by omega) (by omega)).trans (by omega)
  have q_6 : (f 36 3).toInt = 14 := (congrArg Int32.toInt (show f 36 3 = 14 from hf_36_3)).trans (by decide)
  exact hret _ _ _ _ (v_4) f L Q dX3_runs_122 hP hS ⟨⟨rfl, rfl, rfl⟩, ⟨by omega, by omega⟩, ⟨by omega, by omega⟩, (Eq.trans (Eq.symm (hs.trans ((spl_e ev_2 (spl_e ev_4 rfl))))) hsp)⟩

abbrev WkX3_does_0_0_4_f13_f7 : List (Nat × Nat × Option Nat) := [(36, 36, some 3), (38, 38, some 13)]
set_option maxHeartbeats 4000000 in
set_option maxRecDepth 100000 in
theorem kX3_does_0_0_4_f13_f7 (l : Launch) (D : va_G) (ca : Nat → ClassId) (za h : Nat → Nat) (hh : sgH 52 h) (f : sg_F) (L : sg_L) (Q : sg_Q) (hI : sgI loX hiX f) (x2 : Int32) (hf_36_3 : f 36 3 = 13) (hf_36_4 : f 36 4 = 7) (b2 : 2 ≤ x2.toInt ∧ x2.toInt ≤ 2) (p0 : 13 ≤ (f 36 3).toInt ∧ (f 36 3).toInt ≤ 13) (sz : Nat) : Met l yX3_does gwX3_does { frames := 1, cells := 0, slots := 0, locals := 24 } (sgP D vwCl (tyX ca) 52 h (eX ca h) zcX za f L Q sz [.ref (h 36), .int 0, .int 0, .int x2, .int 4]) (sgQi D vwCl 52 h (eX ca h) sz (fun r f1 L1 Q1 => ((sgI loX hiX f1 ∧ sgK WkX3_does_0_0_4_f13_f7 f f1 ∧ L1 = L ∧ Q1 = Q) ∧ (2 ≤ r.toInt ∧ r.toInt ≤ 51) ∧ (14 ≤ (f1 36 3).toInt ∧ (f1 36 3).toInt ≤ 14) ∧ (r, f1) = sX3_does_0_0_4_f13_f7 x2 f L))) 0 0 (sgA 52 h sz) := by
  refine sg_ofWi (cc := cX3_does) (maxL := 7) RX3 (by decide) rfl rfl (Nat.le_of_ble_eq_true rfl) ?_
  intro p e s m below meth cd Qz ls hx hb hml hown hts hK hZ hP hS hl hret
  have hA := sgY.self (n := 52) (h := h) (sz := s.heap.size)
  have hl : lv_has ls 7 [(0, .ref (h 36)), (1, .int 0), (2, .int 0), (3, .int x2), (4, .int 4)] := hl
  obtain ⟨H, hH⟩ : ∃ z : Heap, z = s.heap := ⟨_, rfl⟩
  obtain ⟨locs, hlo⟩ : ∃ z : List Loc, z = [] := ⟨_, rfl⟩
  have hP : va_P D vwCl (sgw 52 h (eX ca h) f L Q) H := by rw [hH]; exact hP
  have hS : va_S (sgA 52 h s.heap.size) s.heap H locs := by rw [hH, hlo]; exact hS
  suffices hgo : W p l e ({ frames := 1, cells := 0, slots := 0, locals := 24 }) s m ([.ref (h 36), .int 0, .int 0, .int x2, .int 4] : List Value).toArray below meth cd H locs 0 0 Qz (F0 m 0 ls []) by rw [hH, hlo] at hgo; exact hgo
  clear hH hlo
  obtain ⟨sp, hsp⟩ : ∃ z : Int32 × sg_F, z = sX3_does_0_0_4_f13_f7 x2 f L := ⟨_, rfl⟩
  have hs : sp = sX3_does_0_0_4_f13_f7 x2 f L := hsp
  have o_1 : (f 36 3).toInt = 13 := (congrArg Int32.toInt (show f 36 3 = 13 from hf_36_3)).trans (by decide)
  have hF : sgK WkX3_does_0_0_4_f13_f7 f f := sgK.rf
  have blk_53 : ∀ (fp_53 : sg_F) (H : Heap) (locs : List Loc) (ls : Array Slot), sp = sX3_does_0_0_4_f13_f7_b53 x2 fp_53 L → 13 ≤ (fp_53 36 3).toInt ∧ (fp_53 36 3).toInt ≤ 13 → 7 ≤ (fp_53 36 4).toInt ∧ (fp_53 36 4).toInt ≤ 7 → sgI loX hiX fp_53 → sgK WkX3_does_0_0_4_f13_f7 f fp_53 → va_P D vwCl (sgw 52 h (eX ca h) fp_53 L Q) H → va_S (sgA 52 h s.heap.size) s.heap H locs → lv_has ls 7 [(0, .ref (h 36)), (3, .int x2), (4, .int 4), (5, .int 0), (6, .int 1)] → W p l e ({ frames := 1, cells := 0, slots := 0, locals := 24 }) s m ([.ref (h 36), .int 0, .int 0, .int x2, .int 4] : List Value).toArray below meth cd H locs 0 0 Qz (F0 m 53 ls []) := by
    intro fp_53 H locs ls hs hy0_53 hy1_53 hI hF hP hS hl
    obtain ⟨v_2, ev_2⟩ : ∃ z : Int32, z = fp_53 36 3 := ⟨_, rfl⟩
    have q_3 : 0 ≤ v_2.toInt ∧ v_2.toInt ≤ 19 := by rw [ev_2]; exact hI 36 3
    have q_4 : (fp_53 36 3).toInt = v_2.toInt := by rw [ev_2]
    obtain ⟨v_5, ev_5⟩ : ∃ z : Int32, z = fp_53 36 4 := ⟨_, rfl⟩
    have q_6 : 0 ≤ v_5.toInt ∧ v_5.toInt ≤ 7 := by rw [ev_5]; exact hI 36 4
    have q_7 : (fp_53 36 4).toInt = v_5.toInt := by rw [ev_5]
    have m_8 : fp_53 36 4 = 7 := (hF 36 4 (by decide)).trans hf_36_4
    refine lv_aload_n hx hb dX3_does_53 rfl (lv_at hl 0 rfl) ?_
    refine lv_dup hx hb dX3_does_54 rfl ?_
    refine sl_gX_36_3_3 (v := v_2) hx hb hts hown hK hP (show fp_53 36 3 = v_2 from ev_2.symm) dX3_does_55 ?_
    refine lv_iconst (v := 1) hx hb dX3_does_58 ic_1 ?_
    refine lv_iadd hx hb dX3_does_59 ?_
    refine lv_topi (fun v_9 ev_9 => ?_)
    have q_10 : v_9.toInt = v_2.toInt + 1 := by rw [ev_9]; first | exact cm_add ti_1 (by omega) (by omega) | (have k1 : (1 : Int32).toInt = 1 := ti_1; exact (bn_addI (by omega) (by omega)).trans (by omega))
    refine sl_pX_36_3_3 (x := v_9) hx hb hts hown hh hA hK hP hS dX3_does_60 (fun f_11 H locs ef_11 hP hS => ?_)
    have hI : sgI loX hiX f_11 := by rw [ef_11]; exact sgI.put hI 36 3 (show 0 ≤ (v_9 : Int32).toInt ∧ (v_9 : Int32).toInt ≤ 19 from ⟨by omega, by omega⟩)
    have hF : sgK WkX3_does_0_0_4_f13_f7 f f_11 := sgK.put hF ef_11 (by rfl)
    refine lv_aload_n hx hb dX3_does_63 rfl (lv_at hl 0 rfl) ?_
    refine lv_iload hx hb dX3_does_64 (lv_at hl 4 rfl) ?_
    refine sg_gets hx hb hZ 2 rfl hS hown (hts _ (List.mem_cons_of_mem _ mw_174)) (fun _ h9 => h9) dX3_does_66 ?_
    refine lv_iload hx hb dX3_does_69 (lv_at hl 3 rfl) ?_
    refine sg_sald hx hb hZ 2 rfl hS (y := 0) (N := 8) (vp_in_iff.mpr (by decide)) dX3_does_71 ?_
    refine W.eq (g2 := F0 m 72 ls [.int (-1), .int 1, .ref (h 36)]) (by rfl) ?_
    refine lv_iload_n hx hb dX3_does_72 rfl (lv_at hl 1 rfl) ?_
    refine lv_iload hx hb dX3_does_73 (lv_at hl 2 rfl) ?_
    refine lv_iconst (v := 1) hx hb dX3_does_75 ic_1 ?_
    refine lv_iadd hx hb dX3_does_76 ?_
    refine W.eq (g2 := F0 m 77 ls [.int 5, .int x2, .int (-1), .int 1, .ref (h 36)]) (by rw [show (4 + 1 : Int32) = 5 from by decide]) ?_
    have c_12 : v_9 = 14 := Int32.toInt_inj.mp (by have k9 : (14 : Int32).toInt = 14 := ti_14; omega)
    have q_13 : (f_11 36 3).toInt = 14 := (congrArg Int32.toInt (show f_11 36 3 = 14 from (Eq.trans (by rw [ef_11, sg_up_s, sgu_s]) c_12))).trans (by decide)
    refine sg_calli (va_runV (As := [.int 1, .int (-1), .int x2, .int 5]) (rest := []) ⟨hx, hb, hml, hown, hts⟩ (kX3_runs_1_m1_5_f14_f7 l D ca za h hh f_11 L Q hI x2 (Eq.trans (by rw [ef_11, sg_up_s, sgu_s]) c_12) (by rw [ef_11, sg_up_s, sgu_n (by decide)]; exact m_8) b2 (by have k0 : (1 : Int32).toInt = 1 := ti_1; have k1 : ((-1) : Int32).toInt = (-1) := ti_m1; have k3 : (5 : Int32).toInt = 5 := ti_5; omega) H.size) (sl_c3_runs_0_0_0_0_3 hts ⟨Nat.le_of_ble_eq_true rfl, Nat.le_of_ble_eq_true rfl⟩) (sl_vX_36 hA hK hP hS hZ) rfl rfl hl.1 rfl (lv_room (Nat.le_of_ble_eq_true rfl)) dX3_does_77 ⟨Nat.le_refl _, Nat.le_refl _⟩) hA hS (fun r_18 f_15 L_16 Q_17 H locs hq hP hS => ?_)
    obtain ⟨⟨ef9, eL9, eQ9⟩, hq, p_19, u_20⟩ := hq
    rw [ef9, eL9, eQ9] at hP; clear ef9 eL9 eQ9
    have k_23 : (1 : Int32).toInt = 1 := by decide
    have k_24 : ((-1) : Int32).toInt = (-1) := by decide
    have k_25 : (5 : Int32).toInt = 5 := by decide
    exact hret _ _ _ _ (r_18) f_11 L Q dX3_does_80 hP hS ⟨⟨hI, hF, rfl, rfl⟩, ⟨by omega, by omega⟩, ⟨by omega, by omega⟩, (Eq.trans (Eq.symm (hs.trans ((spl_e ev_2 (spl_e ev_5 (spl_e ev_9 (spl_e ef_11 (spl_e u_20 rfl)))))))) hsp)⟩
  refine lv_iload_n hx hb dX3_does_0 rfl (lv_at hl 1 rfl) ?_
  refine lv_iload_n hx hb dX3_does_1 rfl (lv_at hl 2 rfl) ?_
  refine sg_calli (va_runS (As := [.int 0, .int 0]) (rest := []) ⟨hx, hb, hml, hown, hts⟩ (kX3_ownerOf_0_0 l D ca za h hh f L Q hI H.size) (va_cwS 2 hts (gw_S (fun _ h => List.mem_cons_of_mem _ h) mw_189 mw_190 mw_47 mw_188) rfl rfl rfl hd_yX3_ownerOf.2 ⟨Nat.le_of_ble_eq_true rfl, Nat.le_of_ble_eq_true rfl⟩) (sg_preS hA hK hP hS hZ) rfl rfl hl.1 rfl (lv_room (Nat.le_of_ble_eq_true rfl)) dX3_does_2 ⟨Nat.le_refl _, Nat.le_refl _⟩) hA hS (fun r_31 f_28 L_29 Q_30 H locs hq hP hS => ?_)
  obtain ⟨⟨ef9, eL9, eQ9⟩, hq, u_32⟩ := hq
  rw [ef9, eL9, eQ9] at hP; clear ef9 eL9 eQ9
  obtain rfl : r_31 = 0 := Int32.toInt_inj.mp (by have k9 : (0 : Int32).toInt = 0 := ti_0; omega)
  refine lv_istore (lv' := [(5, .int 0), (0, .ref (h 36)), (1, .int 0), (2, .int 0), (3, .int x2), (4, .int 4)]) hx hb dX3_does_5 hl (by decide) rfl (fun ls hl => ?_)
  refine lv_iload hx hb dX3_does_7 (lv_at hl 0 rfl) ?_
  refine lv_if_lt (tgt := 19) hx hb dX3_does_9 (by decide) (fun c => absurd c (by decide)) (fun c => ?_)
  refine lv_iload hx hb dX3_does_12 (lv_at hl 5 rfl) ?_
  refine lv_bipush (v := 40) hx hb dX3_does_14 bp_40 ?_
  refine lv_icmp_le (tgt := 21) hx hb dX3_does_16 (by decide) (fun c => ?_) (fun c => absurd c (by decide))
  refine sg_gets hx hb hZ 3 rfl hS hown (hts _ (List.mem_cons_of_mem _ mw_173)) (fun _ h9 => h9) dX3_does_21 ?_
  refine lv_iload hx hb dX3_does_24 (lv_at hl 0 rfl) ?_
  refine lv_iconst (v := 4) hx hb dX3_does_26 ic_4 ?_
  refine lv_imul hx hb dX3_does_27 ?_
  refine W.eq (g2 := F0 m 28 ls [.int 0, .ref (za 3)]) (by rw [show (0 * 4 : Int32) = 0 from by decide]) ?_
  refine lv_iload_n hx hb dX3_does_28 rfl (lv_at hl 3 rfl) ?_
  refine lv_iadd hx hb dX3_does_29 ?_
  refine W.eq (g2 := F0 m 30 ls [.int 0, .ref (za 3)]) (by rw [show (0 + 0 : Int32) = 0 from by decide]) ?_
  refine sg_sald hx hb hZ 3 rfl hS (y := 0) (N := 32) (vp_in_iff.mpr (by decide)) dX3_does_30 ?_
  refine W.eq (g2 := F0 m 31 ls [.int 1]) (by rfl) ?_
  refine lv_istore (lv' := [(6, .int 1), (5, .int 0), (0, .ref (h 36)), (1, .int 0), (2, .int 0), (3, .int x2), (4, .int 4)]) hx hb dX3_does_31 hl (by decide) rfl (fun ls hl => ?_)
  refine lv_aload_n hx hb dX3_does_33 rfl (lv_at hl 2 rfl) ?_
  refine sl_gX_36_3_3 (v := 13) hx hb hts hown hK hP (show f 36 3 = 13 from hf_36_3) dX3_does_34 ?_
  refine lv_bipush (v := 24) hx hb dX3_does_37 bp_24 ?_
  refine lv_icmp_ge (tgt := 53) hx hb dX3_does_39 (by decide) (fun c => absurd c (by decide)) (fun c => ?_)
  refine lv_aload_n hx hb dX3_does_42 rfl (lv_at hl 2 rfl) ?_
  refine sl_gX_36_1_3 hx hb hts hown hK hP dX3_does_43 ?_
  refine lv_aload_n hx hb dX3_does_46 rfl (lv_at hl 2 rfl) ?_
  refine sl_gX_36_3_3 (v := 13) hx hb hts hown hK hP (show f 36 3 = 13 from hf_36_3) dX3_does_47 ?_
  refine lv_iload hx hb dX3_does_50 (lv_at hl 0 rfl) ?_
  refine sg_iast hx hb hh hA hK hP hS 38 (by decide) 0 (fun _ => rfl) rfl (i := 13) (x := 1) (vp_in_iff.mpr (by decide)) dX3_does_52 (fun f_33 H locs ef_33 hP hS => ?_)
  have ef_33 : f_33 = sg_up f 38 (sgu (f 38) 13 1) := ef_33
  have hI : sgI loX hiX f_33 := by rw [ef_33]; exact sgI.put hI 38 13 (show 0 ≤ (1 : Int32).toInt ∧ (1 : Int32).toInt ≤ 81 from by decide)
  have hF : sgK WkX3_does_0_0_4_f13_f7 f f_33 := sgK.put hF ef_33 (by rfl)
  exact blk_53 f_33 _ _ _ (hs.trans ((spl_e u_32 (spl_e ef_33 rfl)))) (by have zz36_3 : (f_33 36 3).toInt = 13 := (congrArg Int32.toInt (show f_33 36 3 = 13 from (by rw [ef_33, sg_up_n (by decide)]; exact hf_36_3))).trans (by decide); exact ⟨by omega, by omega⟩) (by have zz36_4 : (f_33 36 4).toInt = 7 := (congrArg Int32.toInt (show f_33 36 4 = 7 from (by rw [ef_33, sg_up_n (by decide)]; exact hf_36_4))).trans (by decide); exact ⟨by omega, by omega⟩) hI hF hP hS (lv_sub hl [2, 5, 6, 1, 0] rfl)

abbrev WkX3_runs_20_0_4_f13_f7 : List (Nat × Nat × Option Nat) := [(36, 36, some 3), (38, 38, some 13)]
set_option maxHeartbeats 4000000 in
set_option maxRecDepth 100000 in
theorem kX3_runs_20_0_4_f13_f7 (l : Launch) (D : va_G) (ca : Nat → ClassId) (za h : Nat → Nat) (hh : sgH 52 h) (f : sg_F) (L : sg_L) (Q : sg_Q) (hI : sgI loX hiX f) (x2 : Int32) (hf_36_3 : f 36 3 = 13) (hf_36_4 : f 36 4 = 7) (b2 : 2 ≤ x2.toInt ∧ x2.toInt ≤ 2) (p0 : 13 ≤ (f 36 3).toInt ∧ (f 36 3).toInt ≤ 13) (sz : Nat) : Met l yX3_runs gwX3_runs { frames := 2, cells := 0, slots := 0, locals := 50 } (sgP D vwCl (tyX ca) 52 h (eX ca h) zcX za f L Q sz [.ref (h 36), .int 20, .int 0, .int x2, .int 4]) (sgQi D vwCl 52 h (eX ca h) sz (fun r f1 L1 Q1 => ((sgI loX hiX f1 ∧ sgK WkX3_runs_20_0_4_f13_f7 f f1 ∧ L1 = L ∧ Q1 = Q) ∧ (5 ≤ r.toInt ∧ r.toInt ≤ 54) ∧ (14 ≤ (f1 36 3).toInt ∧ (f1 36 3).toInt ≤ 14) ∧ (r, f1) = sX3_runs_20_0_4_f13_f7 x2 f L))) 0 0 (sgA 52 h sz) := by
  refine sg_ofWi (cc := cX3_runs) (maxL := 5) RX3 (by decide) rfl rfl (Nat.le_of_ble_eq_true rfl) ?_
  intro p e s m below meth cd Qz ls hx hb hml hown hts hK hZ hP hS hl hret
  have hA := sgY.self (n := 52) (h := h) (sz := s.heap.size)
  have hl : lv_has ls 5 [(0, .ref (h 36)), (1, .int 20), (2, .int 0), (3, .int x2), (4, .int 4)] := hl
  obtain ⟨H, hH⟩ : ∃ z : Heap, z = s.heap := ⟨_, rfl⟩
  obtain ⟨locs, hlo⟩ : ∃ z : List Loc, z = [] := ⟨_, rfl⟩
  have hP : va_P D vwCl (sgw 52 h (eX ca h) f L Q) H := by rw [hH]; exact hP
  have hS : va_S (sgA 52 h s.heap.size) s.heap H locs := by rw [hH, hlo]; exact hS
  suffices hgo : W p l e ({ frames := 2, cells := 0, slots := 0, locals := 50 }) s m ([.ref (h 36), .int 20, .int 0, .int x2, .int 4] : List Value).toArray below meth cd H locs 0 0 Qz (F0 m 0 ls []) by rw [hH, hlo] at hgo; exact hgo
  clear hH hlo
  obtain ⟨sp, hsp⟩ : ∃ z : Int32 × sg_F, z = sX3_runs_20_0_4_f13_f7 x2 f L := ⟨_, rfl⟩
  have hs : sp = sX3_runs_20_0_4_f13_f7 x2 f L := hsp
  have o_1 : (f 36 3).toInt = 13 := (congrArg Int32.toInt (show f 36 3 = 13 from hf_36_3)).trans (by decide)
  have hF : sgK WkX3_runs_20_0_4_f13_f7 f f := sgK.rf
  refine lv_iload_n hx hb dX3_runs_0 rfl (lv_at hl 1 rfl) ?_
  refine lv_lookup (x := 20) (off := 170) (tgt := 171) hx hb dX3_runs_1 (by decide) (by decide) (by decide) ?_
  refine lv_aload_n hx hb dX3_runs_171 rfl (lv_at hl 0 rfl) ?_
  refine lv_iload_n hx hb dX3_runs_172 rfl (lv_at hl 2 rfl) ?_
  refine lv_iconst (v := 0) hx hb dX3_runs_173 ic_0 ?_
  refine lv_iload_n hx hb dX3_runs_174 rfl (lv_at hl 3 rfl) ?_
  refine lv_iload hx hb dX3_runs_175 (lv_at hl 4 rfl) ?_
  have q_2 : (f 36 3).toInt = 13 := (congrArg Int32.toInt (show f 36 3 = 13 from hf_36_3)).trans (by decide)
  refine sg_calli (va_runV (As := [.int 0, .int 0, .int x2, .int 4]) (rest := []) ⟨hx, hb, hml, hown, hts⟩ (kX3_does_0_0_4_f13_f7 l D ca za h hh f L Q hI x2 hf_36_3 hf_36_4 b2 (by have k0 : (0 : Int32).toInt = 0 := ti_0; have k1 : (0 : Int32).toInt = 0 := ti_0; have k3 : (4 : Int32).toInt = 4 := ti_4; omega) H.size) (sl_c3_does_1_0_0_24_3 hts ⟨Nat.le_of_ble_eq_true rfl, Nat.le_of_ble_eq_true rfl⟩) (sl_vX_36 hA hK hP hS hZ) rfl rfl hl.1 rfl (lv_room (Nat.le_of_ble_eq_true rfl)) dX3_runs_177 ⟨Nat.le_refl _, Nat.le_refl _⟩) hA hS (fun r_7 f_4 L_5 Q_6 H locs hq hP hS => ?_)
  obtain ⟨⟨hI, hk_f_4, eL9, eQ9⟩, hq, p_8, u_9⟩ := hq
  rw [eL9, eQ9] at hP; clear eL9 eQ9
  have hF : sgK WkX3_runs_20_0_4_f13_f7 f f_4 := sgK.tr hF hk_f_4 (by decide +kernel)
  obtain ⟨v_10, ev_10⟩ : ∃ z : Int32, z = f_4 36 3 := ⟨_, rfl⟩
  have q_11 : 0 ≤ v_10.toInt ∧ v_10.toInt ≤ 19 := by rw [ev_10]; exact hI 36 3
  have q_12 : (f_4 36 3).toInt = v_10.toInt := (congrArg Int32.toInt (show f_4 36 3 = v_10 from ev_10.symm))
  have k_14 : (0 : Int32).toInt = 0 := by decide
  have k_15 : (0 : Int32).toInt = 0 := by decide
  have k_16 : (4 : Int32).toInt = 4 := by decide
  refine lv_iconst (v := 3) hx hb dX3_runs_180 ic_3 ?_
  refine lv_iadd hx hb dX3_runs_181 ?_
  refine lv_topi (fun v_17 ev_17 => ?_)
  have q_18 : v_17.toInt = r_7.toInt + 3 := by rw [ev_17]; first | exact cm_add ti_3 (by omega) (by omega) | (have k1 : (3 : Int32).toInt = 3 := ti_3; exact (bn_addI (by omega) (by omega)).trans (by omega))
  exact hret _ _ _ _ (v_17) f_4 L Q dX3_runs_182 hP hS ⟨⟨hI, hF, rfl, rfl⟩, ⟨by omega, by omega⟩, ⟨by omega, by omega⟩, (Eq.trans (Eq.symm (hs.trans ((spl2_e u_9 (spl_e ev_10 (spl_e ev_17 rfl)))))) hsp)⟩

abbrev WkX3_does_7_0_3_f12_f7 : List (Nat × Nat × Option Nat) := [(36, 36, some 3), (38, 38, some 12), (38, 38, some 13)]
set_option maxHeartbeats 4000000 in
set_option maxRecDepth 100000 in
theorem kX3_does_7_0_3_f12_f7 (l : Launch) (D : va_G) (ca : Nat → ClassId) (za h : Nat → Nat) (hh : sgH 52 h) (f : sg_F) (L : sg_L) (Q : sg_Q) (hI : sgI loX hiX f) (x2 : Int32) (hf_36_3 : f 36 3 = 12) (hf_36_4 : f 36 4 = 7) (b2 : 2 ≤ x2.toInt ∧ x2.toInt ≤ 2) (p0 : 12 ≤ (f 36 3).toInt ∧ (f 36 3).toInt ≤ 12) (sz : Nat) : Met l yX3_does gwX3_does { frames := 3, cells := 0, slots := 0, locals := 74 } (sgP D vwCl (tyX ca) 52 h (eX ca h) zcX za f L Q sz [.ref (h 36), .int 7, .int 0, .int x2, .int 3]) (sgQi D vwCl 52 h (eX ca h) sz (fun r f1 L1 Q1 => ((sgI loX hiX f1 ∧ sgK WkX3_does_7_0_3_f12_f7 f f1 ∧ L1 = L ∧ Q1 = Q) ∧ (5 ≤ r.toInt ∧ r.toInt ≤ 54) ∧ (14 ≤ (f1 36 3).toInt ∧ (f1 36 3).toInt ≤ 14) ∧ (r, f1) = sX3_does_7_0_3_f12_f7 x2 f L))) 0 0 (sgA 52 h sz) := by
  refine sg_ofWi (cc := cX3_does) (maxL := 7) RX3 (by decide) rfl rfl (Nat.le_of_ble_eq_true rfl) ?_
  intro p e s m below meth cd Qz ls hx hb hml hown hts hK hZ hP hS hl hret
  have hA := sgY.self (n := 52) (h := h) (sz := s.heap.size)
  have hl : lv_has ls 7 [(0, .ref (h 36)), (1, .int 7), (2, .int 0), (3, .int x2), (4, .int 3)] := hl
  obtain ⟨H, hH⟩ : ∃ z : Heap, z = s.heap := ⟨_, rfl⟩
  obtain ⟨locs, hlo⟩ : ∃ z : List Loc, z = [] := ⟨_, rfl⟩
  have hP : va_P D vwCl (sgw 52 h (eX ca h) f L Q) H := by rw [hH]; exact hP
  have hS : va_S (sgA 52 h s.heap.size) s.heap H locs := by rw [hH, hlo]; exact hS
  suffices hgo : W p l e ({ frames := 3, cells := 0, slots := 0, locals := 74 }) s m ([.ref (h 36), .int 7, .int 0, .int x2, .int 3] : List Value).toArray below meth cd H locs 0 0 Qz (F0 m 0 ls []) by rw [hH, hlo] at hgo; exact hgo
  clear hH hlo
  obtain ⟨sp, hsp⟩ : ∃ z : Int32 × sg_F, z = sX3_does_7_0_3_f12_f7 x2 f L := ⟨_, rfl⟩
  have hs : sp = sX3_does_7_0_3_f12_f7 x2 f L := hsp
  have o_1 : (f 36 3).toInt = 12 := (congrArg Int32.toInt (show f 36 3 = 12 from hf_36_3)).trans (by decide)
  have hF : sgK WkX3_does_7_0_3_f12_f7 f f := sgK.rf
  have blk_53 : ∀ (fp_53 : sg_F) (H : Heap) (locs : List Loc) (ls : Array Slot), sp = sX3_does_7_0_3_f12_f7_b53 x2 fp_53 L → 12 ≤ (fp_53 36 3).toInt ∧ (fp_53 36 3).toInt ≤ 12 → 7 ≤ (fp_53 36 4).toInt ∧ (fp_53 36 4).toInt ≤ 7 → sgI loX hiX fp_53 → sgK WkX3_does_7_0_3_f12_f7 f fp_53 → va_P D vwCl (sgw 52 h (eX ca h) fp_53 L Q) H → va_S (sgA 52 h s.heap.size) s.heap H locs → lv_has ls 7 [(0, .ref (h 36)), (3, .int x2), (4, .int 3), (5, .int 1), (6, .int 20)] → W p l e ({ frames := 3, cells := 0, slots := 0, locals := 74 }) s m ([.ref (h 36), .int 7, .int 0, .int x2, .int 3] : List Value).toArray below meth cd H locs 0 0 Qz (F0 m 53 ls []) := by
    intro fp_53 H locs ls hs hy0_53 hy1_53 hI hF hP hS hl
    obtain ⟨v_2, ev_2⟩ : ∃ z : Int32, z = fp_53 36 3 := ⟨_, rfl⟩
    have q_3 : 0 ≤ v_2.toInt ∧ v_2.toInt ≤ 19 := by rw [ev_2]; exact hI 36 3
    have q_4 : (fp_53 36 3).toInt = v_2.toInt := by rw [ev_2]
    obtain ⟨v_5, ev_5⟩ : ∃ z : Int32, z = fp_53 36 4 := ⟨_, rfl⟩
    have q_6 : 0 ≤ v_5.toInt ∧ v_5.toInt ≤ 7 := by rw [ev_5]; exact hI 36 4
    have q_7 : (fp_53 36 4).toInt = v_5.toInt := by rw [ev_5]
    have m_8 : fp_53 36 4 = 7 := (hF 36 4 (by decide)).trans hf_36_4
    refine lv_aload_n hx hb dX3_does_53 rfl (lv_at hl 0 rfl) ?_
    refine lv_dup hx hb dX3_does_54 rfl ?_
    refine sl_gX_36_3_3 (v := v_2) hx hb hts hown hK hP (show fp_53 36 3 = v_2 from ev_2.symm) dX3_does_55 ?_
    refine lv_iconst (v := 1) hx hb dX3_does_58 ic_1 ?_
    refine lv_iadd hx hb dX3_does_59 ?_
    refine lv_topi (fun v_9 ev_9 => ?_)
    have q_10 : v_9.toInt = v_2.toInt + 1 := by rw [ev_9]; first | exact cm_add ti_1 (by omega) (by omega) | (have k1 : (1 : Int32).toInt = 1 := ti_1; exact (bn_addI (by omega) (by omega)).trans (by omega))
    refine sl_pX_36_3_3 (x := v_9) hx hb hts hown hh hA hK hP hS dX3_does_60 (fun f_11 H locs ef_11 hP hS => ?_)
    have hI : sgI loX hiX f_11 := by rw [ef_11]; exact sgI.put hI 36 3 (show 0 ≤ (v_9 : Int32).toInt ∧ (v_9 : Int32).toInt ≤ 19 from ⟨by omega, by omega⟩)
    have hF : sgK WkX3_does_7_0_3_f12_f7 f f_11 := sgK.put hF ef_11 (by rfl)
    refine lv_aload_n hx hb dX3_does_63 rfl (lv_at hl 0 rfl) ?_
    refine lv_iload hx hb dX3_does_64 (lv_at hl 4 rfl) ?_
    refine sg_gets hx hb hZ 2 rfl hS hown (hts _ (List.mem_cons_of_mem _ mw_174)) (fun _ h9 => h9) dX3_does_66 ?_
    refine lv_iload hx hb dX3_does_69 (lv_at hl 3 rfl) ?_
    refine sg_sald hx hb hZ 2 rfl hS (y := 1) (N := 8) (vp_in_iff.mpr (by decide)) dX3_does_71 ?_
    refine W.eq (g2 := F0 m 72 ls [.int 0, .int 20, .ref (h 36)]) (by rfl) ?_
    refine lv_iload_n hx hb dX3_does_72 rfl (lv_at hl 1 rfl) ?_
    refine lv_iload hx hb dX3_does_73 (lv_at hl 2 rfl) ?_
    refine lv_iconst (v := 1) hx hb dX3_does_75 ic_1 ?_
    refine lv_iadd hx hb dX3_does_76 ?_
    refine W.eq (g2 := F0 m 77 ls [.int 4, .int x2, .int 0, .int 20, .ref (h 36)]) (by rw [show (3 + 1 : Int32) = 4 from by decide]) ?_
    have c_12 : v_9 = 13 := Int32.toInt_inj.mp (by have k9 : (13 : Int32).toInt = 13 := ti_13; omega)
    have q_13 : (f_11 36 3).toInt = 13 := (congrArg Int32.toInt (show f_11 36 3 = 13 from (Eq.trans (by rw [ef_11, sg_up_s, sgu_s]) c_12))).trans (by decide)
    refine sg_calli (va_runV (As := [.int 20, .int 0, .int x2, .int 4]) (rest := []) ⟨hx, hb, hml, hown, hts⟩ (kX3_runs_20_0_4_f13_f7 l D ca za h hh f_11 L Q hI x2 (Eq.trans (by rw [ef_11, sg_up_s, sgu_s]) c_12) (by rw [ef_11, sg_up_s, sgu_n (by decide)]; exact m_8) b2 (by have k0 : (20 : Int32).toInt = 20 := ti_20; have k1 : (0 : Int32).toInt = 0 := ti_0; have k3 : (4 : Int32).toInt = 4 := ti_4; omega) H.size) (sl_c3_runs_2_0_0_50_3 hts ⟨Nat.le_of_ble_eq_true rfl, Nat.le_of_ble_eq_true rfl⟩) (sl_vX_36 hA hK hP hS hZ) rfl rfl hl.1 rfl (lv_room (Nat.le_of_ble_eq_true rfl)) dX3_does_77 ⟨Nat.le_refl _, Nat.le_refl _⟩) hA hS (fun r_18 f_15 L_16 Q_17 H locs hq hP hS => ?_)
    obtain ⟨⟨hI, hk_f_15, eL9, eQ9⟩, hq, p_19, u_20⟩ := hq
    rw [eL9, eQ9] at hP; clear eL9 eQ9
    have hF : sgK WkX3_does_7_0_3_f12_f7 f f_15 := sgK.tr hF hk_f_15 (by decide +kernel)
    obtain ⟨v_21, ev_21⟩ : ∃ z : Int32, z = f_15 36 3 := ⟨_, rfl⟩
    have q_22 : 0 ≤ v_21.toInt ∧ v_21.toInt ≤ 19 := by rw [ev_21]; exact hI 36 3
    have q_23 : (f_15 36 3).toInt = v_21.toInt := (congrArg Int32.toInt (show f_15 36 3 = v_21 from ev_21.symm))
    have k_25 : (20 : Int32).toInt = 20 := by decide
    have k_26 : (0 : Int32).toInt = 0 := by decide
    have k_27 : (4 : Int32).toInt = 4 := by decide
    exact hret _ _ _ _ (r_18) f_15 L Q dX3_does_80 hP hS ⟨⟨hI, hF, rfl, rfl⟩, ⟨by omega, by omega⟩, ⟨by omega, by omega⟩, (Eq.trans (Eq.symm (hs.trans ((spl_e ev_2 (spl_e ev_5 (spl_e ev_9 (spl_e ef_11 (spl2_e u_20 (spl_e ev_21 rfl))))))))) hsp)⟩
  refine lv_iload_n hx hb dX3_does_0 rfl (lv_at hl 1 rfl) ?_
  refine lv_iload_n hx hb dX3_does_1 rfl (lv_at hl 2 rfl) ?_
  refine sg_calli (va_runS (As := [.int 7, .int 0]) (rest := []) ⟨hx, hb, hml, hown, hts⟩ (kX3_ownerOf_7_0 l D ca za h hh f L Q hI H.size) (va_cwS 2 hts (gw_S (fun _ h => List.mem_cons_of_mem _ h) mw_189 mw_190 mw_47 mw_188) rfl rfl rfl hd_yX3_ownerOf.2 ⟨Nat.le_of_ble_eq_true rfl, Nat.le_of_ble_eq_true rfl⟩) (sg_preS hA hK hP hS hZ) rfl rfl hl.1 rfl (lv_room (Nat.le_of_ble_eq_true rfl)) dX3_does_2 ⟨Nat.le_refl _, Nat.le_refl _⟩) hA hS (fun r_33 f_30 L_31 Q_32 H locs hq hP hS => ?_)
  obtain ⟨⟨ef9, eL9, eQ9⟩, hq, u_34⟩ := hq
  rw [ef9, eL9, eQ9] at hP; clear ef9 eL9 eQ9
  obtain rfl : r_33 = 1 := Int32.toInt_inj.mp (by have k9 : (1 : Int32).toInt = 1 := ti_1; omega)
  refine lv_istore (lv' := [(5, .int 1), (0, .ref (h 36)), (1, .int 7), (2, .int 0), (3, .int x2), (4, .int 3)]) hx hb dX3_does_5 hl (by decide) rfl (fun ls hl => ?_)
  refine lv_iload hx hb dX3_does_7 (lv_at hl 0 rfl) ?_
  refine lv_if_lt (tgt := 19) hx hb dX3_does_9 (by decide) (fun c => absurd c (by decide)) (fun c => ?_)
  refine lv_iload hx hb dX3_does_12 (lv_at hl 5 rfl) ?_
  refine lv_bipush (v := 40) hx hb dX3_does_14 bp_40 ?_
  refine lv_icmp_le (tgt := 21) hx hb dX3_does_16 (by decide) (fun c => ?_) (fun c => absurd c (by decide))
  refine sg_gets hx hb hZ 3 rfl hS hown (hts _ (List.mem_cons_of_mem _ mw_173)) (fun _ h9 => h9) dX3_does_21 ?_
  refine lv_iload hx hb dX3_does_24 (lv_at hl 0 rfl) ?_
  refine lv_iconst (v := 4) hx hb dX3_does_26 ic_4 ?_
  refine lv_imul hx hb dX3_does_27 ?_
  refine W.eq (g2 := F0 m 28 ls [.int 4, .ref (za 3)]) (by rw [show (1 * 4 : Int32) = 4 from by decide]) ?_
  refine lv_iload_n hx hb dX3_does_28 rfl (lv_at hl 3 rfl) ?_
  refine lv_iadd hx hb dX3_does_29 ?_
  refine W.eq (g2 := F0 m 30 ls [.int 4, .ref (za 3)]) (by rw [show (4 + 0 : Int32) = 4 from by decide]) ?_
  refine sg_sald hx hb hZ 3 rfl hS (y := 4) (N := 32) (vp_in_iff.mpr (by decide)) dX3_does_30 ?_
  refine W.eq (g2 := F0 m 31 ls [.int 20]) (by rfl) ?_
  refine lv_istore (lv' := [(6, .int 20), (5, .int 1), (0, .ref (h 36)), (1, .int 7), (2, .int 0), (3, .int x2), (4, .int 3)]) hx hb dX3_does_31 hl (by decide) rfl (fun ls hl => ?_)
  refine lv_aload_n hx hb dX3_does_33 rfl (lv_at hl 2 rfl) ?_
  refine sl_gX_36_3_3 (v := 12) hx hb hts hown hK hP (show f 36 3 = 12 from hf_36_3) dX3_does_34 ?_
  refine lv_bipush (v := 24) hx hb dX3_does_37 bp_24 ?_
  refine lv_icmp_ge (tgt := 53) hx hb dX3_does_39 (by decide) (fun c => absurd c (by decide)) (fun c => ?_)
  refine lv_aload_n hx hb dX3_does_42 rfl (lv_at hl 2 rfl) ?_
  refine sl_gX_36_1_3 hx hb hts hown hK hP dX3_does_43 ?_
  refine lv_aload_n hx hb dX3_does_46 rfl (lv_at hl 2 rfl) ?_
  refine sl_gX_36_3_3 (v := 12) hx hb hts hown hK hP (show f 36 3 = 12 from hf_36_3) dX3_does_47 ?_
  refine lv_iload hx hb dX3_does_50 (lv_at hl 0 rfl) ?_
  refine sg_iast hx hb hh hA hK hP hS 38 (by decide) 0 (fun _ => rfl) rfl (i := 12) (x := 20) (vp_in_iff.mpr (by decide)) dX3_does_52 (fun f_35 H locs ef_35 hP hS => ?_)
  have ef_35 : f_35 = sg_up f 38 (sgu (f 38) 12 20) := ef_35
  have hI : sgI loX hiX f_35 := by rw [ef_35]; exact sgI.put hI 38 12 (show 0 ≤ (20 : Int32).toInt ∧ (20 : Int32).toInt ≤ 81 from by decide)
  have hF : sgK WkX3_does_7_0_3_f12_f7 f f_35 := sgK.put hF ef_35 (by rfl)
  exact blk_53 f_35 _ _ _ (hs.trans ((spl_e u_34 (spl_e ef_35 rfl)))) (by have zz36_3 : (f_35 36 3).toInt = 12 := (congrArg Int32.toInt (show f_35 36 3 = 12 from (by rw [ef_35, sg_up_n (by decide)]; exact hf_36_3))).trans (by decide); exact ⟨by omega, by omega⟩) (by have zz36_4 : (f_35 36 4).toInt = 7 := (congrArg Int32.toInt (show f_35 36 4 = 7 from (by rw [ef_35, sg_up_n (by decide)]; exact hf_36_4))).trans (by decide); exact ⟨by omega, by omega⟩) hI hF hP hS (lv_sub hl [2, 5, 6, 1, 0] rfl)

abbrev WkX3_runs_50_1_3_f11_f7 : List (Nat × Nat × Option Nat) := [(36, 36, some 3), (38, 38, some 11), (38, 38, some 12), (38, 38, some 13)]
set_option maxHeartbeats 4000000 in
set_option maxRecDepth 100000 in
theorem kX3_runs_50_1_3_f11_f7 (l : Launch) (D : va_G) (ca : Nat → ClassId) (za h : Nat → Nat) (hh : sgH 52 h) (f : sg_F) (L : sg_L) (Q : sg_Q) (hI : sgI loX hiX f) (x2 : Int32) (hf_36_3 : f 36 3 = 11) (hf_36_4 : f 36 4 = 7) (b2 : 1 ≤ x2.toInt ∧ x2.toInt ≤ 1) (p0 : 11 ≤ (f 36 3).toInt ∧ (f 36 3).toInt ≤ 11) (sz : Nat) : Met l yX3_runs gwX3_runs { frames := 4, cells := 0, slots := 0, locals := 100 } (sgP D vwCl (tyX ca) 52 h (eX ca h) zcX za f L Q sz [.ref (h 36), .int 50, .int 1, .int x2, .int 3]) (sgQi D vwCl 52 h (eX ca h) sz (fun r f1 L1 Q1 => ((sgI loX hiX f1 ∧ sgK WkX3_runs_50_1_3_f11_f7 f f1 ∧ L1 = L ∧ Q1 = Q) ∧ True ∧ (14 ≤ (f1 36 3).toInt ∧ (f1 36 3).toInt ≤ 14) ∧ (r, f1) = sX3_runs_50_1_3_f11_f7 x2 f L))) 0 0 (sgA 52 h sz) := by
  refine sg_ofWi (cc := cX3_runs) (maxL := 5) RX3 (by decide) rfl rfl (Nat.le_of_ble_eq_true rfl) ?_
  intro p e s m below meth cd Qz ls hx hb hml hown hts hK hZ hP hS hl hret
  have hA := sgY.self (n := 52) (h := h) (sz := s.heap.size)
  have hl : lv_has ls 5 [(0, .ref (h 36)), (1, .int 50), (2, .int 1), (3, .int x2), (4, .int 3)] := hl
  obtain ⟨H, hH⟩ : ∃ z : Heap, z = s.heap := ⟨_, rfl⟩
  obtain ⟨locs, hlo⟩ : ∃ z : List Loc, z = [] := ⟨_, rfl⟩
  have hP : va_P D vwCl (sgw 52 h (eX ca h) f L Q) H := by rw [hH]; exact hP
  have hS : va_S (sgA 52 h s.heap.size) s.heap H locs := by rw [hH, hlo]; exact hS
  suffices hgo : W p l e ({ frames := 4, cells := 0, slots := 0, locals := 100 }) s m ([.ref (h 36), .int 50, .int 1, .int x2, .int 3] : List Value).toArray below meth cd H locs 0 0 Qz (F0 m 0 ls []) by rw [hH, hlo] at hgo; exact hgo
  clear hH hlo
  obtain ⟨sp, hsp⟩ : ∃ z : Int32 × sg_F, z = sX3_runs_50_1_3_f11_f7 x2 f L := ⟨_, rfl⟩
  have hs : sp = sX3_runs_50_1_3_f11_f7 x2 f L := hsp
  have o_1 : (f 36 3).toInt = 11 := (congrArg Int32.toInt (show f 36 3 = 11 from hf_36_3)).trans (by decide)
  have hF : sgK WkX3_runs_50_1_3_f11_f7 f f := sgK.rf
  refine lv_iload_n hx hb dX3_runs_0 rfl (lv_at hl 1 rfl) ?_
  refine lv_lookup (x := 50) (off := 217) (tgt := 218) hx hb dX3_runs_1 (by decide) (by decide) (by decide) ?_
  refine lv_aload_n hx hb dX3_runs_218 rfl (lv_at hl 0 rfl) ?_
  refine lv_iload_n hx hb dX3_runs_219 rfl (lv_at hl 2 rfl) ?_
  refine lv_iconst (v := 2) hx hb dX3_runs_220 ic_2 ?_
  refine lv_iload_n hx hb dX3_runs_221 rfl (lv_at hl 3 rfl) ?_
  refine lv_iload hx hb dX3_runs_222 (lv_at hl 4 rfl) ?_
  have q_2 : (f 36 3).toInt = 11 := (congrArg Int32.toInt (show f 36 3 = 11 from hf_36_3)).trans (by decide)
  refine sg_calli (va_runV (As := [.int 1, .int 2, .int x2, .int 3]) (rest := []) ⟨hx, hb, hml, hown, hts⟩ (kX3_does_1_2_3_f11_f7 l D ca za h hh f L Q hI x2 hf_36_3 hf_36_4 b2 (by have k0 : (1 : Int32).toInt = 1 := ti_1; have k1 : (2 : Int32).toInt = 2 := ti_2; have k3 : (3 : Int32).toInt = 3 := ti_3; omega) H.size) (sl_c3_does_1_0_0_24_3 hts ⟨Nat.le_of_ble_eq_true rfl, Nat.le_of_ble_eq_true rfl⟩) (sl_vX_36 hA hK hP hS hZ) rfl rfl hl.1 rfl (lv_room (Nat.le_of_ble_eq_true rfl)) dX3_runs_224 ⟨Nat.le_refl _, Nat.le_refl _⟩) hA hS (fun r_7 f_4 L_5 Q_6 H locs hq hP hS => ?_)
  obtain ⟨⟨hI, hk_f_4, eL9, eQ9⟩, hq, p_8, u_9⟩ := hq
  rw [eL9, eQ9] at hP; clear eL9 eQ9
  have hF : sgK WkX3_runs_50_1_3_f11_f7 f f_4 := sgK.tr hF hk_f_4 (by decide +kernel)
  obtain ⟨v_10, ev_10⟩ : ∃ z : Int32, z = f_4 36 3 := ⟨_, rfl⟩
  have q_11 : 0 ≤ v_10.toInt ∧ v_10.toInt ≤ 19 := by rw [ev_10]; exact hI 36 3
  have q_12 : (f_4 36 3).toInt = v_10.toInt := (congrArg Int32.toInt (show f_4 36 3 = v_10 from ev_10.symm))
  have k_14 : (1 : Int32).toInt = 1 := by decide
  have k_15 : (2 : Int32).toInt = 2 := by decide
  have k_16 : (3 : Int32).toInt = 3 := by decide
  refine lv_aload_n hx hb dX3_runs_227 rfl (lv_at hl 0 rfl) ?_
  refine lv_aload_n hx hb dX3_runs_228 rfl (lv_at hl 0 rfl) ?_
  refine sl_gX_36_4_3 (v := 7) hx hb hts hown hK hP (show f_4 36 4 = 7 from ((hk_f_4 36 4 (by decide)).trans hf_36_4)) dX3_runs_229 ?_
  refine lv_iconst (v := 0) hx hb dX3_runs_232 ic_0 ?_
  refine lv_iconst (v := 2) hx hb dX3_runs_233 ic_2 ?_
  refine lv_iload hx hb dX3_runs_234 (lv_at hl 4 rfl) ?_
  have c_17 : v_10 = 12 := Int32.toInt_inj.mp (by have k9 : (12 : Int32).toInt = 12 := ti_12; omega)
  have q_18 : (f_4 36 3).toInt = 12 := (congrArg Int32.toInt (show f_4 36 3 = 12 from (Eq.trans ev_10.symm c_17))).trans (by decide)
  refine sg_calli (va_runV (As := [.int 7, .int 0, .int 2, .int 3]) (rest := [.int r_7]) ⟨hx, hb, hml, hown, hts⟩ (kX3_does_7_0_3_f12_f7 l D ca za h hh f_4 L Q hI 2 (Eq.trans ev_10.symm c_17) ((hk_f_4 36 4 (by decide)).trans hf_36_4) (by decide) (by have k0 : (7 : Int32).toInt = 7 := ti_7; have k1 : (0 : Int32).toInt = 0 := ti_0; have k2 : (2 : Int32).toInt = 2 := ti_2; have k3 : (3 : Int32).toInt = 3 := ti_3; omega) H.size) (sl_c3_does_3_0_0_74_3 hts ⟨Nat.le_of_ble_eq_true rfl, Nat.le_of_ble_eq_true rfl⟩) (sl_vX_36 hA hK hP hS hZ) rfl rfl hl.1 rfl (lv_room (Nat.le_of_ble_eq_true rfl)) dX3_runs_236 ⟨Nat.le_refl _, Nat.le_refl _⟩) hA hS (fun r_23 f_20 L_21 Q_22 H locs hq hP hS => ?_)
  obtain ⟨⟨hI, hk_f_20, eL9, eQ9⟩, hq, p_24, u_25⟩ := hq
  rw [eL9, eQ9] at hP; clear eL9 eQ9
  have hF : sgK WkX3_runs_50_1_3_f11_f7 f f_20 := sgK.tr hF hk_f_20 (by decide +kernel)
  obtain ⟨v_26, ev_26⟩ : ∃ z : Int32, z = f_20 36 3 := ⟨_, rfl⟩
  have q_27 : 0 ≤ v_26.toInt ∧ v_26.toInt ≤ 19 := by rw [ev_26]; exact hI 36 3
  have q_28 : (f_20 36 3).toInt = v_26.toInt := (congrArg Int32.toInt (show f_20 36 3 = v_26 from ev_26.symm))
  have k_30 : (7 : Int32).toInt = 7 := by decide
  have k_31 : (0 : Int32).toInt = 0 := by decide
  have k_32 : (2 : Int32).toInt = 2 := by decide
  have k_33 : (3 : Int32).toInt = 3 := by decide
  refine lv_isub hx hb dX3_runs_239 ?_
  refine lv_topi (fun v_34 ev_34 => ?_)
  exact hret _ _ _ _ (v_34) f_20 L Q dX3_runs_240 hP hS ⟨⟨hI, hF, rfl, rfl⟩, trivial, ⟨by omega, by omega⟩, (Eq.trans (Eq.symm (hs.trans ((spl2_e u_9 (spl_e ev_10 (spl2_e u_25 (spl_e ev_26 (spl_e ev_34 rfl)))))))) hsp)⟩

abbrev WkX3_does_7_2_2_f10_f7 : List (Nat × Nat × Option Nat) := [(36, 36, some 3), (38, 38, some 10), (38, 38, some 11), (38, 38, some 12), (38, 38, some 13)]
set_option maxHeartbeats 4000000 in
set_option maxRecDepth 100000 in
theorem kX3_does_7_2_2_f10_f7 (l : Launch) (D : va_G) (ca : Nat → ClassId) (za h : Nat → Nat) (hh : sgH 52 h) (f : sg_F) (L : sg_L) (Q : sg_Q) (hI : sgI loX hiX f) (x2 : Int32) (hf_36_3 : f 36 3 = 10) (hf_36_4 : f 36 4 = 7) (b2 : 1 ≤ x2.toInt ∧ x2.toInt ≤ 1) (p0 : 10 ≤ (f 36 3).toInt ∧ (f 36 3).toInt ≤ 10) (sz : Nat) : Met l yX3_does gwX3_does { frames := 5, cells := 0, slots := 0, locals := 124 } (sgP D vwCl (tyX ca) 52 h (eX ca h) zcX za f L Q sz [.ref (h 36), .int 7, .int 2, .int x2, .int 2]) (sgQi D vwCl 52 h (eX ca h) sz (fun r f1 L1 Q1 => ((sgI loX hiX f1 ∧ sgK WkX3_does_7_2_2_f10_f7 f f1 ∧ L1 = L ∧ Q1 = Q) ∧ True ∧ (14 ≤ (f1 36 3).toInt ∧ (f1 36 3).toInt ≤ 14) ∧ (r, f1) = sX3_does_7_2_2_f10_f7 x2 f L))) 0 0 (sgA 52 h sz) := by
  refine sg_ofWi (cc := cX3_does) (maxL := 7) RX3 (by decide) rfl rfl (Nat.le_of_ble_eq_true rfl) ?_
  intro p e s m below meth cd Qz ls hx hb hml hown hts hK hZ hP hS hl hret
  have hA := sgY.self (n := 52) (h := h) (sz := s.heap.size)
  have hl : lv_has ls 7 [(0, .ref (h 36)), (1, .int 7), (2, .int 2), (3, .int x2), (4, .int 2)] := hl
  obtain ⟨H, hH⟩ : ∃ z : Heap, z = s.heap := ⟨_, rfl⟩
  obtain ⟨locs, hlo⟩ : ∃ z : List Loc, z = [] := ⟨_, rfl⟩
  have hP : va_P D vwCl (sgw 52 h (eX ca h) f L Q) H := by rw [hH]; exact hP
  have hS : va_S (sgA 52 h s.heap.size) s.heap H locs := by rw [hH, hlo]; exact hS
  suffices hgo : W p l e ({ frames := 5, cells := 0, slots := 0, locals := 124 }) s m ([.ref (h 36), .int 7, .int 2, .int x2, .int 2] : List Value).toArray below meth cd H locs 0 0 Qz (F0 m 0 ls []) by rw [hH, hlo] at hgo; exact hgo
  clear hH hlo
  obtain ⟨sp, hsp⟩ : ∃ z : Int32 × sg_F, z = sX3_does_7_2_2_f10_f7 x2 f L := ⟨_, rfl⟩
  have hs : sp = sX3_does_7_2_2_f10_f7 x2 f L := hsp
  have o_1 : (f 36 3).toInt = 10 := (congrArg Int32.toInt (show f 36 3 = 10 from hf_36_3)).trans (by decide)
  have hF : sgK WkX3_does_7_2_2_f10_f7 f f := sgK.rf
  have blk_53 : ∀ (fp_53 : sg_F) (H : Heap) (locs : List Loc) (ls : Array Slot), sp = sX3_does_7_2_2_f10_f7_b53 x2 fp_53 L → 10 ≤ (fp_53 36 3).toInt ∧ (fp_53 36 3).toInt ≤ 10 → 7 ≤ (fp_53 36 4).toInt ∧ (fp_53 36 4).toInt ≤ 7 → sgI loX hiX fp_53 → sgK WkX3_does_7_2_2_f10_f7 f fp_53 → va_P D vwCl (sgw 52 h (eX ca h) fp_53 L Q) H → va_S (sgA 52 h s.heap.size) s.heap H locs → lv_has ls 7 [(0, .ref (h 36)), (3, .int x2), (4, .int 2), (5, .int 4), (6, .int 50)] → W p l e ({ frames := 5, cells := 0, slots := 0, locals := 124 }) s m ([.ref (h 36), .int 7, .int 2, .int x2, .int 2] : List Value).toArray below meth cd H locs 0 0 Qz (F0 m 53 ls []) := by
    intro fp_53 H locs ls hs hy0_53 hy1_53 hI hF hP hS hl
    obtain ⟨v_2, ev_2⟩ : ∃ z : Int32, z = fp_53 36 3 := ⟨_, rfl⟩
    have q_3 : 0 ≤ v_2.toInt ∧ v_2.toInt ≤ 19 := by rw [ev_2]; exact hI 36 3
    have q_4 : (fp_53 36 3).toInt = v_2.toInt := by rw [ev_2]
    obtain ⟨v_5, ev_5⟩ : ∃ z : Int32, z = fp_53 36 4 := ⟨_, rfl⟩
    have q_6 : 0 ≤ v_5.toInt ∧ v_5.toInt ≤ 7 := by rw [ev_5]; exact hI 36 4
    have q_7 : (fp_53 36 4).toInt = v_5.toInt := by rw [ev_5]
    have m_8 : fp_53 36 4 = 7 := (hF 36 4 (by decide)).trans hf_36_4
    refine lv_aload_n hx hb dX3_does_53 rfl (lv_at hl 0 rfl) ?_
    refine lv_dup hx hb dX3_does_54 rfl ?_
    refine sl_gX_36_3_3 (v := v_2) hx hb hts hown hK hP (show fp_53 36 3 = v_2 from ev_2.symm) dX3_does_55 ?_
    refine lv_iconst (v := 1) hx hb dX3_does_58 ic_1 ?_
    refine lv_iadd hx hb dX3_does_59 ?_
    refine lv_topi (fun v_9 ev_9 => ?_)
    have q_10 : v_9.toInt = v_2.toInt + 1 := by rw [ev_9]; first | exact cm_add ti_1 (by omega) (by omega) | (have k1 : (1 : Int32).toInt = 1 := ti_1; exact (bn_addI (by omega) (by omega)).trans (by omega))
    refine sl_pX_36_3_3 (x := v_9) hx hb hts hown hh hA hK hP hS dX3_does_60 (fun f_11 H locs ef_11 hP hS => ?_)
    have hI : sgI loX hiX f_11 := by rw [ef_11]; exact sgI.put hI 36 3 (show 0 ≤ (v_9 : Int32).toInt ∧ (v_9 : Int32).toInt ≤ 19 from ⟨by omega, by omega⟩)
    have hF : sgK WkX3_does_7_2_2_f10_f7 f f_11 := sgK.put hF ef_11 (by rfl)
    refine lv_aload_n hx hb dX3_does_63 rfl (lv_at hl 0 rfl) ?_
    refine lv_iload hx hb dX3_does_64 (lv_at hl 4 rfl) ?_
    refine sg_gets hx hb hZ 2 rfl hS hown (hts _ (List.mem_cons_of_mem _ mw_174)) (fun _ h9 => h9) dX3_does_66 ?_
    refine lv_iload hx hb dX3_does_69 (lv_at hl 3 rfl) ?_
    refine sg_sald hx hb hZ 2 rfl hS (y := 4) (N := 8) (vp_in_iff.mpr (by decide)) dX3_does_71 ?_
    refine W.eq (g2 := F0 m 72 ls [.int 1, .int 50, .ref (h 36)]) (by rfl) ?_
    refine lv_iload_n hx hb dX3_does_72 rfl (lv_at hl 1 rfl) ?_
    refine lv_iload hx hb dX3_does_73 (lv_at hl 2 rfl) ?_
    refine lv_iconst (v := 1) hx hb dX3_does_75 ic_1 ?_
    refine lv_iadd hx hb dX3_does_76 ?_
    refine W.eq (g2 := F0 m 77 ls [.int 3, .int x2, .int 1, .int 50, .ref (h 36)]) (by rw [show (2 + 1 : Int32) = 3 from by decide]) ?_
    have c_12 : v_9 = 11 := Int32.toInt_inj.mp (by have k9 : (11 : Int32).toInt = 11 := ti_11; omega)
    have q_13 : (f_11 36 3).toInt = 11 := (congrArg Int32.toInt (show f_11 36 3 = 11 from (Eq.trans (by rw [ef_11, sg_up_s, sgu_s]) c_12))).trans (by decide)
    refine sg_calli (va_runV (As := [.int 50, .int 1, .int x2, .int 3]) (rest := []) ⟨hx, hb, hml, hown, hts⟩ (kX3_runs_50_1_3_f11_f7 l D ca za h hh f_11 L Q hI x2 (Eq.trans (by rw [ef_11, sg_up_s, sgu_s]) c_12) (by rw [ef_11, sg_up_s, sgu_n (by decide)]; exact m_8) b2 (by have k0 : (50 : Int32).toInt = 50 := ti_50; have k1 : (1 : Int32).toInt = 1 := ti_1; have k3 : (3 : Int32).toInt = 3 := ti_3; omega) H.size) (sl_c3_runs_4_0_0_100_3 hts ⟨Nat.le_of_ble_eq_true rfl, Nat.le_of_ble_eq_true rfl⟩) (sl_vX_36 hA hK hP hS hZ) rfl rfl hl.1 rfl (lv_room (Nat.le_of_ble_eq_true rfl)) dX3_does_77 ⟨Nat.le_refl _, Nat.le_refl _⟩) hA hS (fun r_18 f_15 L_16 Q_17 H locs hq hP hS => ?_)
    obtain ⟨⟨hI, hk_f_15, eL9, eQ9⟩, hq, p_19, u_20⟩ := hq
    rw [eL9, eQ9] at hP; clear eL9 eQ9
    have hF : sgK WkX3_does_7_2_2_f10_f7 f f_15 := sgK.tr hF hk_f_15 (by decide +kernel)
    obtain ⟨v_21, ev_21⟩ : ∃ z : Int32, z = f_15 36 3 := ⟨_, rfl⟩
    have q_22 : 0 ≤ v_21.toInt ∧ v_21.toInt ≤ 19 := by rw [ev_21]; exact hI 36 3
    have q_23 : (f_15 36 3).toInt = v_21.toInt := (congrArg Int32.toInt (show f_15 36 3 = v_21 from ev_21.symm))
    have k_25 : (50 : Int32).toInt = 50 := by decide
    have k_26 : (1 : Int32).toInt = 1 := by decide
    have k_27 : (3 : Int32).toInt = 3 := by decide
    exact hret _ _ _ _ (r_18) f_15 L Q dX3_does_80 hP hS ⟨⟨hI, hF, rfl, rfl⟩, trivial, ⟨by omega, by omega⟩, (Eq.trans (Eq.symm (hs.trans ((spl_e ev_2 (spl_e ev_5 (spl_e ev_9 (spl_e ef_11 (spl2_e u_20 (spl_e ev_21 rfl))))))))) hsp)⟩
  refine lv_iload_n hx hb dX3_does_0 rfl (lv_at hl 1 rfl) ?_
  refine lv_iload_n hx hb dX3_does_1 rfl (lv_at hl 2 rfl) ?_
  refine sg_calli (va_runS (As := [.int 7, .int 2]) (rest := []) ⟨hx, hb, hml, hown, hts⟩ (kX3_ownerOf_7_2 l D ca za h hh f L Q hI H.size) (va_cwS 2 hts (gw_S (fun _ h => List.mem_cons_of_mem _ h) mw_189 mw_190 mw_47 mw_188) rfl rfl rfl hd_yX3_ownerOf.2 ⟨Nat.le_of_ble_eq_true rfl, Nat.le_of_ble_eq_true rfl⟩) (sg_preS hA hK hP hS hZ) rfl rfl hl.1 rfl (lv_room (Nat.le_of_ble_eq_true rfl)) dX3_does_2 ⟨Nat.le_refl _, Nat.le_refl _⟩) hA hS (fun r_33 f_30 L_31 Q_32 H locs hq hP hS => ?_)
  obtain ⟨⟨ef9, eL9, eQ9⟩, hq, u_34⟩ := hq
  rw [ef9, eL9, eQ9] at hP; clear ef9 eL9 eQ9
  obtain rfl : r_33 = 4 := Int32.toInt_inj.mp (by have k9 : (4 : Int32).toInt = 4 := ti_4; omega)
  refine lv_istore (lv' := [(5, .int 4), (0, .ref (h 36)), (1, .int 7), (2, .int 2), (3, .int x2), (4, .int 2)]) hx hb dX3_does_5 hl (by decide) rfl (fun ls hl => ?_)
  refine lv_iload hx hb dX3_does_7 (lv_at hl 0 rfl) ?_
  refine lv_if_lt (tgt := 19) hx hb dX3_does_9 (by decide) (fun c => absurd c (by decide)) (fun c => ?_)
  refine lv_iload hx hb dX3_does_12 (lv_at hl 5 rfl) ?_
  refine lv_bipush (v := 40) hx hb dX3_does_14 bp_40 ?_
  refine lv_icmp_le (tgt := 21) hx hb dX3_does_16 (by decide) (fun c => ?_) (fun c => absurd c (by decide))
  refine sg_gets hx hb hZ 3 rfl hS hown (hts _ (List.mem_cons_of_mem _ mw_173)) (fun _ h9 => h9) dX3_does_21 ?_
  refine lv_iload hx hb dX3_does_24 (lv_at hl 0 rfl) ?_
  refine lv_iconst (v := 4) hx hb dX3_does_26 ic_4 ?_
  refine lv_imul hx hb dX3_does_27 ?_
  refine W.eq (g2 := F0 m 28 ls [.int 16, .ref (za 3)]) (by rw [show (4 * 4 : Int32) = 16 from by decide]) ?_
  refine lv_iload_n hx hb dX3_does_28 rfl (lv_at hl 3 rfl) ?_
  refine lv_iadd hx hb dX3_does_29 ?_
  refine W.eq (g2 := F0 m 30 ls [.int 18, .ref (za 3)]) (by rw [show (16 + 2 : Int32) = 18 from by decide]) ?_
  refine sg_sald hx hb hZ 3 rfl hS (y := 18) (N := 32) (vp_in_iff.mpr (by decide)) dX3_does_30 ?_
  refine W.eq (g2 := F0 m 31 ls [.int 50]) (by rfl) ?_
  refine lv_istore (lv' := [(6, .int 50), (5, .int 4), (0, .ref (h 36)), (1, .int 7), (2, .int 2), (3, .int x2), (4, .int 2)]) hx hb dX3_does_31 hl (by decide) rfl (fun ls hl => ?_)
  refine lv_aload_n hx hb dX3_does_33 rfl (lv_at hl 2 rfl) ?_
  refine sl_gX_36_3_3 (v := 10) hx hb hts hown hK hP (show f 36 3 = 10 from hf_36_3) dX3_does_34 ?_
  refine lv_bipush (v := 24) hx hb dX3_does_37 bp_24 ?_
  refine lv_icmp_ge (tgt := 53) hx hb dX3_does_39 (by decide) (fun c => absurd c (by decide)) (fun c => ?_)
  refine lv_aload_n hx hb dX3_does_42 rfl (lv_at hl 2 rfl) ?_
  refine sl_gX_36_1_3 hx hb hts hown hK hP dX3_does_43 ?_
  refine lv_aload_n hx hb dX3_does_46 rfl (lv_at hl 2 rfl) ?_
  refine sl_gX_36_3_3 (v := 10) hx hb hts hown hK hP (show f 36 3 = 10 from hf_36_3) dX3_does_47 ?_
  refine lv_iload hx hb dX3_does_50 (lv_at hl 0 rfl) ?_
  refine sg_iast hx hb hh hA hK hP hS 38 (by decide) 0 (fun _ => rfl) rfl (i := 10) (x := 50) (vp_in_iff.mpr (by decide)) dX3_does_52 (fun f_35 H locs ef_35 hP hS => ?_)
  have ef_35 : f_35 = sg_up f 38 (sgu (f 38) 10 50) := ef_35
  have hI : sgI loX hiX f_35 := by rw [ef_35]; exact sgI.put hI 38 10 (show 0 ≤ (50 : Int32).toInt ∧ (50 : Int32).toInt ≤ 81 from by decide)
  have hF : sgK WkX3_does_7_2_2_f10_f7 f f_35 := sgK.put hF ef_35 (by rfl)
  exact blk_53 f_35 _ _ _ (hs.trans ((spl_e u_34 (spl_e ef_35 rfl)))) (by have zz36_3 : (f_35 36 3).toInt = 10 := (congrArg Int32.toInt (show f_35 36 3 = 10 from (by rw [ef_35, sg_up_n (by decide)]; exact hf_36_3))).trans (by decide); exact ⟨by omega, by omega⟩) (by have zz36_4 : (f_35 36 4).toInt = 7 := (congrArg Int32.toInt (show f_35 36 4 = 7 from (by rw [ef_35, sg_up_n (by decide)]; exact hf_36_4))).trans (by decide); exact ⟨by omega, by omega⟩) hI hF hP hS (lv_sub hl [2, 5, 6, 1, 0] rfl)

abbrev WkX3_runs_2_m1_2_f2_f7 : List (Nat × Nat × Option Nat) := [(36, 36, some 3), (38, 38, some 2), (38, 38, some 3), (38, 38, some 4), (38, 38, some 5), (38, 38, some 6), (38, 38, some 7), (38, 38, some 8), (38, 38, some 9), (38, 38, some 10), (38, 38, some 11), (38, 38, some 12), (38, 38, some 13)]
set_option maxHeartbeats 4000000 in
set_option maxRecDepth 100000 in
theorem kX3_runs_2_m1_2_f2_f7 (l : Launch) (D : va_G) (ca : Nat → ClassId) (za h : Nat → Nat) (hh : sgH 52 h) (f : sg_F) (L : sg_L) (Q : sg_Q) (hI : sgI loX hiX f) (x2 : Int32) (hf_36_3 : f 36 3 = 2) (hf_36_4 : f 36 4 = 7) (p0 : 2 ≤ (f 36 3).toInt ∧ (f 36 3).toInt ≤ 2) (sz : Nat) : Met l yX3_runs gwX3_runs { frames := 8, cells := 0, slots := 0, locals := 200 } (sgP D vwCl (tyX ca) 52 h (eX ca h) zcX za f L Q sz [.ref (h 36), .int 2, .int (-1), .int x2, .int 2]) (sgQi D vwCl 52 h (eX ca h) sz (fun r f1 L1 Q1 => ((sgI loX hiX f1 ∧ sgK WkX3_runs_2_m1_2_f2_f7 f f1 ∧ L1 = L ∧ Q1 = Q) ∧ True ∧ (14 ≤ (f1 36 3).toInt ∧ (f1 36 3).toInt ≤ 14) ∧ (r, f1) = sX3_runs_2_m1_2_f2_f7 x2 f L))) 0 0 (sgA 52 h sz) := by
  refine sg_ofWi (cc := cX3_runs) (maxL := 5) RX3 (by decide) rfl rfl (Nat.le_of_ble_eq_true rfl) ?_
  intro p e s m below meth cd Qz ls hx hb hml hown hts hK hZ hP hS hl hret
  have hA := sgY.self (n := 52) (h := h) (sz := s.heap.size)
  have hl : lv_has ls 5 [(0, .ref (h 36)), (1, .int 2), (2, .int (-1)), (3, .int x2), (4, .int 2)] := hl
  obtain ⟨H, hH⟩ : ∃ z : Heap, z = s.heap := ⟨_, rfl⟩
  obtain ⟨locs, hlo⟩ : ∃ z : List Loc, z = [] := ⟨_, rfl⟩
  have hP : va_P D vwCl (sgw 52 h (eX ca h) f L Q) H := by rw [hH]; exact hP
  have hS : va_S (sgA 52 h s.heap.size) s.heap H locs := by rw [hH, hlo]; exact hS
  suffices hgo : W p l e ({ frames := 8, cells := 0, slots := 0, locals := 200 }) s m ([.ref (h 36), .int 2, .int (-1), .int x2, .int 2] : List Value).toArray below meth cd H locs 0 0 Qz (F0 m 0 ls []) by rw [hH, hlo] at hgo; exact hgo
  clear hH hlo
  obtain ⟨sp, hsp⟩ : ∃ z : Int32 × sg_F, z = sX3_runs_2_m1_2_f2_f7 x2 f L := ⟨_, rfl⟩
  have hs : sp = sX3_runs_2_m1_2_f2_f7 x2 f L := hsp
  have o_1 : (f 36 3).toInt = 2 := (congrArg Int32.toInt (show f 36 3 = 2 from hf_36_3)).trans (by decide)
  have hF : sgK WkX3_runs_2_m1_2_f2_f7 f f := sgK.rf
  refine lv_iload_n hx hb dX3_runs_0 rfl (lv_at hl 1 rfl) ?_
  refine lv_lookup (x := 2) (off := 122) (tgt := 123) hx hb dX3_runs_1 (by decide) (by decide) (by decide) ?_
  refine lv_aload_n hx hb dX3_runs_123 rfl (lv_at hl 0 rfl) ?_
  refine lv_aload_n hx hb dX3_runs_124 rfl (lv_at hl 0 rfl) ?_
  refine sl_gX_36_4_3 (v := 7) hx hb hts hown hK hP (show f 36 4 = 7 from hf_36_4) dX3_runs_125 ?_
  refine lv_iconst (v := 1) hx hb dX3_runs_128 ic_1 ?_
  refine lv_iload_n hx hb dX3_runs_129 rfl (lv_at hl 3 rfl) ?_
  refine lv_iload hx hb dX3_runs_130 (lv_at hl 4 rfl) ?_
  have q_2 : (f 36 3).toInt = 2 := (congrArg Int32.toInt (show f 36 3 = 2 from hf_36_3)).trans (by decide)
  refine sg_calli (va_runV (As := [.int 7, .int 1, .int x2, .int 2]) (rest := []) ⟨hx, hb, hml, hown, hts⟩ (kX3_does_7_1_2_f2_f7 l D ca za h hh f L Q hI x2 hf_36_3 hf_36_4 (by have k0 : (7 : Int32).toInt = 7 := ti_7; have k1 : (1 : Int32).toInt = 1 := ti_1; have k3 : (2 : Int32).toInt = 2 := ti_2; omega) H.size) (sl_c3_does_7_0_0_174_3 hts ⟨Nat.le_of_ble_eq_true rfl, Nat.le_of_ble_eq_true rfl⟩) (sl_vX_36 hA hK hP hS hZ) rfl rfl hl.1 rfl (lv_room (Nat.le_of_ble_eq_true rfl)) dX3_runs_132 ⟨Nat.le_refl _, Nat.le_refl _⟩) hA hS (fun r_7 f_4 L_5 Q_6 H locs hq hP hS => ?_)
  obtain ⟨⟨hI, hk_f_4, eL9, eQ9⟩, hq, p_8, u_9⟩ := hq
  rw [eL9, eQ9] at hP; clear eL9 eQ9
  have hF : sgK WkX3_runs_2_m1_2_f2_f7 f f_4 := sgK.tr hF hk_f_4 (by decide +kernel)
  obtain ⟨v_10, ev_10⟩ : ∃ z : Int32, z = f_4 36 3 := ⟨_, rfl⟩
  have q_11 : 0 ≤ v_10.toInt ∧ v_10.toInt ≤ 19 := by rw [ev_10]; exact hI 36 3
  have q_12 : (f_4 36 3).toInt = v_10.toInt := (congrArg Int32.toInt (show f_4 36 3 = v_10 from ev_10.symm))
  have k_14 : (7 : Int32).toInt = 7 := by decide
  have k_15 : (1 : Int32).toInt = 1 := by decide
  have k_16 : (2 : Int32).toInt = 2 := by decide
  refine lv_aload_n hx hb dX3_runs_135 rfl (lv_at hl 0 rfl) ?_
  refine lv_aload_n hx hb dX3_runs_136 rfl (lv_at hl 0 rfl) ?_
  refine sl_gX_36_4_3 (v := 7) hx hb hts hown hK hP (show f_4 36 4 = 7 from ((hk_f_4 36 4 (by decide)).trans hf_36_4)) dX3_runs_137 ?_
  refine lv_iconst (v := 2) hx hb dX3_runs_140 ic_2 ?_
  refine lv_iconst (v := 1) hx hb dX3_runs_141 ic_1 ?_
  refine lv_iload hx hb dX3_runs_142 (lv_at hl 4 rfl) ?_
  have c_17 : v_10 = 10 := Int32.toInt_inj.mp (by have k9 : (10 : Int32).toInt = 10 := ti_10; omega)
  have q_18 : (f_4 36 3).toInt = 10 := (congrArg Int32.toInt (show f_4 36 3 = 10 from (Eq.trans ev_10.symm c_17))).trans (by decide)
  refine sg_calli (va_runV (As := [.int 7, .int 2, .int 1, .int 2]) (rest := [.int r_7]) ⟨hx, hb, hml, hown, hts⟩ (kX3_does_7_2_2_f10_f7 l D ca za h hh f_4 L Q hI 1 (Eq.trans ev_10.symm c_17) ((hk_f_4 36 4 (by decide)).trans hf_36_4) (by decide) (by have k0 : (7 : Int32).toInt = 7 := ti_7; have k1 : (2 : Int32).toInt = 2 := ti_2; have k2 : (1 : Int32).toInt = 1 := ti_1; have k3 : (2 : Int32).toInt = 2 := ti_2; omega) H.size) (sl_c3_does_5_0_0_124_3 hts ⟨Nat.le_of_ble_eq_true rfl, Nat.le_of_ble_eq_true rfl⟩) (sl_vX_36 hA hK hP hS hZ) rfl rfl hl.1 rfl (lv_room (Nat.le_of_ble_eq_true rfl)) dX3_runs_144 ⟨Nat.le_refl _, Nat.le_refl _⟩) hA hS (fun r_23 f_20 L_21 Q_22 H locs hq hP hS => ?_)
  obtain ⟨⟨hI, hk_f_20, eL9, eQ9⟩, hq, p_24, u_25⟩ := hq
  rw [eL9, eQ9] at hP; clear eL9 eQ9
  have hF : sgK WkX3_runs_2_m1_2_f2_f7 f f_20 := sgK.tr hF hk_f_20 (by decide +kernel)
  obtain ⟨v_26, ev_26⟩ : ∃ z : Int32, z = f_20 36 3 := ⟨_, rfl⟩
  have q_27 : 0 ≤ v_26.toInt ∧ v_26.toInt ≤ 19 := by rw [ev_26]; exact hI 36 3
  have q_28 : (f_20 36 3).toInt = v_26.toInt := (congrArg Int32.toInt (show f_20 36 3 = v_26 from ev_26.symm))
  have k_30 : (7 : Int32).toInt = 7 := by decide
  have k_31 : (2 : Int32).toInt = 2 := by decide
  have k_32 : (1 : Int32).toInt = 1 := by decide
  have k_33 : (2 : Int32).toInt = 2 := by decide
  refine lv_isub hx hb dX3_runs_147 ?_
  refine lv_topi (fun v_34 ev_34 => ?_)
  exact hret _ _ _ _ (v_34) f_20 L Q dX3_runs_148 hP hS ⟨⟨hI, hF, rfl, rfl⟩, trivial, ⟨by omega, by omega⟩, (Eq.trans (Eq.symm (hs.trans ((spl2_e u_9 (spl_e ev_10 (spl2_e u_25 (spl_e ev_26 (spl_e ev_34 rfl)))))))) hsp)⟩

abbrev WkX3_does_4_3_1_f1_f7 : List (Nat × Nat × Option Nat) := [(36, 36, some 3), (38, 38, some 1), (38, 38, some 2), (38, 38, some 3), (38, 38, some 4), (38, 38, some 5), (38, 38, some 6), (38, 38, some 7), (38, 38, some 8), (38, 38, some 9), (38, 38, some 10), (38, 38, some 11), (38, 38, some 12), (38, 38, some 13)]
set_option maxHeartbeats 4000000 in
set_option maxRecDepth 100000 in
theorem kX3_does_4_3_1_f1_f7 (l : Launch) (D : va_G) (ca : Nat → ClassId) (za h : Nat → Nat) (hh : sgH 52 h) (f : sg_F) (L : sg_L) (Q : sg_Q) (hI : sgI loX hiX f) (x2 : Int32) (hf_36_3 : f 36 3 = 1) (hf_36_4 : f 36 4 = 7) (p0 : 1 ≤ (f 36 3).toInt ∧ (f 36 3).toInt ≤ 1) (sz : Nat) : Met l yX3_does gwX3_does { frames := 9, cells := 0, slots := 0, locals := 224 } (sgP D vwCl (tyX ca) 52 h (eX ca h) zcX za f L Q sz [.ref (h 36), .int 4, .int 3, .int x2, .int 1]) (sgQi D vwCl 52 h (eX ca h) sz (fun r f1 L1 Q1 => ((sgI loX hiX f1 ∧ sgK WkX3_does_4_3_1_f1_f7 f f1 ∧ L1 = L ∧ Q1 = Q) ∧ True ∧ (14 ≤ (f1 36 3).toInt ∧ (f1 36 3).toInt ≤ 14) ∧ (r, f1) = sX3_does_4_3_1_f1_f7 x2 f L))) 0 0 (sgA 52 h sz) := by
  refine sg_ofWi (cc := cX3_does) (maxL := 7) RX3 (by decide) rfl rfl (Nat.le_of_ble_eq_true rfl) ?_
  intro p e s m below meth cd Qz ls hx hb hml hown hts hK hZ hP hS hl hret
  have hA := sgY.self (n := 52) (h := h) (sz := s.heap.size)
  have hl : lv_has ls 7 [(0, .ref (h 36)), (1, .int 4), (2, .int 3), (3, .int x2), (4, .int 1)] := hl
  obtain ⟨H, hH⟩ : ∃ z : Heap, z = s.heap := ⟨_, rfl⟩
  obtain ⟨locs, hlo⟩ : ∃ z : List Loc, z = [] := ⟨_, rfl⟩
  have hP : va_P D vwCl (sgw 52 h (eX ca h) f L Q) H := by rw [hH]; exact hP
  have hS : va_S (sgA 52 h s.heap.size) s.heap H locs := by rw [hH, hlo]; exact hS
  suffices hgo : W p l e ({ frames := 9, cells := 0, slots := 0, locals := 224 }) s m ([.ref (h 36), .int 4, .int 3, .int x2, .int 1] : List Value).toArray below meth cd H locs 0 0 Qz (F0 m 0 ls []) by rw [hH, hlo] at hgo; exact hgo
  clear hH hlo
  obtain ⟨sp, hsp⟩ : ∃ z : Int32 × sg_F, z = sX3_does_4_3_1_f1_f7 x2 f L := ⟨_, rfl⟩
  have hs : sp = sX3_does_4_3_1_f1_f7 x2 f L := hsp
  have o_1 : (f 36 3).toInt = 1 := (congrArg Int32.toInt (show f 36 3 = 1 from hf_36_3)).trans (by decide)
  have hF : sgK WkX3_does_4_3_1_f1_f7 f f := sgK.rf
  have blk_53 : ∀ (fp_53 : sg_F) (H : Heap) (locs : List Loc) (ls : Array Slot), sp = sX3_does_4_3_1_f1_f7_b53 x2 fp_53 L → 1 ≤ (fp_53 36 3).toInt ∧ (fp_53 36 3).toInt ≤ 1 → 7 ≤ (fp_53 36 4).toInt ∧ (fp_53 36 4).toInt ≤ 7 → sgI loX hiX fp_53 → sgK WkX3_does_4_3_1_f1_f7 f fp_53 → va_P D vwCl (sgw 52 h (eX ca h) fp_53 L Q) H → va_S (sgA 52 h s.heap.size) s.heap H locs → lv_has ls 7 [(0, .ref (h 36)), (3, .int x2), (4, .int 1), (5, .int 0), (6, .int 2)] → W p l e ({ frames := 9, cells := 0, slots := 0, locals := 224 }) s m ([.ref (h 36), .int 4, .int 3, .int x2, .int 1] : List Value).toArray below meth cd H locs 0 0 Qz (F0 m 53 ls []) := by
    intro fp_53 H locs ls hs hy0_53 hy1_53 hI hF hP hS hl
    obtain ⟨v_2, ev_2⟩ : ∃ z : Int32, z = fp_53 36 3 := ⟨_, rfl⟩
    have q_3 : 0 ≤ v_2.toInt ∧ v_2.toInt ≤ 19 := by rw [ev_2]; exact hI 36 3
    have q_4 : (fp_53 36 3).toInt = v_2.toInt := by rw [ev_2]
    obtain ⟨v_5, ev_5⟩ : ∃ z : Int32, z = fp_53 36 4 := ⟨_, rfl⟩
    have q_6 : 0 ≤ v_5.toInt ∧ v_5.toInt ≤ 7 := by rw [ev_5]; exact hI 36 4
    have q_7 : (fp_53 36 4).toInt = v_5.toInt := by rw [ev_5]
    have m_8 : fp_53 36 4 = 7 := (hF 36 4 (by decide)).trans hf_36_4
    refine lv_aload_n hx hb dX3_does_53 rfl (lv_at hl 0 rfl) ?_
    refine lv_dup hx hb dX3_does_54 rfl ?_
    refine sl_gX_36_3_3 (v := v_2) hx hb hts hown hK hP (show fp_53 36 3 = v_2 from ev_2.symm) dX3_does_55 ?_
    refine lv_iconst (v := 1) hx hb dX3_does_58 ic_1 ?_
    refine lv_iadd hx hb dX3_does_59 ?_
    refine lv_topi (fun v_9 ev_9 => ?_)
    have q_10 : v_9.toInt = v_2.toInt + 1 := by rw [ev_9]; first | exact cm_add ti_1 (by omega) (by omega) | (have k1 : (1 : Int32).toInt = 1 := ti_1; exact (bn_addI (by omega) (by omega)).trans (by omega))
    refine sl_pX_36_3_3 (x := v_9) hx hb hts hown hh hA hK hP hS dX3_does_60 (fun f_11 H locs ef_11 hP hS => ?_)
    have hI : sgI loX hiX f_11 := by rw [ef_11]; exact sgI.put hI 36 3 (show 0 ≤ (v_9 : Int32).toInt ∧ (v_9 : Int32).toInt ≤ 19 from ⟨by omega, by omega⟩)
    have hF : sgK WkX3_does_4_3_1_f1_f7 f f_11 := sgK.put hF ef_11 (by rfl)
    refine lv_aload_n hx hb dX3_does_63 rfl (lv_at hl 0 rfl) ?_
    refine lv_iload hx hb dX3_does_64 (lv_at hl 4 rfl) ?_
    refine sg_gets hx hb hZ 2 rfl hS hown (hts _ (List.mem_cons_of_mem _ mw_174)) (fun _ h9 => h9) dX3_does_66 ?_
    refine lv_iload hx hb dX3_does_69 (lv_at hl 3 rfl) ?_
    refine sg_sald hx hb hZ 2 rfl hS (y := 0) (N := 8) (vp_in_iff.mpr (by decide)) dX3_does_71 ?_
    refine W.eq (g2 := F0 m 72 ls [.int (-1), .int 2, .ref (h 36)]) (by rfl) ?_
    refine lv_iload_n hx hb dX3_does_72 rfl (lv_at hl 1 rfl) ?_
    refine lv_iload hx hb dX3_does_73 (lv_at hl 2 rfl) ?_
    refine lv_iconst (v := 1) hx hb dX3_does_75 ic_1 ?_
    refine lv_iadd hx hb dX3_does_76 ?_
    refine W.eq (g2 := F0 m 77 ls [.int 2, .int x2, .int (-1), .int 2, .ref (h 36)]) (by rw [show (1 + 1 : Int32) = 2 from by decide]) ?_
    have c_12 : v_9 = 2 := Int32.toInt_inj.mp (by have k9 : (2 : Int32).toInt = 2 := ti_2; omega)
    have q_13 : (f_11 36 3).toInt = 2 := (congrArg Int32.toInt (show f_11 36 3 = 2 from (Eq.trans (by rw [ef_11, sg_up_s, sgu_s]) c_12))).trans (by decide)
    refine sg_calli (va_runV (As := [.int 2, .int (-1), .int x2, .int 2]) (rest := []) ⟨hx, hb, hml, hown, hts⟩ (kX3_runs_2_m1_2_f2_f7 l D ca za h hh f_11 L Q hI x2 (Eq.trans (by rw [ef_11, sg_up_s, sgu_s]) c_12) (by rw [ef_11, sg_up_s, sgu_n (by decide)]; exact m_8) (by have k0 : (2 : Int32).toInt = 2 := ti_2; have k1 : ((-1) : Int32).toInt = (-1) := ti_m1; have k3 : (2 : Int32).toInt = 2 := ti_2; omega) H.size) (sl_c3_runs_8_0_0_200_3 hts ⟨Nat.le_of_ble_eq_true rfl, Nat.le_of_ble_eq_true rfl⟩) (sl_vX_36 hA hK hP hS hZ) rfl rfl hl.1 rfl (lv_room (Nat.le_of_ble_eq_true rfl)) dX3_does_77 ⟨Nat.le_refl _, Nat.le_refl _⟩) hA hS (fun r_18 f_15 L_16 Q_17 H locs hq hP hS => ?_)
    obtain ⟨⟨hI, hk_f_15, eL9, eQ9⟩, hq, p_19, u_20⟩ := hq
    rw [eL9, eQ9] at hP; clear eL9 eQ9
    have hF : sgK WkX3_does_4_3_1_f1_f7 f f_15 := sgK.tr hF hk_f_15 (by decide +kernel)
    obtain ⟨v_21, ev_21⟩ : ∃ z : Int32, z = f_15 36 3 := ⟨_, rfl⟩
    have q_22 : 0 ≤ v_21.toInt ∧ v_21.toInt ≤ 19 := by rw [ev_21]; exact hI 36 3
    have q_23 : (f_15 36 3).toInt = v_21.toInt := (congrArg Int32.toInt (show f_15 36 3 = v_21 from ev_21.symm))
    have k_25 : (2 : Int32).toInt = 2 := by decide
    have k_26 : ((-1) : Int32).toInt = (-1) := by decide
    have k_27 : (2 : Int32).toInt = 2 := by decide
    exact hret _ _ _ _ (r_18) f_15 L Q dX3_does_80 hP hS ⟨⟨hI, hF, rfl, rfl⟩, trivial, ⟨by omega, by omega⟩, (Eq.trans (Eq.symm (hs.trans ((spl_e ev_2 (spl_e ev_5 (spl_e ev_9 (spl_e ef_11 (spl2_e u_20 (spl_e ev_21 rfl))))))))) hsp)⟩
  refine lv_iload_n hx hb dX3_does_0 rfl (lv_at hl 1 rfl) ?_
  refine lv_iload_n hx hb dX3_does_1 rfl (lv_at hl 2 rfl) ?_
  refine sg_calli (va_runS (As := [.int 4, .int 3]) (rest := []) ⟨hx, hb, hml, hown, hts⟩ (kX3_ownerOf_4_3 l D ca za h hh f L Q hI H.size) (va_cwS 2 hts (gw_S (fun _ h => List.mem_cons_of_mem _ h) mw_189 mw_190 mw_47 mw_188) rfl rfl rfl hd_yX3_ownerOf.2 ⟨Nat.le_of_ble_eq_true rfl, Nat.le_of_ble_eq_true rfl⟩) (sg_preS hA hK hP hS hZ) rfl rfl hl.1 rfl (lv_room (Nat.le_of_ble_eq_true rfl)) dX3_does_2 ⟨Nat.le_refl _, Nat.le_refl _⟩) hA hS (fun r_33 f_30 L_31 Q_32 H locs hq hP hS => ?_)
  obtain ⟨⟨ef9, eL9, eQ9⟩, hq, u_34⟩ := hq
  rw [ef9, eL9, eQ9] at hP; clear ef9 eL9 eQ9
  obtain rfl : r_33 = 0 := Int32.toInt_inj.mp (by have k9 : (0 : Int32).toInt = 0 := ti_0; omega)
  refine lv_istore (lv' := [(5, .int 0), (0, .ref (h 36)), (1, .int 4), (2, .int 3), (3, .int x2), (4, .int 1)]) hx hb dX3_does_5 hl (by decide) rfl (fun ls hl => ?_)
  refine lv_iload hx hb dX3_does_7 (lv_at hl 0 rfl) ?_
  refine lv_if_lt (tgt := 19) hx hb dX3_does_9 (by decide) (fun c => absurd c (by decide)) (fun c => ?_)
  refine lv_iload hx hb dX3_does_12 (lv_at hl 5 rfl) ?_
  refine lv_bipush (v := 40) hx hb dX3_does_14 bp_40 ?_
  refine lv_icmp_le (tgt := 21) hx hb dX3_does_16 (by decide) (fun c => ?_) (fun c => absurd c (by decide))
  refine sg_gets hx hb hZ 3 rfl hS hown (hts _ (List.mem_cons_of_mem _ mw_173)) (fun _ h9 => h9) dX3_does_21 ?_
  refine lv_iload hx hb dX3_does_24 (lv_at hl 0 rfl) ?_
  refine lv_iconst (v := 4) hx hb dX3_does_26 ic_4 ?_
  refine lv_imul hx hb dX3_does_27 ?_
  refine W.eq (g2 := F0 m 28 ls [.int 0, .ref (za 3)]) (by rw [show (0 * 4 : Int32) = 0 from by decide]) ?_
  refine lv_iload_n hx hb dX3_does_28 rfl (lv_at hl 3 rfl) ?_
  refine lv_iadd hx hb dX3_does_29 ?_
  refine W.eq (g2 := F0 m 30 ls [.int 3, .ref (za 3)]) (by rw [show (0 + 3 : Int32) = 3 from by decide]) ?_
  refine sg_sald hx hb hZ 3 rfl hS (y := 3) (N := 32) (vp_in_iff.mpr (by decide)) dX3_does_30 ?_
  refine W.eq (g2 := F0 m 31 ls [.int 2]) (by rfl) ?_
  refine lv_istore (lv' := [(6, .int 2), (5, .int 0), (0, .ref (h 36)), (1, .int 4), (2, .int 3), (3, .int x2), (4, .int 1)]) hx hb dX3_does_31 hl (by decide) rfl (fun ls hl => ?_)
  refine lv_aload_n hx hb dX3_does_33 rfl (lv_at hl 2 rfl) ?_
  refine sl_gX_36_3_3 (v := 1) hx hb hts hown hK hP (show f 36 3 = 1 from hf_36_3) dX3_does_34 ?_
  refine lv_bipush (v := 24) hx hb dX3_does_37 bp_24 ?_
  refine lv_icmp_ge (tgt := 53) hx hb dX3_does_39 (by decide) (fun c => absurd c (by decide)) (fun c => ?_)
  refine lv_aload_n hx hb dX3_does_42 rfl (lv_at hl 2 rfl) ?_
  refine sl_gX_36_1_3 hx hb hts hown hK hP dX3_does_43 ?_
  refine lv_aload_n hx hb dX3_does_46 rfl (lv_at hl 2 rfl) ?_
  refine sl_gX_36_3_3 (v := 1) hx hb hts hown hK hP (show f 36 3 = 1 from hf_36_3) dX3_does_47 ?_
  refine lv_iload hx hb dX3_does_50 (lv_at hl 0 rfl) ?_
  refine sg_iast hx hb hh hA hK hP hS 38 (by decide) 0 (fun _ => rfl) rfl (i := 1) (x := 2) (vp_in_iff.mpr (by decide)) dX3_does_52 (fun f_35 H locs ef_35 hP hS => ?_)
  have ef_35 : f_35 = sg_up f 38 (sgu (f 38) 1 2) := ef_35
  have hI : sgI loX hiX f_35 := by rw [ef_35]; exact sgI.put hI 38 1 (show 0 ≤ (2 : Int32).toInt ∧ (2 : Int32).toInt ≤ 81 from by decide)
  have hF : sgK WkX3_does_4_3_1_f1_f7 f f_35 := sgK.put hF ef_35 (by rfl)
  exact blk_53 f_35 _ _ _ (hs.trans ((spl_e u_34 (spl_e ef_35 rfl)))) (by have zz36_3 : (f_35 36 3).toInt = 1 := (congrArg Int32.toInt (show f_35 36 3 = 1 from (by rw [ef_35, sg_up_n (by decide)]; exact hf_36_3))).trans (by decide); exact ⟨by omega, by omega⟩) (by have zz36_4 : (f_35 36 4).toInt = 7 := (congrArg Int32.toInt (show f_35 36 4 = 7 from (by rw [ef_35, sg_up_n (by decide)]; exact hf_36_4))).trans (by decide); exact ⟨by omega, by omega⟩) hI hF hP hS (lv_sub hl [2, 5, 6, 1, 0] rfl)

abbrev WkX3_runs_81_4_1_f1_f7 : List (Nat × Nat × Option Nat) := [(36, 36, some 3), (38, 38, some 1), (38, 38, some 2), (38, 38, some 3), (38, 38, some 4), (38, 38, some 5), (38, 38, some 6), (38, 38, some 7), (38, 38, some 8), (38, 38, some 9), (38, 38, some 10), (38, 38, some 11), (38, 38, some 12), (38, 38, some 13)]
set_option maxHeartbeats 4000000 in
set_option maxRecDepth 100000 in
theorem kX3_runs_81_4_1_f1_f7 (l : Launch) (D : va_G) (ca : Nat → ClassId) (za h : Nat → Nat) (hh : sgH 52 h) (f : sg_F) (L : sg_L) (Q : sg_Q) (hI : sgI loX hiX f) (x2 : Int32) (hf_36_3 : f 36 3 = 1) (hf_36_4 : f 36 4 = 7) (p0 : 1 ≤ (f 36 3).toInt ∧ (f 36 3).toInt ≤ 1) (sz : Nat) : Met l yX3_runs gwX3_runs { frames := 10, cells := 0, slots := 0, locals := 250 } (sgP D vwCl (tyX ca) 52 h (eX ca h) zcX za f L Q sz [.ref (h 36), .int 81, .int 4, .int x2, .int 1]) (sgQi D vwCl 52 h (eX ca h) sz (fun r f1 L1 Q1 => ((sgI loX hiX f1 ∧ sgK WkX3_runs_81_4_1_f1_f7 f f1 ∧ L1 = L ∧ Q1 = Q) ∧ True ∧ (14 ≤ (f1 36 3).toInt ∧ (f1 36 3).toInt ≤ 14) ∧ (r, f1) = sX3_runs_81_4_1_f1_f7 x2 f L))) 0 0 (sgA 52 h sz) := by
  refine sg_ofWi (cc := cX3_runs) (maxL := 5) RX3 (by decide) rfl rfl (Nat.le_of_ble_eq_true rfl) ?_
  intro p e s m below meth cd Qz ls hx hb hml hown hts hK hZ hP hS hl hret
  have hA := sgY.self (n := 52) (h := h) (sz := s.heap.size)
  have hl : lv_has ls 5 [(0, .ref (h 36)), (1, .int 81), (2, .int 4), (3, .int x2), (4, .int 1)] := hl
  obtain ⟨H, hH⟩ : ∃ z : Heap, z = s.heap := ⟨_, rfl⟩
  obtain ⟨locs, hlo⟩ : ∃ z : List Loc, z = [] := ⟨_, rfl⟩
  have hP : va_P D vwCl (sgw 52 h (eX ca h) f L Q) H := by rw [hH]; exact hP
  have hS : va_S (sgA 52 h s.heap.size) s.heap H locs := by rw [hH, hlo]; exact hS
  suffices hgo : W p l e ({ frames := 10, cells := 0, slots := 0, locals := 250 }) s m ([.ref (h 36), .int 81, .int 4, .int x2, .int 1] : List Value).toArray below meth cd H locs 0 0 Qz (F0 m 0 ls []) by rw [hH, hlo] at hgo; exact hgo
  clear hH hlo
  obtain ⟨sp, hsp⟩ : ∃ z : Int32 × sg_F, z = sX3_runs_81_4_1_f1_f7 x2 f L := ⟨_, rfl⟩
  have hs : sp = sX3_runs_81_4_1_f1_f7 x2 f L := hsp
  have o_1 : (f 36 3).toInt = 1 := (congrArg Int32.toInt (show f 36 3 = 1 from hf_36_3)).trans (by decide)
  have hF : sgK WkX3_runs_81_4_1_f1_f7 f f := sgK.rf
  refine lv_iload_n hx hb dX3_runs_0 rfl (lv_at hl 1 rfl) ?_
  refine lv_lookup (x := 81) (off := 287) (tgt := 288) hx hb dX3_runs_1 (by decide) (by decide) (by decide) ?_
  refine lv_aload_n hx hb dX3_runs_288 rfl (lv_at hl 0 rfl) ?_
  refine lv_iload_n hx hb dX3_runs_289 rfl (lv_at hl 2 rfl) ?_
  refine lv_iconst (v := 3) hx hb dX3_runs_290 ic_3 ?_
  refine lv_iload_n hx hb dX3_runs_291 rfl (lv_at hl 3 rfl) ?_
  refine lv_iload hx hb dX3_runs_292 (lv_at hl 4 rfl) ?_
  have q_2 : (f 36 3).toInt = 1 := (congrArg Int32.toInt (show f 36 3 = 1 from hf_36_3)).trans (by decide)
  refine sg_calli (va_runV (As := [.int 4, .int 3, .int x2, .int 1]) (rest := []) ⟨hx, hb, hml, hown, hts⟩ (kX3_does_4_3_1_f1_f7 l D ca za h hh f L Q hI x2 hf_36_3 hf_36_4 (by have k0 : (4 : Int32).toInt = 4 := ti_4; have k1 : (3 : Int32).toInt = 3 := ti_3; have k3 : (1 : Int32).toInt = 1 := ti_1; omega) H.size) (sl_c3_does_9_0_0_224_3 hts ⟨Nat.le_of_ble_eq_true rfl, Nat.le_of_ble_eq_true rfl⟩) (sl_vX_36 hA hK hP hS hZ) rfl rfl hl.1 rfl (lv_room (Nat.le_of_ble_eq_true rfl)) dX3_runs_294 ⟨Nat.le_refl _, Nat.le_refl _⟩) hA hS (fun r_7 f_4 L_5 Q_6 H locs hq hP hS => ?_)
  obtain ⟨⟨hI, hk_f_4, eL9, eQ9⟩, hq, p_8, u_9⟩ := hq
  rw [eL9, eQ9] at hP; clear eL9 eQ9
  have hF : sgK WkX3_runs_81_4_1_f1_f7 f f_4 := sgK.tr hF hk_f_4 (by decide +kernel)
  obtain ⟨v_10, ev_10⟩ : ∃ z : Int32, z = f_4 36 3 := ⟨_, rfl⟩
  have q_11 : 0 ≤ v_10.toInt ∧ v_10.toInt ≤ 19 := by rw [ev_10]; exact hI 36 3
  have q_12 : (f_4 36 3).toInt = v_10.toInt := (congrArg Int32.toInt (show f_4 36 3 = v_10 from ev_10.symm))
  have k_14 : (4 : Int32).toInt = 4 := by decide
  have k_15 : (3 : Int32).toInt = 3 := by decide
  have k_16 : (1 : Int32).toInt = 1 := by decide
  refine lv_iconst (v := 1) hx hb dX3_runs_297 ic_1 ?_
  refine lv_isub hx hb dX3_runs_298 ?_
  refine lv_topi (fun v_17 ev_17 => ?_)
  exact hret _ _ _ _ (v_17) f_4 L Q dX3_runs_299 hP hS ⟨⟨hI, hF, rfl, rfl⟩, trivial, ⟨by omega, by omega⟩, (Eq.trans (Eq.symm (hs.trans ((spl2_e u_9 (spl_e ev_10 (spl_e ev_17 rfl)))))) hsp)⟩

abbrev WkX3_does_7_3_0_f0_f7 : List (Nat × Nat × Option Nat) := [(36, 36, some 3), (38, 38, some 0), (38, 38, some 1), (38, 38, some 2), (38, 38, some 3), (38, 38, some 4), (38, 38, some 5), (38, 38, some 6), (38, 38, some 7), (38, 38, some 8), (38, 38, some 9), (38, 38, some 10), (38, 38, some 11), (38, 38, some 12), (38, 38, some 13)]
set_option maxHeartbeats 4000000 in
set_option maxRecDepth 100000 in
theorem kX3_does_7_3_0_f0_f7 (l : Launch) (D : va_G) (ca : Nat → ClassId) (za h : Nat → Nat) (hh : sgH 52 h) (f : sg_F) (L : sg_L) (Q : sg_Q) (hI : sgI loX hiX f) (x2 : Int32) (hf_36_3 : f 36 3 = 0) (hf_36_4 : f 36 4 = 7) (p0 : 0 ≤ (f 36 3).toInt ∧ (f 36 3).toInt ≤ 0) (sz : Nat) : Met l yX3_does gwX3_does { frames := 11, cells := 0, slots := 0, locals := 274 } (sgP D vwCl (tyX ca) 52 h (eX ca h) zcX za f L Q sz [.ref (h 36), .int 7, .int 3, .int x2, .int 0]) (sgQi D vwCl 52 h (eX ca h) sz (fun r f1 L1 Q1 => ((sgI loX hiX f1 ∧ sgK WkX3_does_7_3_0_f0_f7 f f1 ∧ L1 = L ∧ Q1 = Q) ∧ True ∧ (14 ≤ (f1 36 3).toInt ∧ (f1 36 3).toInt ≤ 14) ∧ (r, f1) = sX3_does_7_3_0_f0_f7 x2 f L))) 0 0 (sgA 52 h sz) := by
  refine sg_ofWi (cc := cX3_does) (maxL := 7) RX3 (by decide) rfl rfl (Nat.le_of_ble_eq_true rfl) ?_
  intro p e s m below meth cd Qz ls hx hb hml hown hts hK hZ hP hS hl hret
  have hA := sgY.self (n := 52) (h := h) (sz := s.heap.size)
  have hl : lv_has ls 7 [(0, .ref (h 36)), (1, .int 7), (2, .int 3), (3, .int x2), (4, .int 0)] := hl
  obtain ⟨H, hH⟩ : ∃ z : Heap, z = s.heap := ⟨_, rfl⟩
  obtain ⟨locs, hlo⟩ : ∃ z : List Loc, z = [] := ⟨_, rfl⟩
  have hP : va_P D vwCl (sgw 52 h (eX ca h) f L Q) H := by rw [hH]; exact hP
  have hS : va_S (sgA 52 h s.heap.size) s.heap H locs := by rw [hH, hlo]; exact hS
  suffices hgo : W p l e ({ frames := 11, cells := 0, slots := 0, locals := 274 }) s m ([.ref (h 36), .int 7, .int 3, .int x2, .int 0] : List Value).toArray below meth cd H locs 0 0 Qz (F0 m 0 ls []) by rw [hH, hlo] at hgo; exact hgo
  clear hH hlo
  obtain ⟨sp, hsp⟩ : ∃ z : Int32 × sg_F, z = sX3_does_7_3_0_f0_f7 x2 f L := ⟨_, rfl⟩
  have hs : sp = sX3_does_7_3_0_f0_f7 x2 f L := hsp
  have o_1 : (f 36 3).toInt = 0 := (congrArg Int32.toInt (show f 36 3 = 0 from hf_36_3)).trans (by decide)
  have hF : sgK WkX3_does_7_3_0_f0_f7 f f := sgK.rf
  have blk_53 : ∀ (fp_53 : sg_F) (H : Heap) (locs : List Loc) (ls : Array Slot), sp = sX3_does_7_3_0_f0_f7_b53 x2 fp_53 L → 0 ≤ (fp_53 36 3).toInt ∧ (fp_53 36 3).toInt ≤ 0 → 7 ≤ (fp_53 36 4).toInt ∧ (fp_53 36 4).toInt ≤ 7 → sgI loX hiX fp_53 → sgK WkX3_does_7_3_0_f0_f7 f fp_53 → va_P D vwCl (sgw 52 h (eX ca h) fp_53 L Q) H → va_S (sgA 52 h s.heap.size) s.heap H locs → lv_has ls 7 [(0, .ref (h 36)), (3, .int x2), (4, .int 0), (5, .int 7), (6, .int 81)] → W p l e ({ frames := 11, cells := 0, slots := 0, locals := 274 }) s m ([.ref (h 36), .int 7, .int 3, .int x2, .int 0] : List Value).toArray below meth cd H locs 0 0 Qz (F0 m 53 ls []) := by
    intro fp_53 H locs ls hs hy0_53 hy1_53 hI hF hP hS hl
    obtain ⟨v_2, ev_2⟩ : ∃ z : Int32, z = fp_53 36 3 := ⟨_, rfl⟩
    have q_3 : 0 ≤ v_2.toInt ∧ v_2.toInt ≤ 19 := by rw [ev_2]; exact hI 36 3
    have q_4 : (fp_53 36 3).toInt = v_2.toInt := by rw [ev_2]
    obtain ⟨v_5, ev_5⟩ : ∃ z : Int32, z = fp_53 36 4 := ⟨_, rfl⟩
    have q_6 : 0 ≤ v_5.toInt ∧ v_5.toInt ≤ 7 := by rw [ev_5]; exact hI 36 4
    have q_7 : (fp_53 36 4).toInt = v_5.toInt := by rw [ev_5]
    have m_8 : fp_53 36 4 = 7 := (hF 36 4 (by decide)).trans hf_36_4
    refine lv_aload_n hx hb dX3_does_53 rfl (lv_at hl 0 rfl) ?_
    refine lv_dup hx hb dX3_does_54 rfl ?_
    refine sl_gX_36_3_3 (v := v_2) hx hb hts hown hK hP (show fp_53 36 3 = v_2 from ev_2.symm) dX3_does_55 ?_
    refine lv_iconst (v := 1) hx hb dX3_does_58 ic_1 ?_
    refine lv_iadd hx hb dX3_does_59 ?_
    refine lv_topi (fun v_9 ev_9 => ?_)
    have q_10 : v_9.toInt = v_2.toInt + 1 := by rw [ev_9]; first | exact cm_add ti_1 (by omega) (by omega) | (have k1 : (1 : Int32).toInt = 1 := ti_1; exact (bn_addI (by omega) (by omega)).trans (by omega))
    refine sl_pX_36_3_3 (x := v_9) hx hb hts hown hh hA hK hP hS dX3_does_60 (fun f_11 H locs ef_11 hP hS => ?_)
    have hI : sgI loX hiX f_11 := by rw [ef_11]; exact sgI.put hI 36 3 (show 0 ≤ (v_9 : Int32).toInt ∧ (v_9 : Int32).toInt ≤ 19 from ⟨by omega, by omega⟩)
    have hF : sgK WkX3_does_7_3_0_f0_f7 f f_11 := sgK.put hF ef_11 (by rfl)
    refine lv_aload_n hx hb dX3_does_63 rfl (lv_at hl 0 rfl) ?_
    refine lv_iload hx hb dX3_does_64 (lv_at hl 4 rfl) ?_
    refine sg_gets hx hb hZ 2 rfl hS hown (hts _ (List.mem_cons_of_mem _ mw_174)) (fun _ h9 => h9) dX3_does_66 ?_
    refine lv_iload hx hb dX3_does_69 (lv_at hl 3 rfl) ?_
    refine sg_sald hx hb hZ 2 rfl hS (y := 7) (N := 8) (vp_in_iff.mpr (by decide)) dX3_does_71 ?_
    refine W.eq (g2 := F0 m 72 ls [.int 4, .int 81, .ref (h 36)]) (by rfl) ?_
    refine lv_iload_n hx hb dX3_does_72 rfl (lv_at hl 1 rfl) ?_
    refine lv_iload hx hb dX3_does_73 (lv_at hl 2 rfl) ?_
    refine lv_iconst (v := 1) hx hb dX3_does_75 ic_1 ?_
    refine lv_iadd hx hb dX3_does_76 ?_
    refine W.eq (g2 := F0 m 77 ls [.int 1, .int x2, .int 4, .int 81, .ref (h 36)]) (by rw [show (0 + 1 : Int32) = 1 from by decide]) ?_
    have c_12 : v_9 = 1 := Int32.toInt_inj.mp (by have k9 : (1 : Int32).toInt = 1 := ti_1; omega)
    have q_13 : (f_11 36 3).toInt = 1 := (congrArg Int32.toInt (show f_11 36 3 = 1 from (Eq.trans (by rw [ef_11, sg_up_s, sgu_s]) c_12))).trans (by decide)
    refine sg_calli (va_runV (As := [.int 81, .int 4, .int x2, .int 1]) (rest := []) ⟨hx, hb, hml, hown, hts⟩ (kX3_runs_81_4_1_f1_f7 l D ca za h hh f_11 L Q hI x2 (Eq.trans (by rw [ef_11, sg_up_s, sgu_s]) c_12) (by rw [ef_11, sg_up_s, sgu_n (by decide)]; exact m_8) (by have k0 : (81 : Int32).toInt = 81 := ti_81; have k1 : (4 : Int32).toInt = 4 := ti_4; have k3 : (1 : Int32).toInt = 1 := ti_1; omega) H.size) (sl_c3_runs_10_0_0_250_3 hts ⟨Nat.le_of_ble_eq_true rfl, Nat.le_of_ble_eq_true rfl⟩) (sl_vX_36 hA hK hP hS hZ) rfl rfl hl.1 rfl (lv_room (Nat.le_of_ble_eq_true rfl)) dX3_does_77 ⟨Nat.le_refl _, Nat.le_refl _⟩) hA hS (fun r_18 f_15 L_16 Q_17 H locs hq hP hS => ?_)
    obtain ⟨⟨hI, hk_f_15, eL9, eQ9⟩, hq, p_19, u_20⟩ := hq
    rw [eL9, eQ9] at hP; clear eL9 eQ9
    have hF : sgK WkX3_does_7_3_0_f0_f7 f f_15 := sgK.tr hF hk_f_15 (by decide +kernel)
    obtain ⟨v_21, ev_21⟩ : ∃ z : Int32, z = f_15 36 3 := ⟨_, rfl⟩
    have q_22 : 0 ≤ v_21.toInt ∧ v_21.toInt ≤ 19 := by rw [ev_21]; exact hI 36 3
    have q_23 : (f_15 36 3).toInt = v_21.toInt := (congrArg Int32.toInt (show f_15 36 3 = v_21 from ev_21.symm))
    have k_25 : (81 : Int32).toInt = 81 := by decide
    have k_26 : (4 : Int32).toInt = 4 := by decide
    have k_27 : (1 : Int32).toInt = 1 := by decide
    exact hret _ _ _ _ (r_18) f_15 L Q dX3_does_80 hP hS ⟨⟨hI, hF, rfl, rfl⟩, trivial, ⟨by omega, by omega⟩, (Eq.trans (Eq.symm (hs.trans ((spl_e ev_2 (spl_e ev_5 (spl_e ev_9 (spl_e ef_11 (spl2_e u_20 (spl_e ev_21 rfl))))))))) hsp)⟩
  refine lv_iload_n hx hb dX3_does_0 rfl (lv_at hl 1 rfl) ?_
  refine lv_iload_n hx hb dX3_does_1 rfl (lv_at hl 2 rfl) ?_
  refine sg_calli (va_runS (As := [.int 7, .int 3]) (rest := []) ⟨hx, hb, hml, hown, hts⟩ (kX3_ownerOf_7_3 l D ca za h hh f L Q hI H.size) (va_cwS 2 hts (gw_S (fun _ h => List.mem_cons_of_mem _ h) mw_189 mw_190 mw_47 mw_188) rfl rfl rfl hd_yX3_ownerOf.2 ⟨Nat.le_of_ble_eq_true rfl, Nat.le_of_ble_eq_true rfl⟩) (sg_preS hA hK hP hS hZ) rfl rfl hl.1 rfl (lv_room (Nat.le_of_ble_eq_true rfl)) dX3_does_2 ⟨Nat.le_refl _, Nat.le_refl _⟩) hA hS (fun r_33 f_30 L_31 Q_32 H locs hq hP hS => ?_)
  obtain ⟨⟨ef9, eL9, eQ9⟩, hq, u_34⟩ := hq
  rw [ef9, eL9, eQ9] at hP; clear ef9 eL9 eQ9
  obtain rfl : r_33 = 7 := Int32.toInt_inj.mp (by have k9 : (7 : Int32).toInt = 7 := ti_7; omega)
  refine lv_istore (lv' := [(5, .int 7), (0, .ref (h 36)), (1, .int 7), (2, .int 3), (3, .int x2), (4, .int 0)]) hx hb dX3_does_5 hl (by decide) rfl (fun ls hl => ?_)
  refine lv_iload hx hb dX3_does_7 (lv_at hl 0 rfl) ?_
  refine lv_if_lt (tgt := 19) hx hb dX3_does_9 (by decide) (fun c => absurd c (by decide)) (fun c => ?_)
  refine lv_iload hx hb dX3_does_12 (lv_at hl 5 rfl) ?_
  refine lv_bipush (v := 40) hx hb dX3_does_14 bp_40 ?_
  refine lv_icmp_le (tgt := 21) hx hb dX3_does_16 (by decide) (fun c => ?_) (fun c => absurd c (by decide))
  refine sg_gets hx hb hZ 3 rfl hS hown (hts _ (List.mem_cons_of_mem _ mw_173)) (fun _ h9 => h9) dX3_does_21 ?_
  refine lv_iload hx hb dX3_does_24 (lv_at hl 0 rfl) ?_
  refine lv_iconst (v := 4) hx hb dX3_does_26 ic_4 ?_
  refine lv_imul hx hb dX3_does_27 ?_
  refine W.eq (g2 := F0 m 28 ls [.int 28, .ref (za 3)]) (by rw [show (7 * 4 : Int32) = 28 from by decide]) ?_
  refine lv_iload_n hx hb dX3_does_28 rfl (lv_at hl 3 rfl) ?_
  refine lv_iadd hx hb dX3_does_29 ?_
  refine W.eq (g2 := F0 m 30 ls [.int 31, .ref (za 3)]) (by rw [show (28 + 3 : Int32) = 31 from by decide]) ?_
  refine sg_sald hx hb hZ 3 rfl hS (y := 31) (N := 32) (vp_in_iff.mpr (by decide)) dX3_does_30 ?_
  refine W.eq (g2 := F0 m 31 ls [.int 81]) (by rfl) ?_
  refine lv_istore (lv' := [(6, .int 81), (5, .int 7), (0, .ref (h 36)), (1, .int 7), (2, .int 3), (3, .int x2), (4, .int 0)]) hx hb dX3_does_31 hl (by decide) rfl (fun ls hl => ?_)
  refine lv_aload_n hx hb dX3_does_33 rfl (lv_at hl 2 rfl) ?_
  refine sl_gX_36_3_3 (v := 0) hx hb hts hown hK hP (show f 36 3 = 0 from hf_36_3) dX3_does_34 ?_
  refine lv_bipush (v := 24) hx hb dX3_does_37 bp_24 ?_
  refine lv_icmp_ge (tgt := 53) hx hb dX3_does_39 (by decide) (fun c => absurd c (by decide)) (fun c => ?_)
  refine lv_aload_n hx hb dX3_does_42 rfl (lv_at hl 2 rfl) ?_
  refine sl_gX_36_1_3 hx hb hts hown hK hP dX3_does_43 ?_
  refine lv_aload_n hx hb dX3_does_46 rfl (lv_at hl 2 rfl) ?_
  refine sl_gX_36_3_3 (v := 0) hx hb hts hown hK hP (show f 36 3 = 0 from hf_36_3) dX3_does_47 ?_
  refine lv_iload hx hb dX3_does_50 (lv_at hl 0 rfl) ?_
  refine sg_iast hx hb hh hA hK hP hS 38 (by decide) 0 (fun _ => rfl) rfl (i := 0) (x := 81) (vp_in_iff.mpr (by decide)) dX3_does_52 (fun f_35 H locs ef_35 hP hS => ?_)
  have ef_35 : f_35 = sg_up f 38 (sgu (f 38) 0 81) := ef_35
  have hI : sgI loX hiX f_35 := by rw [ef_35]; exact sgI.put hI 38 0 (show 0 ≤ (81 : Int32).toInt ∧ (81 : Int32).toInt ≤ 81 from by decide)
  have hF : sgK WkX3_does_7_3_0_f0_f7 f f_35 := sgK.put hF ef_35 (by rfl)
  exact blk_53 f_35 _ _ _ (hs.trans ((spl_e u_34 (spl_e ef_35 rfl)))) (by have zz36_3 : (f_35 36 3).toInt = 0 := (congrArg Int32.toInt (show f_35 36 3 = 0 from (by rw [ef_35, sg_up_n (by decide)]; exact hf_36_3))).trans (by decide); exact ⟨by omega, by omega⟩) (by have zz36_4 : (f_35 36 4).toInt = 7 := (congrArg Int32.toInt (show f_35 36 4 = 7 from (by rw [ef_35, sg_up_n (by decide)]; exact hf_36_4))).trans (by decide); exact ⟨by omega, by omega⟩) hI hF hP hS (lv_sub hl [2, 5, 6, 1, 0] rfl)

abbrev WkX3_acts : List (Nat × Nat × Option Nat) := [(36, 36, some 3), (36, 36, some 4), (36, 36, some 5), (38, 38, some 0), (38, 38, some 1), (38, 38, some 2), (38, 38, some 3), (38, 38, some 4), (38, 38, some 5), (38, 38, some 6), (38, 38, some 7), (38, 38, some 8), (38, 38, some 9), (38, 38, some 10), (38, 38, some 11), (38, 38, some 12), (38, 38, some 13)]
set_option maxHeartbeats 4000000 in
set_option maxRecDepth 100000 in
theorem kX3_acts (l : Launch) (D : va_G) (ca : Nat → ClassId) (za h : Nat → Nat) (hh : sgH 52 h) (f : sg_F) (L : sg_L) (Q : sg_Q) (hI : sgI loX hiX f) (x0 : Int32) (x1 : Int32) (x2 : Int32) (sz : Nat) : Met l yX3_acts gwX3_acts { frames := 12, cells := 0, slots := 0, locals := 300 } (sgP D vwCl (tyX ca) 52 h (eX ca h) zcX za f L Q sz [.ref (h 36), .int x0, .int x1, .int x2]) (sgQi D vwCl 52 h (eX ca h) sz (fun r f1 L1 Q1 => ((sgI loX hiX f1 ∧ sgK WkX3_acts f f1 ∧ L1 = L ∧ Q1 = Q) ∧ True ∧ (r, f1) = sX3_acts x0 x1 x2 f L))) 0 0 (sgA 52 h sz) := by
  refine sg_ofWi (cc := cX3_acts) (maxL := 4) RX3 (by decide) rfl rfl (Nat.le_of_ble_eq_true rfl) ?_
  intro p e s m below meth cd Qz ls hx hb hml hown hts hK hZ hP hS hl hret
  have hA := sgY.self (n := 52) (h := h) (sz := s.heap.size)
  have hl : lv_has ls 4 [(0, .ref (h 36)), (1, .int x0), (2, .int x1), (3, .int x2)] := hl
  obtain ⟨H, hH⟩ : ∃ z : Heap, z = s.heap := ⟨_, rfl⟩
  obtain ⟨locs, hlo⟩ : ∃ z : List Loc, z = [] := ⟨_, rfl⟩
  have hP : va_P D vwCl (sgw 52 h (eX ca h) f L Q) H := by rw [hH]; exact hP
  have hS : va_S (sgA 52 h s.heap.size) s.heap H locs := by rw [hH, hlo]; exact hS
  suffices hgo : W p l e ({ frames := 12, cells := 0, slots := 0, locals := 300 }) s m ([.ref (h 36), .int x0, .int x1, .int x2] : List Value).toArray below meth cd H locs 0 0 Qz (F0 m 0 ls []) by rw [hH, hlo] at hgo; exact hgo
  clear hH hlo
  obtain ⟨sp, hsp⟩ : ∃ z : Int32 × sg_F, z = sX3_acts x0 x1 x2 f L := ⟨_, rfl⟩
  have hs : sp = sX3_acts x0 x1 x2 f L := hsp
  have hF : sgK WkX3_acts f f := sgK.rf
  refine lv_aload_n hx hb dX3_acts_0 rfl (lv_at hl 0 rfl) ?_
  refine lv_iconst (v := 0) hx hb dX3_acts_1 ic_0 ?_
  refine sl_pX_36_3_3 (x := 0) hx hb hts hown hh hA hK hP hS dX3_acts_2 (fun f_1 H locs ef_1 hP hS => ?_)
  replace hs := hs.trans (spl_e ef_1 rfl)
  have hI : sgI loX hiX f_1 := by rw [ef_1]; exact sgI.put hI 36 3 (show 0 ≤ (0 : Int32).toInt ∧ (0 : Int32).toInt ≤ 19 from by decide)
  have hF : sgK WkX3_acts f f_1 := sgK.put hF ef_1 (by rfl)
  refine lv_iload_n hx hb dX3_acts_5 rfl (lv_at hl 1 rfl) ?_
  refine lv_if_lt (tgt := 26) hx hb dX3_acts_6 (by decide) (fun c => ?_) (fun c => ?_)
  · skip
    have c_2 : x0.toInt < 0 := (by first | exact (cm_lt1 ti_0 c) | (have z := bn_lt c; have k1 : (0 : Int32).toInt = 0 := ti_0; omega))
    refine lv_iconst (v := 0) hx hb dX3_acts_26 ic_0 ?_
    have k99 : (0 : Int32).toInt = 0 := ti_0
    exact hret _ _ _ _ (0) f_1 L Q dX3_acts_27 hP hS ⟨⟨hI, hF, rfl, rfl⟩, trivial, (Eq.trans (Eq.symm (hs.trans ((if_pos c_2).trans rfl))) hsp)⟩
  · skip
    have c_3 : 0 ≤ x0.toInt := (by first | exact (cm_nlt1 ti_0 c) | (have z := bn_nlt c; have k1 : (0 : Int32).toInt = 0 := ti_0; omega))
    refine lv_iload_n hx hb dX3_acts_9 rfl (lv_at hl 1 rfl) ?_
    refine lv_aload_n hx hb dX3_acts_10 rfl (lv_at hl 0 rfl) ?_
    refine sl_gX_36_2_3 (v := (f_1 36 2)) hx hb hts hown hK hP rfl dX3_acts_11 ?_
    refine lv_topi (fun v_4 ev_4 => ?_)
    replace hs := hs.trans ((if_neg (Int.not_lt.mpr c_3)).trans (spl_e ev_4 rfl))
    have q_5 : 0 ≤ v_4.toInt ∧ v_4.toInt ≤ 50 := by rw [ev_4]; exact hI 36 2
    refine lv_icmp_ge (tgt := 26) hx hb dX3_acts_14 (by decide) (fun c => ?_) (fun c => ?_)
    · skip
      have c_6 : v_4.toInt ≤ x0.toInt := (by first | exact (bn_le c) | (have z := bn_le c; omega))
      refine lv_iconst (v := 0) hx hb dX3_acts_26 ic_0 ?_
      have k99 : (0 : Int32).toInt = 0 := ti_0
      exact hret _ _ _ _ (0) f_1 L Q dX3_acts_27 hP hS ⟨⟨hI, hF, rfl, rfl⟩, trivial, (Eq.trans (Eq.symm (hs.trans ((if_neg (Int.not_lt.mpr c_6)).trans rfl))) hsp)⟩
    · skip
      have c_7 : x0.toInt < v_4.toInt := (by first | exact (bn_nle c) | (have z := bn_nle c; omega))
      replace hs := hs.trans ((if_pos c_7).trans rfl)
      refine lv_iload_n hx hb dX3_acts_17 rfl (lv_at hl 2 rfl) ?_
      refine lv_if_lt (tgt := 26) hx hb dX3_acts_18 (by decide) (fun c => ?_) (fun c => ?_)
      · skip
        have c_8 : x1.toInt < 0 := (by first | exact (cm_lt1 ti_0 c) | (have z := bn_lt c; have k1 : (0 : Int32).toInt = 0 := ti_0; omega))
        refine lv_iconst (v := 0) hx hb dX3_acts_26 ic_0 ?_
        have k99 : (0 : Int32).toInt = 0 := ti_0
        exact hret _ _ _ _ (0) f_1 L Q dX3_acts_27 hP hS ⟨⟨hI, hF, rfl, rfl⟩, trivial, (Eq.trans (Eq.symm (hs.trans ((if_pos c_8).trans rfl))) hsp)⟩
      · skip
        have c_9 : 0 ≤ x1.toInt := (by first | exact (cm_nlt1 ti_0 c) | (have z := bn_nlt c; have k1 : (0 : Int32).toInt = 0 := ti_0; omega))
        replace hs := hs.trans ((if_neg (Int.not_lt.mpr c_9)).trans rfl)
        refine lv_iload_n hx hb dX3_acts_21 rfl (lv_at hl 2 rfl) ?_
        refine lv_iconst (v := 4) hx hb dX3_acts_22 ic_4 ?_
        refine lv_icmp_lt (tgt := 28) hx hb dX3_acts_23 (by decide) (fun c => ?_) (fun c => ?_)
        · skip
          have c_10 : x1.toInt < 4 := (by first | exact (cm_lt1 ti_4 c) | (have z := bn_lt c; have k1 : (4 : Int32).toInt = 4 := ti_4; omega))
          refine lv_aload_n hx hb dX3_acts_28 rfl (lv_at hl 0 rfl) ?_
          refine lv_aload_n hx hb dX3_acts_29 rfl (lv_at hl 0 rfl) ?_
          refine sl_gX_36_0_3 hx hb hts hown hK hP dX3_acts_30 ?_
          refine lv_iload_n hx hb dX3_acts_33 rfl (lv_at hl 1 rfl) ?_
          refine sg_iald hx hb hK hP 37 (by decide) 0 rfl rfl (i := x0) (vp_in_iff.mpr ⟨by omega, by omega⟩) dX3_acts_34 ?_
          refine lv_topi (fun v_12 ev_12 => ?_)
          have q_13 : 0 ≤ v_12.toInt ∧ v_12.toInt ≤ 7 := by rw [ev_12]; exact hI 37 _
          refine sl_pX_36_4_3 (x := v_12) hx hb hts hown hh hA hK hP hS dX3_acts_35 (fun f_14 H locs ef_14 hP hS => ?_)
          have hI : sgI loX hiX f_14 := by rw [ef_14]; exact sgI.put hI 36 4 (show 0 ≤ (v_12 : Int32).toInt ∧ (v_12 : Int32).toInt ≤ 7 from q_13)
          have hF : sgK WkX3_acts f f_14 := sgK.put hF ef_14 (by rfl)
          refine lv_aload_n hx hb dX3_acts_38 rfl (lv_at hl 0 rfl) ?_
          refine lv_iload_n hx hb dX3_acts_39 rfl (lv_at hl 1 rfl) ?_
          refine sl_pX_36_5_3 (x := x0) hx hb hts hown hh hA hK hP hS dX3_acts_40 (fun f_15 H locs ef_15 hP hS => ?_)
          replace hs := hs.trans ((if_pos c_10).trans (spl_e ev_12 (spl_e ef_14 (spl_e ef_15 rfl))))
          have hI : sgI loX hiX f_15 := by rw [ef_15]; exact sgI.put hI 36 5 (show 0 ≤ (x0 : Int32).toInt ∧ (x0 : Int32).toInt ≤ 49 from ⟨by omega, by omega⟩)
          have hF : sgK WkX3_acts f f_15 := sgK.put hF ef_15 (by rfl)
          refine lv_aload_n hx hb dX3_acts_43 rfl (lv_at hl 0 rfl) ?_
          refine lv_aload_n hx hb dX3_acts_44 rfl (lv_at hl 0 rfl) ?_
          refine sl_gX_36_4_3 (v := v_12) hx hb hts hown hK hP (show f_15 36 4 = v_12 from (by rw [ef_15, sg_up_s, sgu_n (by decide)]; exact (by rw [ef_14, sg_up_s, sgu_s]))) dX3_acts_45 ?_
          refine lv_iload_n hx hb dX3_acts_48 rfl (lv_at hl 2 rfl) ?_
          refine lv_iload_n hx hb dX3_acts_49 rfl (lv_at hl 3 rfl) ?_
          refine lv_iconst (v := 0) hx hb dX3_acts_50 ic_0 ?_
          rcases (show x1.toInt = 0 ∨ x1.toInt = 1 ∨ x1.toInt = 2 ∨ x1.toInt = 3 from by omega) with c | c | c | c
          · skip
            have cs_16 := c
            replace hs := hs.trans ((if_pos cs_16).trans rfl)
            have c_17 : x1 = 0 := Int32.toInt_inj.mp (by have k9 : (0 : Int32).toInt = 0 := ti_0; omega)
            refine W.eq (g2 := F0 m 51 ls [.int 0, .int x2, .int 0, .int v_12, .ref (h 36)]) (by rw [c_17]) ?_
            rcases (show v_12.toInt = 0 ∨ v_12.toInt = 1 ∨ v_12.toInt = 2 ∨ v_12.toInt = 3 ∨ v_12.toInt = 4 ∨ v_12.toInt = 5 ∨ v_12.toInt = 6 ∨ v_12.toInt = 7 from by omega) with c | c | c | c | c | c | c | c
            · skip
              have cs_18 := c
              have c_19 : v_12 = 0 := Int32.toInt_inj.mp (by have k9 : (0 : Int32).toInt = 0 := ti_0; omega)
              refine W.eq (g2 := F0 m 51 ls [.int 0, .int x2, .int 0, .int 0, .ref (h 36)]) (by rw [c_19]) ?_
              have q_20 : (f_15 36 3).toInt = 0 := (congrArg Int32.toInt (show f_15 36 3 = 0 from (by rw [ef_15, sg_up_s, sgu_n (by decide)]; exact (by rw [ef_14, sg_up_s, sgu_n (by decide)]; exact (by rw [ef_1, sg_up_s, sgu_s]))))).trans (by decide)
              refine sg_calli (va_runV (As := [.int 0, .int 0, .int x2, .int 0]) (rest := []) ⟨hx, hb, hml, hown, hts⟩ (kX3_does_0_0_0_f0_f0 l D ca za h hh f_15 L Q hI x2 (by rw [ef_15, sg_up_s, sgu_n (by decide)]; exact (by rw [ef_14, sg_up_s, sgu_n (by decide)]; exact (by rw [ef_1, sg_up_s, sgu_s]))) (Eq.trans (by rw [ef_15, sg_up_s, sgu_n (by decide)]; exact (by rw [ef_14, sg_up_s, sgu_s])) c_19) (by have k0 : (0 : Int32).toInt = 0 := ti_0; have k1 : (0 : Int32).toInt = 0 := ti_0; have k3 : (0 : Int32).toInt = 0 := ti_0; omega) H.size) (sl_c3_does_1_0_0_24_3 hts ⟨Nat.le_of_ble_eq_true rfl, Nat.le_of_ble_eq_true rfl⟩) (sl_vX_36 hA hK hP hS hZ) rfl rfl hl.1 rfl (lv_room (Nat.le_of_ble_eq_true rfl)) dX3_acts_51 ⟨Nat.le_refl _, Nat.le_refl _⟩) hA hS (fun r_25 f_22 L_23 Q_24 H locs hq hP hS => ?_)
              obtain ⟨⟨hI, hk_f_22, eL9, eQ9⟩, hq, p_26, u_27⟩ := hq
              rw [eL9, eQ9] at hP; clear eL9 eQ9
              have hF : sgK WkX3_acts f f_22 := sgK.tr hF hk_f_22 (by decide +kernel)
              obtain ⟨v_28, ev_28⟩ : ∃ z : Int32, z = f_22 36 3 := ⟨_, rfl⟩
              have q_29 : 0 ≤ v_28.toInt ∧ v_28.toInt ≤ 19 := by rw [ev_28]; exact hI 36 3
              have q_30 : (f_22 36 3).toInt = v_28.toInt := (congrArg Int32.toInt (show f_22 36 3 = v_28 from ev_28.symm))
              have k_32 : (0 : Int32).toInt = 0 := by decide
              have k_33 : (0 : Int32).toInt = 0 := by decide
              have k_34 : (0 : Int32).toInt = 0 := by decide
              exact hret _ _ _ _ (r_25) f_22 L Q dX3_acts_54 hP hS ⟨⟨hI, hF, rfl, rfl⟩, trivial, (Eq.trans (Eq.symm (hs.trans ((if_pos cs_18).trans (spl2_e u_27 (spl_e ev_28 rfl))))) hsp)⟩
            · skip
              have cs_18 := c
              have c_35 : v_12 = 1 := Int32.toInt_inj.mp (by have k9 : (1 : Int32).toInt = 1 := ti_1; omega)
              refine W.eq (g2 := F0 m 51 ls [.int 0, .int x2, .int 0, .int 1, .ref (h 36)]) (by rw [c_35]) ?_
              have q_36 : (f_15 36 3).toInt = 0 := (congrArg Int32.toInt (show f_15 36 3 = 0 from (by rw [ef_15, sg_up_s, sgu_n (by decide)]; exact (by rw [ef_14, sg_up_s, sgu_n (by decide)]; exact (by rw [ef_1, sg_up_s, sgu_s]))))).trans (by decide)
              refine sg_calli (va_runV (As := [.int 1, .int 0, .int x2, .int 0]) (rest := []) ⟨hx, hb, hml, hown, hts⟩ (kX3_does_1_0_0_f0_f1 l D ca za h hh f_15 L Q hI x2 (by rw [ef_15, sg_up_s, sgu_n (by decide)]; exact (by rw [ef_14, sg_up_s, sgu_n (by decide)]; exact (by rw [ef_1, sg_up_s, sgu_s]))) (Eq.trans (by rw [ef_15, sg_up_s, sgu_n (by decide)]; exact (by rw [ef_14, sg_up_s, sgu_s])) c_35) (by have k0 : (1 : Int32).toInt = 1 := ti_1; have k1 : (0 : Int32).toInt = 0 := ti_0; have k3 : (0 : Int32).toInt = 0 := ti_0; omega) H.size) (sl_c3_does_3_0_0_74_3 hts ⟨Nat.le_of_ble_eq_true rfl, Nat.le_of_ble_eq_true rfl⟩) (sl_vX_36 hA hK hP hS hZ) rfl rfl hl.1 rfl (lv_room (Nat.le_of_ble_eq_true rfl)) dX3_acts_51 ⟨Nat.le_refl _, Nat.le_refl _⟩) hA hS (fun r_41 f_38 L_39 Q_40 H locs hq hP hS => ?_)
              obtain ⟨⟨hI, hk_f_38, eL9, eQ9⟩, hq, p_42, u_43⟩ := hq
              rw [eL9, eQ9] at hP; clear eL9 eQ9
              have hF : sgK WkX3_acts f f_38 := sgK.tr hF hk_f_38 (by decide +kernel)
              obtain ⟨v_44, ev_44⟩ : ∃ z : Int32, z = f_38 36 3 := ⟨_, rfl⟩
              have q_45 : 0 ≤ v_44.toInt ∧ v_44.toInt ≤ 19 := by rw [ev_44]; exact hI 36 3
              have q_46 : (f_38 36 3).toInt = v_44.toInt := (congrArg Int32.toInt (show f_38 36 3 = v_44 from ev_44.symm))
              have k_48 : (1 : Int32).toInt = 1 := by decide
              have k_49 : (0 : Int32).toInt = 0 := by decide
              have k_50 : (0 : Int32).toInt = 0 := by decide
              exact hret _ _ _ _ (r_41) f_38 L Q dX3_acts_54 hP hS ⟨⟨hI, hF, rfl, rfl⟩, trivial, (Eq.trans (Eq.symm (hs.trans ((if_neg (fun z => absurd (z.symm.trans cs_18) (by decide))).trans ((if_pos cs_18).trans (spl2_e u_43 (spl_e ev_44 rfl)))))) hsp)⟩
            · skip
              have cs_18 := c
              have c_51 : v_12 = 2 := Int32.toInt_inj.mp (by have k9 : (2 : Int32).toInt = 2 := ti_2; omega)
              refine W.eq (g2 := F0 m 51 ls [.int 0, .int x2, .int 0, .int 2, .ref (h 36)]) (by rw [c_51]) ?_
              have q_52 : (f_15 36 3).toInt = 0 := (congrArg Int32.toInt (show f_15 36 3 = 0 from (by rw [ef_15, sg_up_s, sgu_n (by decide)]; exact (by rw [ef_14, sg_up_s, sgu_n (by decide)]; exact (by rw [ef_1, sg_up_s, sgu_s]))))).trans (by decide)
              refine sg_calli (va_runV (As := [.int 2, .int 0, .int x2, .int 0]) (rest := []) ⟨hx, hb, hml, hown, hts⟩ (kX3_does_2_0_0_f0_f2 l D ca za h hh f_15 L Q hI x2 (by rw [ef_15, sg_up_s, sgu_n (by decide)]; exact (by rw [ef_14, sg_up_s, sgu_n (by decide)]; exact (by rw [ef_1, sg_up_s, sgu_s]))) (Eq.trans (by rw [ef_15, sg_up_s, sgu_n (by decide)]; exact (by rw [ef_14, sg_up_s, sgu_s])) c_51) (by have k0 : (2 : Int32).toInt = 2 := ti_2; have k1 : (0 : Int32).toInt = 0 := ti_0; have k3 : (0 : Int32).toInt = 0 := ti_0; omega) H.size) (sl_c3_does_1_0_0_24_3 hts ⟨Nat.le_of_ble_eq_true rfl, Nat.le_of_ble_eq_true rfl⟩) (sl_vX_36 hA hK hP hS hZ) rfl rfl hl.1 rfl (lv_room (Nat.le_of_ble_eq_true rfl)) dX3_acts_51 ⟨Nat.le_refl _, Nat.le_refl _⟩) hA hS (fun r_57 f_54 L_55 Q_56 H locs hq hP hS => ?_)
              obtain ⟨⟨hI, hk_f_54, eL9, eQ9⟩, hq, p_58, u_59⟩ := hq
              rw [eL9, eQ9] at hP; clear eL9 eQ9
              have hF : sgK WkX3_acts f f_54 := sgK.tr hF hk_f_54 (by decide +kernel)
              obtain ⟨v_60, ev_60⟩ : ∃ z : Int32, z = f_54 36 3 := ⟨_, rfl⟩
              have q_61 : 0 ≤ v_60.toInt ∧ v_60.toInt ≤ 19 := by rw [ev_60]; exact hI 36 3
              have q_62 : (f_54 36 3).toInt = v_60.toInt := (congrArg Int32.toInt (show f_54 36 3 = v_60 from ev_60.symm))
              have k_64 : (2 : Int32).toInt = 2 := by decide
              have k_65 : (0 : Int32).toInt = 0 := by decide
              have k_66 : (0 : Int32).toInt = 0 := by decide
              exact hret _ _ _ _ (r_57) f_54 L Q dX3_acts_54 hP hS ⟨⟨hI, hF, rfl, rfl⟩, trivial, (Eq.trans (Eq.symm (hs.trans ((if_neg (fun z => absurd (z.symm.trans cs_18) (by decide))).trans ((if_neg (fun z => absurd (z.symm.trans cs_18) (by decide))).trans ((if_pos cs_18).trans (spl2_e u_59 (spl_e ev_60 rfl))))))) hsp)⟩
            · skip
              have cs_18 := c
              have c_67 : v_12 = 3 := Int32.toInt_inj.mp (by have k9 : (3 : Int32).toInt = 3 := ti_3; omega)
              refine W.eq (g2 := F0 m 51 ls [.int 0, .int x2, .int 0, .int 3, .ref (h 36)]) (by rw [c_67]) ?_
              have q_68 : (f_15 36 3).toInt = 0 := (congrArg Int32.toInt (show f_15 36 3 = 0 from (by rw [ef_15, sg_up_s, sgu_n (by decide)]; exact (by rw [ef_14, sg_up_s, sgu_n (by decide)]; exact (by rw [ef_1, sg_up_s, sgu_s]))))).trans (by decide)
              refine sg_calli (va_runV (As := [.int 3, .int 0, .int x2, .int 0]) (rest := []) ⟨hx, hb, hml, hown, hts⟩ (kX3_does_3_0_0_f0_f3 l D ca za h hh f_15 L Q hI x2 (by rw [ef_15, sg_up_s, sgu_n (by decide)]; exact (by rw [ef_14, sg_up_s, sgu_n (by decide)]; exact (by rw [ef_1, sg_up_s, sgu_s]))) (Eq.trans (by rw [ef_15, sg_up_s, sgu_n (by decide)]; exact (by rw [ef_14, sg_up_s, sgu_s])) c_67) (by have k0 : (3 : Int32).toInt = 3 := ti_3; have k1 : (0 : Int32).toInt = 0 := ti_0; have k3 : (0 : Int32).toInt = 0 := ti_0; omega) H.size) (sl_c3_does_1_0_0_24_3 hts ⟨Nat.le_of_ble_eq_true rfl, Nat.le_of_ble_eq_true rfl⟩) (sl_vX_36 hA hK hP hS hZ) rfl rfl hl.1 rfl (lv_room (Nat.le_of_ble_eq_true rfl)) dX3_acts_51 ⟨Nat.le_refl _, Nat.le_refl _⟩) hA hS (fun r_73 f_70 L_71 Q_72 H locs hq hP hS => ?_)
              obtain ⟨⟨hI, hk_f_70, eL9, eQ9⟩, hq, p_74, u_75⟩ := hq
              rw [eL9, eQ9] at hP; clear eL9 eQ9
              have hF : sgK WkX3_acts f f_70 := sgK.tr hF hk_f_70 (by decide +kernel)
              obtain ⟨v_76, ev_76⟩ : ∃ z : Int32, z = f_70 36 3 := ⟨_, rfl⟩
              have q_77 : 0 ≤ v_76.toInt ∧ v_76.toInt ≤ 19 := by rw [ev_76]; exact hI 36 3
              have q_78 : (f_70 36 3).toInt = v_76.toInt := (congrArg Int32.toInt (show f_70 36 3 = v_76 from ev_76.symm))
              have k_80 : (3 : Int32).toInt = 3 := by decide
              have k_81 : (0 : Int32).toInt = 0 := by decide
              have k_82 : (0 : Int32).toInt = 0 := by decide
              exact hret _ _ _ _ (r_73) f_70 L Q dX3_acts_54 hP hS ⟨⟨hI, hF, rfl, rfl⟩, trivial, (Eq.trans (Eq.symm (hs.trans ((if_neg (fun z => absurd (z.symm.trans cs_18) (by decide))).trans ((if_neg (fun z => absurd (z.symm.trans cs_18) (by decide))).trans ((if_neg (fun z => absurd (z.symm.trans cs_18) (by decide))).trans ((if_pos cs_18).trans (spl2_e u_75 (spl_e ev_76 rfl)))))))) hsp)⟩
            · skip
              have cs_18 := c
              have c_83 : v_12 = 4 := Int32.toInt_inj.mp (by have k9 : (4 : Int32).toInt = 4 := ti_4; omega)
              refine W.eq (g2 := F0 m 51 ls [.int 0, .int x2, .int 0, .int 4, .ref (h 36)]) (by rw [c_83]) ?_
              have q_84 : (f_15 36 3).toInt = 0 := (congrArg Int32.toInt (show f_15 36 3 = 0 from (by rw [ef_15, sg_up_s, sgu_n (by decide)]; exact (by rw [ef_14, sg_up_s, sgu_n (by decide)]; exact (by rw [ef_1, sg_up_s, sgu_s]))))).trans (by decide)
              refine sg_calli (va_runV (As := [.int 4, .int 0, .int x2, .int 0]) (rest := []) ⟨hx, hb, hml, hown, hts⟩ (kX3_does_4_0_0_f0_f4 l D ca za h hh f_15 L Q hI x2 (by rw [ef_15, sg_up_s, sgu_n (by decide)]; exact (by rw [ef_14, sg_up_s, sgu_n (by decide)]; exact (by rw [ef_1, sg_up_s, sgu_s]))) (Eq.trans (by rw [ef_15, sg_up_s, sgu_n (by decide)]; exact (by rw [ef_14, sg_up_s, sgu_s])) c_83) (by have k0 : (4 : Int32).toInt = 4 := ti_4; have k1 : (0 : Int32).toInt = 0 := ti_0; have k3 : (0 : Int32).toInt = 0 := ti_0; omega) H.size) (sl_c3_does_3_0_0_74_3 hts ⟨Nat.le_of_ble_eq_true rfl, Nat.le_of_ble_eq_true rfl⟩) (sl_vX_36 hA hK hP hS hZ) rfl rfl hl.1 rfl (lv_room (Nat.le_of_ble_eq_true rfl)) dX3_acts_51 ⟨Nat.le_refl _, Nat.le_refl _⟩) hA hS (fun r_89 f_86 L_87 Q_88 H locs hq hP hS => ?_)
              obtain ⟨⟨hI, hk_f_86, eL9, eQ9⟩, hq, p_90, u_91⟩ := hq
              rw [eL9, eQ9] at hP; clear eL9 eQ9
              have hF : sgK WkX3_acts f f_86 := sgK.tr hF hk_f_86 (by decide +kernel)
              obtain ⟨v_92, ev_92⟩ : ∃ z : Int32, z = f_86 36 3 := ⟨_, rfl⟩
              have q_93 : 0 ≤ v_92.toInt ∧ v_92.toInt ≤ 19 := by rw [ev_92]; exact hI 36 3
              have q_94 : (f_86 36 3).toInt = v_92.toInt := (congrArg Int32.toInt (show f_86 36 3 = v_92 from ev_92.symm))
              have k_96 : (4 : Int32).toInt = 4 := by decide
              have k_97 : (0 : Int32).toInt = 0 := by decide
              have k_98 : (0 : Int32).toInt = 0 := by decide
              exact hret _ _ _ _ (r_89) f_86 L Q dX3_acts_54 hP hS ⟨⟨hI, hF, rfl, rfl⟩, trivial, (Eq.trans (Eq.symm (hs.trans ((if_neg (fun z => absurd (z.symm.trans cs_18) (by decide))).trans ((if_neg (fun z => absurd (z.symm.trans cs_18) (by decide))).trans ((if_neg (fun z => absurd (z.symm.trans cs_18) (by decide))).trans ((if_neg (fun z => absurd (z.symm.trans cs_18) (by decide))).trans ((if_pos cs_18).trans (spl2_e u_91 (spl_e ev_92 rfl))))))))) hsp)⟩
            · skip
              have cs_18 := c
              have c_99 : v_12 = 5 := Int32.toInt_inj.mp (by have k9 : (5 : Int32).toInt = 5 := ti_5; omega)
              refine W.eq (g2 := F0 m 51 ls [.int 0, .int x2, .int 0, .int 5, .ref (h 36)]) (by rw [c_99]) ?_
              have q_100 : (f_15 36 3).toInt = 0 := (congrArg Int32.toInt (show f_15 36 3 = 0 from (by rw [ef_15, sg_up_s, sgu_n (by decide)]; exact (by rw [ef_14, sg_up_s, sgu_n (by decide)]; exact (by rw [ef_1, sg_up_s, sgu_s]))))).trans (by decide)
              refine sg_calli (va_runV (As := [.int 5, .int 0, .int x2, .int 0]) (rest := []) ⟨hx, hb, hml, hown, hts⟩ (kX3_does_5_0_0_f0_f5 l D ca za h hh f_15 L Q hI x2 (by rw [ef_15, sg_up_s, sgu_n (by decide)]; exact (by rw [ef_14, sg_up_s, sgu_n (by decide)]; exact (by rw [ef_1, sg_up_s, sgu_s]))) (Eq.trans (by rw [ef_15, sg_up_s, sgu_n (by decide)]; exact (by rw [ef_14, sg_up_s, sgu_s])) c_99) (by have k0 : (5 : Int32).toInt = 5 := ti_5; have k1 : (0 : Int32).toInt = 0 := ti_0; have k3 : (0 : Int32).toInt = 0 := ti_0; omega) H.size) (sl_c3_does_1_0_0_24_3 hts ⟨Nat.le_of_ble_eq_true rfl, Nat.le_of_ble_eq_true rfl⟩) (sl_vX_36 hA hK hP hS hZ) rfl rfl hl.1 rfl (lv_room (Nat.le_of_ble_eq_true rfl)) dX3_acts_51 ⟨Nat.le_refl _, Nat.le_refl _⟩) hA hS (fun r_105 f_102 L_103 Q_104 H locs hq hP hS => ?_)
              obtain ⟨⟨hI, hk_f_102, eL9, eQ9⟩, hq, p_106, u_107⟩ := hq
              rw [eL9, eQ9] at hP; clear eL9 eQ9
              have hF : sgK WkX3_acts f f_102 := sgK.tr hF hk_f_102 (by decide +kernel)
              obtain ⟨v_108, ev_108⟩ : ∃ z : Int32, z = f_102 36 3 := ⟨_, rfl⟩
              have q_109 : 0 ≤ v_108.toInt ∧ v_108.toInt ≤ 19 := by rw [ev_108]; exact hI 36 3
              have q_110 : (f_102 36 3).toInt = v_108.toInt := (congrArg Int32.toInt (show f_102 36 3 = v_108 from ev_108.symm))
              have k_112 : (5 : Int32).toInt = 5 := by decide
              have k_113 : (0 : Int32).toInt = 0 := by decide
              have k_114 : (0 : Int32).toInt = 0 := by decide
              exact hret _ _ _ _ (r_105) f_102 L Q dX3_acts_54 hP hS ⟨⟨hI, hF, rfl, rfl⟩, trivial, (Eq.trans (Eq.symm (hs.trans ((if_neg (fun z => absurd (z.symm.trans cs_18) (by decide))).trans ((if_neg (fun z => absurd (z.symm.trans cs_18) (by decide))).trans ((if_neg (fun z => absurd (z.symm.trans cs_18) (by decide))).trans ((if_neg (fun z => absurd (z.symm.trans cs_18) (by decide))).trans ((if_neg (fun z => absurd (z.symm.trans cs_18) (by decide))).trans ((if_pos cs_18).trans (spl2_e u_107 (spl_e ev_108 rfl)))))))))) hsp)⟩
            · skip
              have cs_18 := c
              have c_115 : v_12 = 6 := Int32.toInt_inj.mp (by have k9 : (6 : Int32).toInt = 6 := ti_6; omega)
              refine W.eq (g2 := F0 m 51 ls [.int 0, .int x2, .int 0, .int 6, .ref (h 36)]) (by rw [c_115]) ?_
              have q_116 : (f_15 36 3).toInt = 0 := (congrArg Int32.toInt (show f_15 36 3 = 0 from (by rw [ef_15, sg_up_s, sgu_n (by decide)]; exact (by rw [ef_14, sg_up_s, sgu_n (by decide)]; exact (by rw [ef_1, sg_up_s, sgu_s]))))).trans (by decide)
              refine sg_calli (va_runV (As := [.int 6, .int 0, .int x2, .int 0]) (rest := []) ⟨hx, hb, hml, hown, hts⟩ (kX3_does_6_0_0_f0_f6 l D ca za h hh f_15 L Q hI x2 (by rw [ef_15, sg_up_s, sgu_n (by decide)]; exact (by rw [ef_14, sg_up_s, sgu_n (by decide)]; exact (by rw [ef_1, sg_up_s, sgu_s]))) (Eq.trans (by rw [ef_15, sg_up_s, sgu_n (by decide)]; exact (by rw [ef_14, sg_up_s, sgu_s])) c_115) (by have k0 : (6 : Int32).toInt = 6 := ti_6; have k1 : (0 : Int32).toInt = 0 := ti_0; have k3 : (0 : Int32).toInt = 0 := ti_0; omega) H.size) (sl_c3_does_3_0_0_74_3 hts ⟨Nat.le_of_ble_eq_true rfl, Nat.le_of_ble_eq_true rfl⟩) (sl_vX_36 hA hK hP hS hZ) rfl rfl hl.1 rfl (lv_room (Nat.le_of_ble_eq_true rfl)) dX3_acts_51 ⟨Nat.le_refl _, Nat.le_refl _⟩) hA hS (fun r_121 f_118 L_119 Q_120 H locs hq hP hS => ?_)
              obtain ⟨⟨hI, hk_f_118, eL9, eQ9⟩, hq, p_122, u_123⟩ := hq
              rw [eL9, eQ9] at hP; clear eL9 eQ9
              have hF : sgK WkX3_acts f f_118 := sgK.tr hF hk_f_118 (by decide +kernel)
              obtain ⟨v_124, ev_124⟩ : ∃ z : Int32, z = f_118 36 3 := ⟨_, rfl⟩
              have q_125 : 0 ≤ v_124.toInt ∧ v_124.toInt ≤ 19 := by rw [ev_124]; exact hI 36 3
              have q_126 : (f_118 36 3).toInt = v_124.toInt := (congrArg Int32.toInt (show f_118 36 3 = v_124 from ev_124.symm))
              have k_128 : (6 : Int32).toInt = 6 := by decide
              have k_129 : (0 : Int32).toInt = 0 := by decide
              have k_130 : (0 : Int32).toInt = 0 := by decide
              exact hret _ _ _ _ (r_121) f_118 L Q dX3_acts_54 hP hS ⟨⟨hI, hF, rfl, rfl⟩, trivial, (Eq.trans (Eq.symm (hs.trans ((if_neg (fun z => absurd (z.symm.trans cs_18) (by decide))).trans ((if_neg (fun z => absurd (z.symm.trans cs_18) (by decide))).trans ((if_neg (fun z => absurd (z.symm.trans cs_18) (by decide))).trans ((if_neg (fun z => absurd (z.symm.trans cs_18) (by decide))).trans ((if_neg (fun z => absurd (z.symm.trans cs_18) (by decide))).trans ((if_neg (fun z => absurd (z.symm.trans cs_18) (by decide))).trans ((if_pos cs_18).trans (spl2_e u_123 (spl_e ev_124 rfl))))))))))) hsp)⟩
            · skip
              have cs_18 := c
              have c_131 : v_12 = 7 := Int32.toInt_inj.mp (by have k9 : (7 : Int32).toInt = 7 := ti_7; omega)
              refine W.eq (g2 := F0 m 51 ls [.int 0, .int x2, .int 0, .int 7, .ref (h 36)]) (by rw [c_131]) ?_
              have q_132 : (f_15 36 3).toInt = 0 := (congrArg Int32.toInt (show f_15 36 3 = 0 from (by rw [ef_15, sg_up_s, sgu_n (by decide)]; exact (by rw [ef_14, sg_up_s, sgu_n (by decide)]; exact (by rw [ef_1, sg_up_s, sgu_s]))))).trans (by decide)
              refine sg_calli (va_runV (As := [.int 7, .int 0, .int x2, .int 0]) (rest := []) ⟨hx, hb, hml, hown, hts⟩ (kX3_does_7_0_0_f0_f7 l D ca za h hh f_15 L Q hI x2 (by rw [ef_15, sg_up_s, sgu_n (by decide)]; exact (by rw [ef_14, sg_up_s, sgu_n (by decide)]; exact (by rw [ef_1, sg_up_s, sgu_s]))) (Eq.trans (by rw [ef_15, sg_up_s, sgu_n (by decide)]; exact (by rw [ef_14, sg_up_s, sgu_s])) c_131) (by have k0 : (7 : Int32).toInt = 7 := ti_7; have k1 : (0 : Int32).toInt = 0 := ti_0; have k3 : (0 : Int32).toInt = 0 := ti_0; omega) H.size) (sl_c3_does_3_0_0_74_3 hts ⟨Nat.le_of_ble_eq_true rfl, Nat.le_of_ble_eq_true rfl⟩) (sl_vX_36 hA hK hP hS hZ) rfl rfl hl.1 rfl (lv_room (Nat.le_of_ble_eq_true rfl)) dX3_acts_51 ⟨Nat.le_refl _, Nat.le_refl _⟩) hA hS (fun r_137 f_134 L_135 Q_136 H locs hq hP hS => ?_)
              obtain ⟨⟨hI, hk_f_134, eL9, eQ9⟩, hq, p_138, u_139⟩ := hq
              rw [eL9, eQ9] at hP; clear eL9 eQ9
              have hF : sgK WkX3_acts f f_134 := sgK.tr hF hk_f_134 (by decide +kernel)
              obtain ⟨v_140, ev_140⟩ : ∃ z : Int32, z = f_134 36 3 := ⟨_, rfl⟩
              have q_141 : 0 ≤ v_140.toInt ∧ v_140.toInt ≤ 19 := by rw [ev_140]; exact hI 36 3
              have q_142 : (f_134 36 3).toInt = v_140.toInt := (congrArg Int32.toInt (show f_134 36 3 = v_140 from ev_140.symm))
              have k_144 : (7 : Int32).toInt = 7 := by decide
              have k_145 : (0 : Int32).toInt = 0 := by decide
              have k_146 : (0 : Int32).toInt = 0 := by decide
              exact hret _ _ _ _ (r_137) f_134 L Q dX3_acts_54 hP hS ⟨⟨hI, hF, rfl, rfl⟩, trivial, (Eq.trans (Eq.symm (hs.trans ((if_neg (fun z => absurd (z.symm.trans cs_18) (by decide))).trans ((if_neg (fun z => absurd (z.symm.trans cs_18) (by decide))).trans ((if_neg (fun z => absurd (z.symm.trans cs_18) (by decide))).trans ((if_neg (fun z => absurd (z.symm.trans cs_18) (by decide))).trans ((if_neg (fun z => absurd (z.symm.trans cs_18) (by decide))).trans ((if_neg (fun z => absurd (z.symm.trans cs_18) (by decide))).trans ((if_neg (fun z => absurd (z.symm.trans cs_18) (by decide))).trans (spl2_e u_139 (spl_e ev_140 rfl))))))))))) hsp)⟩
          · skip
            have cs_16 := c
            have c_147 : x1 = 1 := Int32.toInt_inj.mp (by have k9 : (1 : Int32).toInt = 1 := ti_1; omega)
            refine W.eq (g2 := F0 m 51 ls [.int 0, .int x2, .int 1, .int v_12, .ref (h 36)]) (by rw [c_147]) ?_
            rcases (show v_12.toInt = 0 ∨ v_12.toInt = 1 ∨ v_12.toInt = 2 ∨ v_12.toInt = 3 ∨ v_12.toInt = 4 ∨ v_12.toInt = 5 ∨ v_12.toInt = 6 ∨ v_12.toInt = 7 from by omega) with c | c | c | c | c | c | c | c
            · skip
              have cs_148 := c
              have c_149 : v_12 = 0 := Int32.toInt_inj.mp (by have k9 : (0 : Int32).toInt = 0 := ti_0; omega)
              refine W.eq (g2 := F0 m 51 ls [.int 0, .int x2, .int 1, .int 0, .ref (h 36)]) (by rw [c_149]) ?_
              have q_150 : (f_15 36 3).toInt = 0 := (congrArg Int32.toInt (show f_15 36 3 = 0 from (by rw [ef_15, sg_up_s, sgu_n (by decide)]; exact (by rw [ef_14, sg_up_s, sgu_n (by decide)]; exact (by rw [ef_1, sg_up_s, sgu_s]))))).trans (by decide)
              refine sg_calli (va_runV (As := [.int 0, .int 1, .int x2, .int 0]) (rest := []) ⟨hx, hb, hml, hown, hts⟩ (kX3_does_0_1_0_f0_f0 l D ca za h hh f_15 L Q hI x2 (by rw [ef_15, sg_up_s, sgu_n (by decide)]; exact (by rw [ef_14, sg_up_s, sgu_n (by decide)]; exact (by rw [ef_1, sg_up_s, sgu_s]))) (Eq.trans (by rw [ef_15, sg_up_s, sgu_n (by decide)]; exact (by rw [ef_14, sg_up_s, sgu_s])) c_149) (by have k0 : (0 : Int32).toInt = 0 := ti_0; have k1 : (1 : Int32).toInt = 1 := ti_1; have k3 : (0 : Int32).toInt = 0 := ti_0; omega) H.size) (sl_c3_does_3_0_0_74_3 hts ⟨Nat.le_of_ble_eq_true rfl, Nat.le_of_ble_eq_true rfl⟩) (sl_vX_36 hA hK hP hS hZ) rfl rfl hl.1 rfl (lv_room (Nat.le_of_ble_eq_true rfl)) dX3_acts_51 ⟨Nat.le_refl _, Nat.le_refl _⟩) hA hS (fun r_155 f_152 L_153 Q_154 H locs hq hP hS => ?_)
              obtain ⟨⟨hI, hk_f_152, eL9, eQ9⟩, hq, p_156, u_157⟩ := hq
              rw [eL9, eQ9] at hP; clear eL9 eQ9
              have hF : sgK WkX3_acts f f_152 := sgK.tr hF hk_f_152 (by decide +kernel)
              obtain ⟨v_158, ev_158⟩ : ∃ z : Int32, z = f_152 36 3 := ⟨_, rfl⟩
              have q_159 : 0 ≤ v_158.toInt ∧ v_158.toInt ≤ 19 := by rw [ev_158]; exact hI 36 3
              have q_160 : (f_152 36 3).toInt = v_158.toInt := (congrArg Int32.toInt (show f_152 36 3 = v_158 from ev_158.symm))
              have k_162 : (0 : Int32).toInt = 0 := by decide
              have k_163 : (1 : Int32).toInt = 1 := by decide
              have k_164 : (0 : Int32).toInt = 0 := by decide
              exact hret _ _ _ _ (r_155) f_152 L Q dX3_acts_54 hP hS ⟨⟨hI, hF, rfl, rfl⟩, trivial, (Eq.trans (Eq.symm (hs.trans ((if_neg (fun z => absurd (z.symm.trans cs_16) (by decide))).trans ((if_pos cs_16).trans ((if_pos cs_148).trans (spl2_e u_157 (spl_e ev_158 rfl))))))) hsp)⟩
            · skip
              have cs_148 := c
              have c_165 : v_12 = 1 := Int32.toInt_inj.mp (by have k9 : (1 : Int32).toInt = 1 := ti_1; omega)
              refine W.eq (g2 := F0 m 51 ls [.int 0, .int x2, .int 1, .int 1, .ref (h 36)]) (by rw [c_165]) ?_
              have q_166 : (f_15 36 3).toInt = 0 := (congrArg Int32.toInt (show f_15 36 3 = 0 from (by rw [ef_15, sg_up_s, sgu_n (by decide)]; exact (by rw [ef_14, sg_up_s, sgu_n (by decide)]; exact (by rw [ef_1, sg_up_s, sgu_s]))))).trans (by decide)
              refine sg_calli (va_runV (As := [.int 1, .int 1, .int x2, .int 0]) (rest := []) ⟨hx, hb, hml, hown, hts⟩ (kX3_does_1_1_0_f0_f1 l D ca za h hh f_15 L Q hI x2 (by rw [ef_15, sg_up_s, sgu_n (by decide)]; exact (by rw [ef_14, sg_up_s, sgu_n (by decide)]; exact (by rw [ef_1, sg_up_s, sgu_s]))) (Eq.trans (by rw [ef_15, sg_up_s, sgu_n (by decide)]; exact (by rw [ef_14, sg_up_s, sgu_s])) c_165) (by have k0 : (1 : Int32).toInt = 1 := ti_1; have k1 : (1 : Int32).toInt = 1 := ti_1; have k3 : (0 : Int32).toInt = 0 := ti_0; omega) H.size) (sl_c3_does_5_0_0_124_3 hts ⟨Nat.le_of_ble_eq_true rfl, Nat.le_of_ble_eq_true rfl⟩) (sl_vX_36 hA hK hP hS hZ) rfl rfl hl.1 rfl (lv_room (Nat.le_of_ble_eq_true rfl)) dX3_acts_51 ⟨Nat.le_refl _, Nat.le_refl _⟩) hA hS (fun r_171 f_168 L_169 Q_170 H locs hq hP hS => ?_)
              obtain ⟨⟨hI, hk_f_168, eL9, eQ9⟩, hq, p_172, u_173⟩ := hq
              rw [eL9, eQ9] at hP; clear eL9 eQ9
              have hF : sgK WkX3_acts f f_168 := sgK.tr hF hk_f_168 (by decide +kernel)
              obtain ⟨v_174, ev_174⟩ : ∃ z : Int32, z = f_168 36 3 := ⟨_, rfl⟩
              have q_175 : 0 ≤ v_174.toInt ∧ v_174.toInt ≤ 19 := by rw [ev_174]; exact hI 36 3
              have q_176 : (f_168 36 3).toInt = v_174.toInt := (congrArg Int32.toInt (show f_168 36 3 = v_174 from ev_174.symm))
              have k_178 : (1 : Int32).toInt = 1 := by decide
              have k_179 : (1 : Int32).toInt = 1 := by decide
              have k_180 : (0 : Int32).toInt = 0 := by decide
              exact hret _ _ _ _ (r_171) f_168 L Q dX3_acts_54 hP hS ⟨⟨hI, hF, rfl, rfl⟩, trivial, (Eq.trans (Eq.symm (hs.trans ((if_neg (fun z => absurd (z.symm.trans cs_16) (by decide))).trans ((if_pos cs_16).trans ((if_neg (fun z => absurd (z.symm.trans cs_148) (by decide))).trans ((if_pos cs_148).trans (spl2_e u_173 (spl_e ev_174 rfl)))))))) hsp)⟩
            · skip
              have cs_148 := c
              have c_181 : v_12 = 2 := Int32.toInt_inj.mp (by have k9 : (2 : Int32).toInt = 2 := ti_2; omega)
              refine W.eq (g2 := F0 m 51 ls [.int 0, .int x2, .int 1, .int 2, .ref (h 36)]) (by rw [c_181]) ?_
              have q_182 : (f_15 36 3).toInt = 0 := (congrArg Int32.toInt (show f_15 36 3 = 0 from (by rw [ef_15, sg_up_s, sgu_n (by decide)]; exact (by rw [ef_14, sg_up_s, sgu_n (by decide)]; exact (by rw [ef_1, sg_up_s, sgu_s]))))).trans (by decide)
              refine sg_calli (va_runV (As := [.int 2, .int 1, .int x2, .int 0]) (rest := []) ⟨hx, hb, hml, hown, hts⟩ (kX3_does_2_1_0_f0_f2 l D ca za h hh f_15 L Q hI x2 (by rw [ef_15, sg_up_s, sgu_n (by decide)]; exact (by rw [ef_14, sg_up_s, sgu_n (by decide)]; exact (by rw [ef_1, sg_up_s, sgu_s]))) (Eq.trans (by rw [ef_15, sg_up_s, sgu_n (by decide)]; exact (by rw [ef_14, sg_up_s, sgu_s])) c_181) (by have k0 : (2 : Int32).toInt = 2 := ti_2; have k1 : (1 : Int32).toInt = 1 := ti_1; have k3 : (0 : Int32).toInt = 0 := ti_0; omega) H.size) (sl_c3_does_5_0_0_124_3 hts ⟨Nat.le_of_ble_eq_true rfl, Nat.le_of_ble_eq_true rfl⟩) (sl_vX_36 hA hK hP hS hZ) rfl rfl hl.1 rfl (lv_room (Nat.le_of_ble_eq_true rfl)) dX3_acts_51 ⟨Nat.le_refl _, Nat.le_refl _⟩) hA hS (fun r_187 f_184 L_185 Q_186 H locs hq hP hS => ?_)
              obtain ⟨⟨hI, hk_f_184, eL9, eQ9⟩, hq, p_188, u_189⟩ := hq
              rw [eL9, eQ9] at hP; clear eL9 eQ9
              have hF : sgK WkX3_acts f f_184 := sgK.tr hF hk_f_184 (by decide +kernel)
              obtain ⟨v_190, ev_190⟩ : ∃ z : Int32, z = f_184 36 3 := ⟨_, rfl⟩
              have q_191 : 0 ≤ v_190.toInt ∧ v_190.toInt ≤ 19 := by rw [ev_190]; exact hI 36 3
              have q_192 : (f_184 36 3).toInt = v_190.toInt := (congrArg Int32.toInt (show f_184 36 3 = v_190 from ev_190.symm))
              have k_194 : (2 : Int32).toInt = 2 := by decide
              have k_195 : (1 : Int32).toInt = 1 := by decide
              have k_196 : (0 : Int32).toInt = 0 := by decide
              exact hret _ _ _ _ (r_187) f_184 L Q dX3_acts_54 hP hS ⟨⟨hI, hF, rfl, rfl⟩, trivial, (Eq.trans (Eq.symm (hs.trans ((if_neg (fun z => absurd (z.symm.trans cs_16) (by decide))).trans ((if_pos cs_16).trans ((if_neg (fun z => absurd (z.symm.trans cs_148) (by decide))).trans ((if_neg (fun z => absurd (z.symm.trans cs_148) (by decide))).trans ((if_pos cs_148).trans (spl2_e u_189 (spl_e ev_190 rfl))))))))) hsp)⟩
            · skip
              have cs_148 := c
              have c_197 : v_12 = 3 := Int32.toInt_inj.mp (by have k9 : (3 : Int32).toInt = 3 := ti_3; omega)
              refine W.eq (g2 := F0 m 51 ls [.int 0, .int x2, .int 1, .int 3, .ref (h 36)]) (by rw [c_197]) ?_
              have q_198 : (f_15 36 3).toInt = 0 := (congrArg Int32.toInt (show f_15 36 3 = 0 from (by rw [ef_15, sg_up_s, sgu_n (by decide)]; exact (by rw [ef_14, sg_up_s, sgu_n (by decide)]; exact (by rw [ef_1, sg_up_s, sgu_s]))))).trans (by decide)
              refine sg_calli (va_runV (As := [.int 3, .int 1, .int x2, .int 0]) (rest := []) ⟨hx, hb, hml, hown, hts⟩ (kX3_does_3_1_0_f0_f3 l D ca za h hh f_15 L Q hI x2 (by rw [ef_15, sg_up_s, sgu_n (by decide)]; exact (by rw [ef_14, sg_up_s, sgu_n (by decide)]; exact (by rw [ef_1, sg_up_s, sgu_s]))) (Eq.trans (by rw [ef_15, sg_up_s, sgu_n (by decide)]; exact (by rw [ef_14, sg_up_s, sgu_s])) c_197) (by have k0 : (3 : Int32).toInt = 3 := ti_3; have k1 : (1 : Int32).toInt = 1 := ti_1; have k3 : (0 : Int32).toInt = 0 := ti_0; omega) H.size) (sl_c3_does_7_0_0_174_3 hts ⟨Nat.le_of_ble_eq_true rfl, Nat.le_of_ble_eq_true rfl⟩) (sl_vX_36 hA hK hP hS hZ) rfl rfl hl.1 rfl (lv_room (Nat.le_of_ble_eq_true rfl)) dX3_acts_51 ⟨Nat.le_refl _, Nat.le_refl _⟩) hA hS (fun r_203 f_200 L_201 Q_202 H locs hq hP hS => ?_)
              obtain ⟨⟨hI, hk_f_200, eL9, eQ9⟩, hq, p_204, u_205⟩ := hq
              rw [eL9, eQ9] at hP; clear eL9 eQ9
              have hF : sgK WkX3_acts f f_200 := sgK.tr hF hk_f_200 (by decide +kernel)
              obtain ⟨v_206, ev_206⟩ : ∃ z : Int32, z = f_200 36 3 := ⟨_, rfl⟩
              have q_207 : 0 ≤ v_206.toInt ∧ v_206.toInt ≤ 19 := by rw [ev_206]; exact hI 36 3
              have q_208 : (f_200 36 3).toInt = v_206.toInt := (congrArg Int32.toInt (show f_200 36 3 = v_206 from ev_206.symm))
              have k_210 : (3 : Int32).toInt = 3 := by decide
              have k_211 : (1 : Int32).toInt = 1 := by decide
              have k_212 : (0 : Int32).toInt = 0 := by decide
              exact hret _ _ _ _ (r_203) f_200 L Q dX3_acts_54 hP hS ⟨⟨hI, hF, rfl, rfl⟩, trivial, (Eq.trans (Eq.symm (hs.trans ((if_neg (fun z => absurd (z.symm.trans cs_16) (by decide))).trans ((if_pos cs_16).trans ((if_neg (fun z => absurd (z.symm.trans cs_148) (by decide))).trans ((if_neg (fun z => absurd (z.symm.trans cs_148) (by decide))).trans ((if_neg (fun z => absurd (z.symm.trans cs_148) (by decide))).trans ((if_pos cs_148).trans (spl2_e u_205 (spl_e ev_206 rfl)))))))))) hsp)⟩
            · skip
              have cs_148 := c
              have c_213 : v_12 = 4 := Int32.toInt_inj.mp (by have k9 : (4 : Int32).toInt = 4 := ti_4; omega)
              refine W.eq (g2 := F0 m 51 ls [.int 0, .int x2, .int 1, .int 4, .ref (h 36)]) (by rw [c_213]) ?_
              have q_214 : (f_15 36 3).toInt = 0 := (congrArg Int32.toInt (show f_15 36 3 = 0 from (by rw [ef_15, sg_up_s, sgu_n (by decide)]; exact (by rw [ef_14, sg_up_s, sgu_n (by decide)]; exact (by rw [ef_1, sg_up_s, sgu_s]))))).trans (by decide)
              refine sg_calli (va_runV (As := [.int 4, .int 1, .int x2, .int 0]) (rest := []) ⟨hx, hb, hml, hown, hts⟩ (kX3_does_4_1_0_f0_f4 l D ca za h hh f_15 L Q hI x2 (by rw [ef_15, sg_up_s, sgu_n (by decide)]; exact (by rw [ef_14, sg_up_s, sgu_n (by decide)]; exact (by rw [ef_1, sg_up_s, sgu_s]))) (Eq.trans (by rw [ef_15, sg_up_s, sgu_n (by decide)]; exact (by rw [ef_14, sg_up_s, sgu_s])) c_213) (by have k0 : (4 : Int32).toInt = 4 := ti_4; have k1 : (1 : Int32).toInt = 1 := ti_1; have k3 : (0 : Int32).toInt = 0 := ti_0; omega) H.size) (sl_c3_does_5_0_0_124_3 hts ⟨Nat.le_of_ble_eq_true rfl, Nat.le_of_ble_eq_true rfl⟩) (sl_vX_36 hA hK hP hS hZ) rfl rfl hl.1 rfl (lv_room (Nat.le_of_ble_eq_true rfl)) dX3_acts_51 ⟨Nat.le_refl _, Nat.le_refl _⟩) hA hS (fun r_219 f_216 L_217 Q_218 H locs hq hP hS => ?_)
              obtain ⟨⟨hI, hk_f_216, eL9, eQ9⟩, hq, p_220, u_221⟩ := hq
              rw [eL9, eQ9] at hP; clear eL9 eQ9
              have hF : sgK WkX3_acts f f_216 := sgK.tr hF hk_f_216 (by decide +kernel)
              obtain ⟨v_222, ev_222⟩ : ∃ z : Int32, z = f_216 36 3 := ⟨_, rfl⟩
              have q_223 : 0 ≤ v_222.toInt ∧ v_222.toInt ≤ 19 := by rw [ev_222]; exact hI 36 3
              have q_224 : (f_216 36 3).toInt = v_222.toInt := (congrArg Int32.toInt (show f_216 36 3 = v_222 from ev_222.symm))
              have k_226 : (4 : Int32).toInt = 4 := by decide
              have k_227 : (1 : Int32).toInt = 1 := by decide
              have k_228 : (0 : Int32).toInt = 0 := by decide
              exact hret _ _ _ _ (r_219) f_216 L Q dX3_acts_54 hP hS ⟨⟨hI, hF, rfl, rfl⟩, trivial, (Eq.trans (Eq.symm (hs.trans ((if_neg (fun z => absurd (z.symm.trans cs_16) (by decide))).trans ((if_pos cs_16).trans ((if_neg (fun z => absurd (z.symm.trans cs_148) (by decide))).trans ((if_neg (fun z => absurd (z.symm.trans cs_148) (by decide))).trans ((if_neg (fun z => absurd (z.symm.trans cs_148) (by decide))).trans ((if_neg (fun z => absurd (z.symm.trans cs_148) (by decide))).trans ((if_pos cs_148).trans (spl2_e u_221 (spl_e ev_222 rfl))))))))))) hsp)⟩
            · skip
              have cs_148 := c
              have c_229 : v_12 = 5 := Int32.toInt_inj.mp (by have k9 : (5 : Int32).toInt = 5 := ti_5; omega)
              refine W.eq (g2 := F0 m 51 ls [.int 0, .int x2, .int 1, .int 5, .ref (h 36)]) (by rw [c_229]) ?_
              have q_230 : (f_15 36 3).toInt = 0 := (congrArg Int32.toInt (show f_15 36 3 = 0 from (by rw [ef_15, sg_up_s, sgu_n (by decide)]; exact (by rw [ef_14, sg_up_s, sgu_n (by decide)]; exact (by rw [ef_1, sg_up_s, sgu_s]))))).trans (by decide)
              refine sg_calli (va_runV (As := [.int 5, .int 1, .int x2, .int 0]) (rest := []) ⟨hx, hb, hml, hown, hts⟩ (kX3_does_5_1_0_f0_f5 l D ca za h hh f_15 L Q hI x2 (by rw [ef_15, sg_up_s, sgu_n (by decide)]; exact (by rw [ef_14, sg_up_s, sgu_n (by decide)]; exact (by rw [ef_1, sg_up_s, sgu_s]))) (Eq.trans (by rw [ef_15, sg_up_s, sgu_n (by decide)]; exact (by rw [ef_14, sg_up_s, sgu_s])) c_229) (by have k0 : (5 : Int32).toInt = 5 := ti_5; have k1 : (1 : Int32).toInt = 1 := ti_1; have k3 : (0 : Int32).toInt = 0 := ti_0; omega) H.size) (sl_c3_does_7_0_0_174_3 hts ⟨Nat.le_of_ble_eq_true rfl, Nat.le_of_ble_eq_true rfl⟩) (sl_vX_36 hA hK hP hS hZ) rfl rfl hl.1 rfl (lv_room (Nat.le_of_ble_eq_true rfl)) dX3_acts_51 ⟨Nat.le_refl _, Nat.le_refl _⟩) hA hS (fun r_235 f_232 L_233 Q_234 H locs hq hP hS => ?_)
              obtain ⟨⟨hI, hk_f_232, eL9, eQ9⟩, hq, p_236, u_237⟩ := hq
              rw [eL9, eQ9] at hP; clear eL9 eQ9
              have hF : sgK WkX3_acts f f_232 := sgK.tr hF hk_f_232 (by decide +kernel)
              obtain ⟨v_238, ev_238⟩ : ∃ z : Int32, z = f_232 36 3 := ⟨_, rfl⟩
              have q_239 : 0 ≤ v_238.toInt ∧ v_238.toInt ≤ 19 := by rw [ev_238]; exact hI 36 3
              have q_240 : (f_232 36 3).toInt = v_238.toInt := (congrArg Int32.toInt (show f_232 36 3 = v_238 from ev_238.symm))
              have k_242 : (5 : Int32).toInt = 5 := by decide
              have k_243 : (1 : Int32).toInt = 1 := by decide
              have k_244 : (0 : Int32).toInt = 0 := by decide
              exact hret _ _ _ _ (r_235) f_232 L Q dX3_acts_54 hP hS ⟨⟨hI, hF, rfl, rfl⟩, trivial, (Eq.trans (Eq.symm (hs.trans ((if_neg (fun z => absurd (z.symm.trans cs_16) (by decide))).trans ((if_pos cs_16).trans ((if_neg (fun z => absurd (z.symm.trans cs_148) (by decide))).trans ((if_neg (fun z => absurd (z.symm.trans cs_148) (by decide))).trans ((if_neg (fun z => absurd (z.symm.trans cs_148) (by decide))).trans ((if_neg (fun z => absurd (z.symm.trans cs_148) (by decide))).trans ((if_neg (fun z => absurd (z.symm.trans cs_148) (by decide))).trans ((if_pos cs_148).trans (spl2_e u_237 (spl_e ev_238 rfl)))))))))))) hsp)⟩
            · skip
              have cs_148 := c
              have c_245 : v_12 = 6 := Int32.toInt_inj.mp (by have k9 : (6 : Int32).toInt = 6 := ti_6; omega)
              refine W.eq (g2 := F0 m 51 ls [.int 0, .int x2, .int 1, .int 6, .ref (h 36)]) (by rw [c_245]) ?_
              have q_246 : (f_15 36 3).toInt = 0 := (congrArg Int32.toInt (show f_15 36 3 = 0 from (by rw [ef_15, sg_up_s, sgu_n (by decide)]; exact (by rw [ef_14, sg_up_s, sgu_n (by decide)]; exact (by rw [ef_1, sg_up_s, sgu_s]))))).trans (by decide)
              refine sg_calli (va_runV (As := [.int 6, .int 1, .int x2, .int 0]) (rest := []) ⟨hx, hb, hml, hown, hts⟩ (kX3_does_6_1_0_f0_f6 l D ca za h hh f_15 L Q hI x2 (by rw [ef_15, sg_up_s, sgu_n (by decide)]; exact (by rw [ef_14, sg_up_s, sgu_n (by decide)]; exact (by rw [ef_1, sg_up_s, sgu_s]))) (Eq.trans (by rw [ef_15, sg_up_s, sgu_n (by decide)]; exact (by rw [ef_14, sg_up_s, sgu_s])) c_245) (by have k0 : (6 : Int32).toInt = 6 := ti_6; have k1 : (1 : Int32).toInt = 1 := ti_1; have k3 : (0 : Int32).toInt = 0 := ti_0; omega) H.size) (sl_c3_does_5_0_0_124_3 hts ⟨Nat.le_of_ble_eq_true rfl, Nat.le_of_ble_eq_true rfl⟩) (sl_vX_36 hA hK hP hS hZ) rfl rfl hl.1 rfl (lv_room (Nat.le_of_ble_eq_true rfl)) dX3_acts_51 ⟨Nat.le_refl _, Nat.le_refl _⟩) hA hS (fun r_251 f_248 L_249 Q_250 H locs hq hP hS => ?_)
              obtain ⟨⟨hI, hk_f_248, eL9, eQ9⟩, hq, p_252, u_253⟩ := hq
              rw [eL9, eQ9] at hP; clear eL9 eQ9
              have hF : sgK WkX3_acts f f_248 := sgK.tr hF hk_f_248 (by decide +kernel)
              obtain ⟨v_254, ev_254⟩ : ∃ z : Int32, z = f_248 36 3 := ⟨_, rfl⟩
              have q_255 : 0 ≤ v_254.toInt ∧ v_254.toInt ≤ 19 := by rw [ev_254]; exact hI 36 3
              have q_256 : (f_248 36 3).toInt = v_254.toInt := (congrArg Int32.toInt (show f_248 36 3 = v_254 from ev_254.symm))
              have k_258 : (6 : Int32).toInt = 6 := by decide
              have k_259 : (1 : Int32).toInt = 1 := by decide
              have k_260 : (0 : Int32).toInt = 0 := by decide
              exact hret _ _ _ _ (r_251) f_248 L Q dX3_acts_54 hP hS ⟨⟨hI, hF, rfl, rfl⟩, trivial, (Eq.trans (Eq.symm (hs.trans ((if_neg (fun z => absurd (z.symm.trans cs_16) (by decide))).trans ((if_pos cs_16).trans ((if_neg (fun z => absurd (z.symm.trans cs_148) (by decide))).trans ((if_neg (fun z => absurd (z.symm.trans cs_148) (by decide))).trans ((if_neg (fun z => absurd (z.symm.trans cs_148) (by decide))).trans ((if_neg (fun z => absurd (z.symm.trans cs_148) (by decide))).trans ((if_neg (fun z => absurd (z.symm.trans cs_148) (by decide))).trans ((if_neg (fun z => absurd (z.symm.trans cs_148) (by decide))).trans ((if_pos cs_148).trans (spl2_e u_253 (spl_e ev_254 rfl))))))))))))) hsp)⟩
            · skip
              have cs_148 := c
              have c_261 : v_12 = 7 := Int32.toInt_inj.mp (by have k9 : (7 : Int32).toInt = 7 := ti_7; omega)
              refine W.eq (g2 := F0 m 51 ls [.int 0, .int x2, .int 1, .int 7, .ref (h 36)]) (by rw [c_261]) ?_
              have q_262 : (f_15 36 3).toInt = 0 := (congrArg Int32.toInt (show f_15 36 3 = 0 from (by rw [ef_15, sg_up_s, sgu_n (by decide)]; exact (by rw [ef_14, sg_up_s, sgu_n (by decide)]; exact (by rw [ef_1, sg_up_s, sgu_s]))))).trans (by decide)
              refine sg_calli (va_runV (As := [.int 7, .int 1, .int x2, .int 0]) (rest := []) ⟨hx, hb, hml, hown, hts⟩ (kX3_does_7_1_0_f0_f7 l D ca za h hh f_15 L Q hI x2 (by rw [ef_15, sg_up_s, sgu_n (by decide)]; exact (by rw [ef_14, sg_up_s, sgu_n (by decide)]; exact (by rw [ef_1, sg_up_s, sgu_s]))) (Eq.trans (by rw [ef_15, sg_up_s, sgu_n (by decide)]; exact (by rw [ef_14, sg_up_s, sgu_s])) c_261) (by have k0 : (7 : Int32).toInt = 7 := ti_7; have k1 : (1 : Int32).toInt = 1 := ti_1; have k3 : (0 : Int32).toInt = 0 := ti_0; omega) H.size) (sl_c3_does_7_0_0_174_3 hts ⟨Nat.le_of_ble_eq_true rfl, Nat.le_of_ble_eq_true rfl⟩) (sl_vX_36 hA hK hP hS hZ) rfl rfl hl.1 rfl (lv_room (Nat.le_of_ble_eq_true rfl)) dX3_acts_51 ⟨Nat.le_refl _, Nat.le_refl _⟩) hA hS (fun r_267 f_264 L_265 Q_266 H locs hq hP hS => ?_)
              obtain ⟨⟨hI, hk_f_264, eL9, eQ9⟩, hq, p_268, u_269⟩ := hq
              rw [eL9, eQ9] at hP; clear eL9 eQ9
              have hF : sgK WkX3_acts f f_264 := sgK.tr hF hk_f_264 (by decide +kernel)
              obtain ⟨v_270, ev_270⟩ : ∃ z : Int32, z = f_264 36 3 := ⟨_, rfl⟩
              have q_271 : 0 ≤ v_270.toInt ∧ v_270.toInt ≤ 19 := by rw [ev_270]; exact hI 36 3
              have q_272 : (f_264 36 3).toInt = v_270.toInt := (congrArg Int32.toInt (show f_264 36 3 = v_270 from ev_270.symm))
              have k_274 : (7 : Int32).toInt = 7 := by decide
              have k_275 : (1 : Int32).toInt = 1 := by decide
              have k_276 : (0 : Int32).toInt = 0 := by decide
              exact hret _ _ _ _ (r_267) f_264 L Q dX3_acts_54 hP hS ⟨⟨hI, hF, rfl, rfl⟩, trivial, (Eq.trans (Eq.symm (hs.trans ((if_neg (fun z => absurd (z.symm.trans cs_16) (by decide))).trans ((if_pos cs_16).trans ((if_neg (fun z => absurd (z.symm.trans cs_148) (by decide))).trans ((if_neg (fun z => absurd (z.symm.trans cs_148) (by decide))).trans ((if_neg (fun z => absurd (z.symm.trans cs_148) (by decide))).trans ((if_neg (fun z => absurd (z.symm.trans cs_148) (by decide))).trans ((if_neg (fun z => absurd (z.symm.trans cs_148) (by decide))).trans ((if_neg (fun z => absurd (z.symm.trans cs_148) (by decide))).trans ((if_neg (fun z => absurd (z.symm.trans cs_148) (by decide))).trans (spl2_e u_269 (spl_e ev_270 rfl))))))))))))) hsp)⟩
          · skip
            have cs_16 := c
            have c_277 : x1 = 2 := Int32.toInt_inj.mp (by have k9 : (2 : Int32).toInt = 2 := ti_2; omega)
            refine W.eq (g2 := F0 m 51 ls [.int 0, .int x2, .int 2, .int v_12, .ref (h 36)]) (by rw [c_277]) ?_
            rcases (show v_12.toInt = 0 ∨ v_12.toInt = 1 ∨ v_12.toInt = 2 ∨ v_12.toInt = 3 ∨ v_12.toInt = 4 ∨ v_12.toInt = 5 ∨ v_12.toInt = 6 ∨ v_12.toInt = 7 from by omega) with c | c | c | c | c | c | c | c
            · skip
              have cs_278 := c
              have c_279 : v_12 = 0 := Int32.toInt_inj.mp (by have k9 : (0 : Int32).toInt = 0 := ti_0; omega)
              refine W.eq (g2 := F0 m 51 ls [.int 0, .int x2, .int 2, .int 0, .ref (h 36)]) (by rw [c_279]) ?_
              have q_280 : (f_15 36 3).toInt = 0 := (congrArg Int32.toInt (show f_15 36 3 = 0 from (by rw [ef_15, sg_up_s, sgu_n (by decide)]; exact (by rw [ef_14, sg_up_s, sgu_n (by decide)]; exact (by rw [ef_1, sg_up_s, sgu_s]))))).trans (by decide)
              refine sg_calli (va_runV (As := [.int 0, .int 2, .int x2, .int 0]) (rest := []) ⟨hx, hb, hml, hown, hts⟩ (kX3_does_0_2_0_f0_f0 l D ca za h hh f_15 L Q hI x2 (by rw [ef_15, sg_up_s, sgu_n (by decide)]; exact (by rw [ef_14, sg_up_s, sgu_n (by decide)]; exact (by rw [ef_1, sg_up_s, sgu_s]))) (Eq.trans (by rw [ef_15, sg_up_s, sgu_n (by decide)]; exact (by rw [ef_14, sg_up_s, sgu_s])) c_279) (by have k0 : (0 : Int32).toInt = 0 := ti_0; have k1 : (2 : Int32).toInt = 2 := ti_2; have k3 : (0 : Int32).toInt = 0 := ti_0; omega) H.size) (sl_c3_does_1_0_0_24_3 hts ⟨Nat.le_of_ble_eq_true rfl, Nat.le_of_ble_eq_true rfl⟩) (sl_vX_36 hA hK hP hS hZ) rfl rfl hl.1 rfl (lv_room (Nat.le_of_ble_eq_true rfl)) dX3_acts_51 ⟨Nat.le_refl _, Nat.le_refl _⟩) hA hS (fun r_285 f_282 L_283 Q_284 H locs hq hP hS => ?_)
              obtain ⟨⟨hI, hk_f_282, eL9, eQ9⟩, hq, p_286, u_287⟩ := hq
              rw [eL9, eQ9] at hP; clear eL9 eQ9
              have hF : sgK WkX3_acts f f_282 := sgK.tr hF hk_f_282 (by decide +kernel)
              obtain ⟨v_288, ev_288⟩ : ∃ z : Int32, z = f_282 36 3 := ⟨_, rfl⟩
              have q_289 : 0 ≤ v_288.toInt ∧ v_288.toInt ≤ 19 := by rw [ev_288]; exact hI 36 3
              have q_290 : (f_282 36 3).toInt = v_288.toInt := (congrArg Int32.toInt (show f_282 36 3 = v_288 from ev_288.symm))
              have k_292 : (0 : Int32).toInt = 0 := by decide
              have k_293 : (2 : Int32).toInt = 2 := by decide
              have k_294 : (0 : Int32).toInt = 0 := by decide
              exact hret _ _ _ _ (r_285) f_282 L Q dX3_acts_54 hP hS ⟨⟨hI, hF, rfl, rfl⟩, trivial, (Eq.trans (Eq.symm (hs.trans ((if_neg (fun z => absurd (z.symm.trans cs_16) (by decide))).trans ((if_neg (fun z => absurd (z.symm.trans cs_16) (by decide))).trans ((if_pos cs_16).trans ((if_pos cs_278).trans (spl2_e u_287 (spl_e ev_288 rfl)))))))) hsp)⟩
            · skip
              have cs_278 := c
              have c_295 : v_12 = 1 := Int32.toInt_inj.mp (by have k9 : (1 : Int32).toInt = 1 := ti_1; omega)
              refine W.eq (g2 := F0 m 51 ls [.int 0, .int x2, .int 2, .int 1, .ref (h 36)]) (by rw [c_295]) ?_
              have q_296 : (f_15 36 3).toInt = 0 := (congrArg Int32.toInt (show f_15 36 3 = 0 from (by rw [ef_15, sg_up_s, sgu_n (by decide)]; exact (by rw [ef_14, sg_up_s, sgu_n (by decide)]; exact (by rw [ef_1, sg_up_s, sgu_s]))))).trans (by decide)
              refine sg_calli (va_runV (As := [.int 1, .int 2, .int x2, .int 0]) (rest := []) ⟨hx, hb, hml, hown, hts⟩ (kX3_does_1_2_0_f0_f1 l D ca za h hh f_15 L Q hI x2 (by rw [ef_15, sg_up_s, sgu_n (by decide)]; exact (by rw [ef_14, sg_up_s, sgu_n (by decide)]; exact (by rw [ef_1, sg_up_s, sgu_s]))) (Eq.trans (by rw [ef_15, sg_up_s, sgu_n (by decide)]; exact (by rw [ef_14, sg_up_s, sgu_s])) c_295) (by have k0 : (1 : Int32).toInt = 1 := ti_1; have k1 : (2 : Int32).toInt = 2 := ti_2; have k3 : (0 : Int32).toInt = 0 := ti_0; omega) H.size) (sl_c3_does_1_0_0_24_3 hts ⟨Nat.le_of_ble_eq_true rfl, Nat.le_of_ble_eq_true rfl⟩) (sl_vX_36 hA hK hP hS hZ) rfl rfl hl.1 rfl (lv_room (Nat.le_of_ble_eq_true rfl)) dX3_acts_51 ⟨Nat.le_refl _, Nat.le_refl _⟩) hA hS (fun r_301 f_298 L_299 Q_300 H locs hq hP hS => ?_)
              obtain ⟨⟨hI, hk_f_298, eL9, eQ9⟩, hq, p_302, u_303⟩ := hq
              rw [eL9, eQ9] at hP; clear eL9 eQ9
              have hF : sgK WkX3_acts f f_298 := sgK.tr hF hk_f_298 (by decide +kernel)
              obtain ⟨v_304, ev_304⟩ : ∃ z : Int32, z = f_298 36 3 := ⟨_, rfl⟩
              have q_305 : 0 ≤ v_304.toInt ∧ v_304.toInt ≤ 19 := by rw [ev_304]; exact hI 36 3
              have q_306 : (f_298 36 3).toInt = v_304.toInt := (congrArg Int32.toInt (show f_298 36 3 = v_304 from ev_304.symm))
              have k_308 : (1 : Int32).toInt = 1 := by decide
              have k_309 : (2 : Int32).toInt = 2 := by decide
              have k_310 : (0 : Int32).toInt = 0 := by decide
              exact hret _ _ _ _ (r_301) f_298 L Q dX3_acts_54 hP hS ⟨⟨hI, hF, rfl, rfl⟩, trivial, (Eq.trans (Eq.symm (hs.trans ((if_neg (fun z => absurd (z.symm.trans cs_16) (by decide))).trans ((if_neg (fun z => absurd (z.symm.trans cs_16) (by decide))).trans ((if_pos cs_16).trans ((if_neg (fun z => absurd (z.symm.trans cs_278) (by decide))).trans ((if_pos cs_278).trans (spl2_e u_303 (spl_e ev_304 rfl))))))))) hsp)⟩
            · skip
              have cs_278 := c
              have c_311 : v_12 = 2 := Int32.toInt_inj.mp (by have k9 : (2 : Int32).toInt = 2 := ti_2; omega)
              refine W.eq (g2 := F0 m 51 ls [.int 0, .int x2, .int 2, .int 2, .ref (h 36)]) (by rw [c_311]) ?_
              have q_312 : (f_15 36 3).toInt = 0 := (congrArg Int32.toInt (show f_15 36 3 = 0 from (by rw [ef_15, sg_up_s, sgu_n (by decide)]; exact (by rw [ef_14, sg_up_s, sgu_n (by decide)]; exact (by rw [ef_1, sg_up_s, sgu_s]))))).trans (by decide)
              refine sg_calli (va_runV (As := [.int 2, .int 2, .int x2, .int 0]) (rest := []) ⟨hx, hb, hml, hown, hts⟩ (kX3_does_2_2_0_f0_f2 l D ca za h hh f_15 L Q hI x2 (by rw [ef_15, sg_up_s, sgu_n (by decide)]; exact (by rw [ef_14, sg_up_s, sgu_n (by decide)]; exact (by rw [ef_1, sg_up_s, sgu_s]))) (Eq.trans (by rw [ef_15, sg_up_s, sgu_n (by decide)]; exact (by rw [ef_14, sg_up_s, sgu_s])) c_311) (by have k0 : (2 : Int32).toInt = 2 := ti_2; have k1 : (2 : Int32).toInt = 2 := ti_2; have k3 : (0 : Int32).toInt = 0 := ti_0; omega) H.size) (sl_c3_does_1_0_0_24_3 hts ⟨Nat.le_of_ble_eq_true rfl, Nat.le_of_ble_eq_true rfl⟩) (sl_vX_36 hA hK hP hS hZ) rfl rfl hl.1 rfl (lv_room (Nat.le_of_ble_eq_true rfl)) dX3_acts_51 ⟨Nat.le_refl _, Nat.le_refl _⟩) hA hS (fun r_317 f_314 L_315 Q_316 H locs hq hP hS => ?_)
              obtain ⟨⟨hI, hk_f_314, eL9, eQ9⟩, hq, p_318, u_319⟩ := hq
              rw [eL9, eQ9] at hP; clear eL9 eQ9
              have hF : sgK WkX3_acts f f_314 := sgK.tr hF hk_f_314 (by decide +kernel)
              obtain ⟨v_320, ev_320⟩ : ∃ z : Int32, z = f_314 36 3 := ⟨_, rfl⟩
              have q_321 : 0 ≤ v_320.toInt ∧ v_320.toInt ≤ 19 := by rw [ev_320]; exact hI 36 3
              have q_322 : (f_314 36 3).toInt = v_320.toInt := (congrArg Int32.toInt (show f_314 36 3 = v_320 from ev_320.symm))
              have k_324 : (2 : Int32).toInt = 2 := by decide
              have k_325 : (2 : Int32).toInt = 2 := by decide
              have k_326 : (0 : Int32).toInt = 0 := by decide
              exact hret _ _ _ _ (r_317) f_314 L Q dX3_acts_54 hP hS ⟨⟨hI, hF, rfl, rfl⟩, trivial, (Eq.trans (Eq.symm (hs.trans ((if_neg (fun z => absurd (z.symm.trans cs_16) (by decide))).trans ((if_neg (fun z => absurd (z.symm.trans cs_16) (by decide))).trans ((if_pos cs_16).trans ((if_neg (fun z => absurd (z.symm.trans cs_278) (by decide))).trans ((if_neg (fun z => absurd (z.symm.trans cs_278) (by decide))).trans ((if_pos cs_278).trans (spl2_e u_319 (spl_e ev_320 rfl)))))))))) hsp)⟩
            · skip
              have cs_278 := c
              have c_327 : v_12 = 3 := Int32.toInt_inj.mp (by have k9 : (3 : Int32).toInt = 3 := ti_3; omega)
              refine W.eq (g2 := F0 m 51 ls [.int 0, .int x2, .int 2, .int 3, .ref (h 36)]) (by rw [c_327]) ?_
              have q_328 : (f_15 36 3).toInt = 0 := (congrArg Int32.toInt (show f_15 36 3 = 0 from (by rw [ef_15, sg_up_s, sgu_n (by decide)]; exact (by rw [ef_14, sg_up_s, sgu_n (by decide)]; exact (by rw [ef_1, sg_up_s, sgu_s]))))).trans (by decide)
              refine sg_calli (va_runV (As := [.int 3, .int 2, .int x2, .int 0]) (rest := []) ⟨hx, hb, hml, hown, hts⟩ (kX3_does_3_2_0_f0_f3 l D ca za h hh f_15 L Q hI x2 (by rw [ef_15, sg_up_s, sgu_n (by decide)]; exact (by rw [ef_14, sg_up_s, sgu_n (by decide)]; exact (by rw [ef_1, sg_up_s, sgu_s]))) (Eq.trans (by rw [ef_15, sg_up_s, sgu_n (by decide)]; exact (by rw [ef_14, sg_up_s, sgu_s])) c_327) (by have k0 : (3 : Int32).toInt = 3 := ti_3; have k1 : (2 : Int32).toInt = 2 := ti_2; have k3 : (0 : Int32).toInt = 0 := ti_0; omega) H.size) (sl_c3_does_3_0_0_74_3 hts ⟨Nat.le_of_ble_eq_true rfl, Nat.le_of_ble_eq_true rfl⟩) (sl_vX_36 hA hK hP hS hZ) rfl rfl hl.1 rfl (lv_room (Nat.le_of_ble_eq_true rfl)) dX3_acts_51 ⟨Nat.le_refl _, Nat.le_refl _⟩) hA hS (fun r_333 f_330 L_331 Q_332 H locs hq hP hS => ?_)
              obtain ⟨⟨hI, hk_f_330, eL9, eQ9⟩, hq, p_334, u_335⟩ := hq
              rw [eL9, eQ9] at hP; clear eL9 eQ9
              have hF : sgK WkX3_acts f f_330 := sgK.tr hF hk_f_330 (by decide +kernel)
              obtain ⟨v_336, ev_336⟩ : ∃ z : Int32, z = f_330 36 3 := ⟨_, rfl⟩
              have q_337 : 0 ≤ v_336.toInt ∧ v_336.toInt ≤ 19 := by rw [ev_336]; exact hI 36 3
              have q_338 : (f_330 36 3).toInt = v_336.toInt := (congrArg Int32.toInt (show f_330 36 3 = v_336 from ev_336.symm))
              have k_340 : (3 : Int32).toInt = 3 := by decide
              have k_341 : (2 : Int32).toInt = 2 := by decide
              have k_342 : (0 : Int32).toInt = 0 := by decide
              exact hret _ _ _ _ (r_333) f_330 L Q dX3_acts_54 hP hS ⟨⟨hI, hF, rfl, rfl⟩, trivial, (Eq.trans (Eq.symm (hs.trans ((if_neg (fun z => absurd (z.symm.trans cs_16) (by decide))).trans ((if_neg (fun z => absurd (z.symm.trans cs_16) (by decide))).trans ((if_pos cs_16).trans ((if_neg (fun z => absurd (z.symm.trans cs_278) (by decide))).trans ((if_neg (fun z => absurd (z.symm.trans cs_278) (by decide))).trans ((if_neg (fun z => absurd (z.symm.trans cs_278) (by decide))).trans ((if_pos cs_278).trans (spl2_e u_335 (spl_e ev_336 rfl))))))))))) hsp)⟩
            · skip
              have cs_278 := c
              have c_343 : v_12 = 4 := Int32.toInt_inj.mp (by have k9 : (4 : Int32).toInt = 4 := ti_4; omega)
              refine W.eq (g2 := F0 m 51 ls [.int 0, .int x2, .int 2, .int 4, .ref (h 36)]) (by rw [c_343]) ?_
              have q_344 : (f_15 36 3).toInt = 0 := (congrArg Int32.toInt (show f_15 36 3 = 0 from (by rw [ef_15, sg_up_s, sgu_n (by decide)]; exact (by rw [ef_14, sg_up_s, sgu_n (by decide)]; exact (by rw [ef_1, sg_up_s, sgu_s]))))).trans (by decide)
              refine sg_calli (va_runV (As := [.int 4, .int 2, .int x2, .int 0]) (rest := []) ⟨hx, hb, hml, hown, hts⟩ (kX3_does_4_2_0_f0_f4 l D ca za h hh f_15 L Q hI x2 (by rw [ef_15, sg_up_s, sgu_n (by decide)]; exact (by rw [ef_14, sg_up_s, sgu_n (by decide)]; exact (by rw [ef_1, sg_up_s, sgu_s]))) (Eq.trans (by rw [ef_15, sg_up_s, sgu_n (by decide)]; exact (by rw [ef_14, sg_up_s, sgu_s])) c_343) (by have k0 : (4 : Int32).toInt = 4 := ti_4; have k1 : (2 : Int32).toInt = 2 := ti_2; have k3 : (0 : Int32).toInt = 0 := ti_0; omega) H.size) (sl_c3_does_5_0_0_124_3 hts ⟨Nat.le_of_ble_eq_true rfl, Nat.le_of_ble_eq_true rfl⟩) (sl_vX_36 hA hK hP hS hZ) rfl rfl hl.1 rfl (lv_room (Nat.le_of_ble_eq_true rfl)) dX3_acts_51 ⟨Nat.le_refl _, Nat.le_refl _⟩) hA hS (fun r_349 f_346 L_347 Q_348 H locs hq hP hS => ?_)
              obtain ⟨⟨hI, hk_f_346, eL9, eQ9⟩, hq, p_350, u_351⟩ := hq
              rw [eL9, eQ9] at hP; clear eL9 eQ9
              have hF : sgK WkX3_acts f f_346 := sgK.tr hF hk_f_346 (by decide +kernel)
              obtain ⟨v_352, ev_352⟩ : ∃ z : Int32, z = f_346 36 3 := ⟨_, rfl⟩
              have q_353 : 0 ≤ v_352.toInt ∧ v_352.toInt ≤ 19 := by rw [ev_352]; exact hI 36 3
              have q_354 : (f_346 36 3).toInt = v_352.toInt := (congrArg Int32.toInt (show f_346 36 3 = v_352 from ev_352.symm))
              have k_356 : (4 : Int32).toInt = 4 := by decide
              have k_357 : (2 : Int32).toInt = 2 := by decide
              have k_358 : (0 : Int32).toInt = 0 := by decide
              exact hret _ _ _ _ (r_349) f_346 L Q dX3_acts_54 hP hS ⟨⟨hI, hF, rfl, rfl⟩, trivial, (Eq.trans (Eq.symm (hs.trans ((if_neg (fun z => absurd (z.symm.trans cs_16) (by decide))).trans ((if_neg (fun z => absurd (z.symm.trans cs_16) (by decide))).trans ((if_pos cs_16).trans ((if_neg (fun z => absurd (z.symm.trans cs_278) (by decide))).trans ((if_neg (fun z => absurd (z.symm.trans cs_278) (by decide))).trans ((if_neg (fun z => absurd (z.symm.trans cs_278) (by decide))).trans ((if_neg (fun z => absurd (z.symm.trans cs_278) (by decide))).trans ((if_pos cs_278).trans (spl2_e u_351 (spl_e ev_352 rfl)))))))))))) hsp)⟩
            · skip
              have cs_278 := c
              have c_359 : v_12 = 5 := Int32.toInt_inj.mp (by have k9 : (5 : Int32).toInt = 5 := ti_5; omega)
              refine W.eq (g2 := F0 m 51 ls [.int 0, .int x2, .int 2, .int 5, .ref (h 36)]) (by rw [c_359]) ?_
              have q_360 : (f_15 36 3).toInt = 0 := (congrArg Int32.toInt (show f_15 36 3 = 0 from (by rw [ef_15, sg_up_s, sgu_n (by decide)]; exact (by rw [ef_14, sg_up_s, sgu_n (by decide)]; exact (by rw [ef_1, sg_up_s, sgu_s]))))).trans (by decide)
              refine sg_calli (va_runV (As := [.int 5, .int 2, .int x2, .int 0]) (rest := []) ⟨hx, hb, hml, hown, hts⟩ (kX3_does_5_2_0_f0_f5 l D ca za h hh f_15 L Q hI x2 (by rw [ef_15, sg_up_s, sgu_n (by decide)]; exact (by rw [ef_14, sg_up_s, sgu_n (by decide)]; exact (by rw [ef_1, sg_up_s, sgu_s]))) (Eq.trans (by rw [ef_15, sg_up_s, sgu_n (by decide)]; exact (by rw [ef_14, sg_up_s, sgu_s])) c_359) (by have k0 : (5 : Int32).toInt = 5 := ti_5; have k1 : (2 : Int32).toInt = 2 := ti_2; have k3 : (0 : Int32).toInt = 0 := ti_0; omega) H.size) (sl_c3_does_3_0_0_74_3 hts ⟨Nat.le_of_ble_eq_true rfl, Nat.le_of_ble_eq_true rfl⟩) (sl_vX_36 hA hK hP hS hZ) rfl rfl hl.1 rfl (lv_room (Nat.le_of_ble_eq_true rfl)) dX3_acts_51 ⟨Nat.le_refl _, Nat.le_refl _⟩) hA hS (fun r_365 f_362 L_363 Q_364 H locs hq hP hS => ?_)
              obtain ⟨⟨hI, hk_f_362, eL9, eQ9⟩, hq, p_366, u_367⟩ := hq
              rw [eL9, eQ9] at hP; clear eL9 eQ9
              have hF : sgK WkX3_acts f f_362 := sgK.tr hF hk_f_362 (by decide +kernel)
              obtain ⟨v_368, ev_368⟩ : ∃ z : Int32, z = f_362 36 3 := ⟨_, rfl⟩
              have q_369 : 0 ≤ v_368.toInt ∧ v_368.toInt ≤ 19 := by rw [ev_368]; exact hI 36 3
              have q_370 : (f_362 36 3).toInt = v_368.toInt := (congrArg Int32.toInt (show f_362 36 3 = v_368 from ev_368.symm))
              have k_372 : (5 : Int32).toInt = 5 := by decide
              have k_373 : (2 : Int32).toInt = 2 := by decide
              have k_374 : (0 : Int32).toInt = 0 := by decide
              exact hret _ _ _ _ (r_365) f_362 L Q dX3_acts_54 hP hS ⟨⟨hI, hF, rfl, rfl⟩, trivial, (Eq.trans (Eq.symm (hs.trans ((if_neg (fun z => absurd (z.symm.trans cs_16) (by decide))).trans ((if_neg (fun z => absurd (z.symm.trans cs_16) (by decide))).trans ((if_pos cs_16).trans ((if_neg (fun z => absurd (z.symm.trans cs_278) (by decide))).trans ((if_neg (fun z => absurd (z.symm.trans cs_278) (by decide))).trans ((if_neg (fun z => absurd (z.symm.trans cs_278) (by decide))).trans ((if_neg (fun z => absurd (z.symm.trans cs_278) (by decide))).trans ((if_neg (fun z => absurd (z.symm.trans cs_278) (by decide))).trans ((if_pos cs_278).trans (spl2_e u_367 (spl_e ev_368 rfl))))))))))))) hsp)⟩
            · skip
              have cs_278 := c
              have c_375 : v_12 = 6 := Int32.toInt_inj.mp (by have k9 : (6 : Int32).toInt = 6 := ti_6; omega)
              refine W.eq (g2 := F0 m 51 ls [.int 0, .int x2, .int 2, .int 6, .ref (h 36)]) (by rw [c_375]) ?_
              have q_376 : (f_15 36 3).toInt = 0 := (congrArg Int32.toInt (show f_15 36 3 = 0 from (by rw [ef_15, sg_up_s, sgu_n (by decide)]; exact (by rw [ef_14, sg_up_s, sgu_n (by decide)]; exact (by rw [ef_1, sg_up_s, sgu_s]))))).trans (by decide)
              refine sg_calli (va_runV (As := [.int 6, .int 2, .int x2, .int 0]) (rest := []) ⟨hx, hb, hml, hown, hts⟩ (kX3_does_6_2_0_f0_f6 l D ca za h hh f_15 L Q hI x2 (by rw [ef_15, sg_up_s, sgu_n (by decide)]; exact (by rw [ef_14, sg_up_s, sgu_n (by decide)]; exact (by rw [ef_1, sg_up_s, sgu_s]))) (Eq.trans (by rw [ef_15, sg_up_s, sgu_n (by decide)]; exact (by rw [ef_14, sg_up_s, sgu_s])) c_375) (by have k0 : (6 : Int32).toInt = 6 := ti_6; have k1 : (2 : Int32).toInt = 2 := ti_2; have k3 : (0 : Int32).toInt = 0 := ti_0; omega) H.size) (sl_c3_does_1_0_0_24_3 hts ⟨Nat.le_of_ble_eq_true rfl, Nat.le_of_ble_eq_true rfl⟩) (sl_vX_36 hA hK hP hS hZ) rfl rfl hl.1 rfl (lv_room (Nat.le_of_ble_eq_true rfl)) dX3_acts_51 ⟨Nat.le_refl _, Nat.le_refl _⟩) hA hS (fun r_381 f_378 L_379 Q_380 H locs hq hP hS => ?_)
              obtain ⟨⟨hI, hk_f_378, eL9, eQ9⟩, hq, p_382, u_383⟩ := hq
              rw [eL9, eQ9] at hP; clear eL9 eQ9
              have hF : sgK WkX3_acts f f_378 := sgK.tr hF hk_f_378 (by decide +kernel)
              obtain ⟨v_384, ev_384⟩ : ∃ z : Int32, z = f_378 36 3 := ⟨_, rfl⟩
              have q_385 : 0 ≤ v_384.toInt ∧ v_384.toInt ≤ 19 := by rw [ev_384]; exact hI 36 3
              have q_386 : (f_378 36 3).toInt = v_384.toInt := (congrArg Int32.toInt (show f_378 36 3 = v_384 from ev_384.symm))
              have k_388 : (6 : Int32).toInt = 6 := by decide
              have k_389 : (2 : Int32).toInt = 2 := by decide
              have k_390 : (0 : Int32).toInt = 0 := by decide
              exact hret _ _ _ _ (r_381) f_378 L Q dX3_acts_54 hP hS ⟨⟨hI, hF, rfl, rfl⟩, trivial, (Eq.trans (Eq.symm (hs.trans ((if_neg (fun z => absurd (z.symm.trans cs_16) (by decide))).trans ((if_neg (fun z => absurd (z.symm.trans cs_16) (by decide))).trans ((if_pos cs_16).trans ((if_neg (fun z => absurd (z.symm.trans cs_278) (by decide))).trans ((if_neg (fun z => absurd (z.symm.trans cs_278) (by decide))).trans ((if_neg (fun z => absurd (z.symm.trans cs_278) (by decide))).trans ((if_neg (fun z => absurd (z.symm.trans cs_278) (by decide))).trans ((if_neg (fun z => absurd (z.symm.trans cs_278) (by decide))).trans ((if_neg (fun z => absurd (z.symm.trans cs_278) (by decide))).trans ((if_pos cs_278).trans (spl2_e u_383 (spl_e ev_384 rfl)))))))))))))) hsp)⟩
            · skip
              have cs_278 := c
              have c_391 : v_12 = 7 := Int32.toInt_inj.mp (by have k9 : (7 : Int32).toInt = 7 := ti_7; omega)
              refine W.eq (g2 := F0 m 51 ls [.int 0, .int x2, .int 2, .int 7, .ref (h 36)]) (by rw [c_391]) ?_
              have q_392 : (f_15 36 3).toInt = 0 := (congrArg Int32.toInt (show f_15 36 3 = 0 from (by rw [ef_15, sg_up_s, sgu_n (by decide)]; exact (by rw [ef_14, sg_up_s, sgu_n (by decide)]; exact (by rw [ef_1, sg_up_s, sgu_s]))))).trans (by decide)
              refine sg_calli (va_runV (As := [.int 7, .int 2, .int x2, .int 0]) (rest := []) ⟨hx, hb, hml, hown, hts⟩ (kX3_does_7_2_0_f0_f7 l D ca za h hh f_15 L Q hI x2 (by rw [ef_15, sg_up_s, sgu_n (by decide)]; exact (by rw [ef_14, sg_up_s, sgu_n (by decide)]; exact (by rw [ef_1, sg_up_s, sgu_s]))) (Eq.trans (by rw [ef_15, sg_up_s, sgu_n (by decide)]; exact (by rw [ef_14, sg_up_s, sgu_s])) c_391) (by have k0 : (7 : Int32).toInt = 7 := ti_7; have k1 : (2 : Int32).toInt = 2 := ti_2; have k3 : (0 : Int32).toInt = 0 := ti_0; omega) H.size) (sl_c3_does_5_0_0_124_3 hts ⟨Nat.le_of_ble_eq_true rfl, Nat.le_of_ble_eq_true rfl⟩) (sl_vX_36 hA hK hP hS hZ) rfl rfl hl.1 rfl (lv_room (Nat.le_of_ble_eq_true rfl)) dX3_acts_51 ⟨Nat.le_refl _, Nat.le_refl _⟩) hA hS (fun r_397 f_394 L_395 Q_396 H locs hq hP hS => ?_)
              obtain ⟨⟨hI, hk_f_394, eL9, eQ9⟩, hq, p_398, u_399⟩ := hq
              rw [eL9, eQ9] at hP; clear eL9 eQ9
              have hF : sgK WkX3_acts f f_394 := sgK.tr hF hk_f_394 (by decide +kernel)
              obtain ⟨v_400, ev_400⟩ : ∃ z : Int32, z = f_394 36 3 := ⟨_, rfl⟩
              have q_401 : 0 ≤ v_400.toInt ∧ v_400.toInt ≤ 19 := by rw [ev_400]; exact hI 36 3
              have q_402 : (f_394 36 3).toInt = v_400.toInt := (congrArg Int32.toInt (show f_394 36 3 = v_400 from ev_400.symm))
              have k_404 : (7 : Int32).toInt = 7 := by decide
              have k_405 : (2 : Int32).toInt = 2 := by decide
              have k_406 : (0 : Int32).toInt = 0 := by decide
              exact hret _ _ _ _ (r_397) f_394 L Q dX3_acts_54 hP hS ⟨⟨hI, hF, rfl, rfl⟩, trivial, (Eq.trans (Eq.symm (hs.trans ((if_neg (fun z => absurd (z.symm.trans cs_16) (by decide))).trans ((if_neg (fun z => absurd (z.symm.trans cs_16) (by decide))).trans ((if_pos cs_16).trans ((if_neg (fun z => absurd (z.symm.trans cs_278) (by decide))).trans ((if_neg (fun z => absurd (z.symm.trans cs_278) (by decide))).trans ((if_neg (fun z => absurd (z.symm.trans cs_278) (by decide))).trans ((if_neg (fun z => absurd (z.symm.trans cs_278) (by decide))).trans ((if_neg (fun z => absurd (z.symm.trans cs_278) (by decide))).trans ((if_neg (fun z => absurd (z.symm.trans cs_278) (by decide))).trans ((if_neg (fun z => absurd (z.symm.trans cs_278) (by decide))).trans (spl2_e u_399 (spl_e ev_400 rfl)))))))))))))) hsp)⟩
          · skip
            have cs_16 := c
            have c_407 : x1 = 3 := Int32.toInt_inj.mp (by have k9 : (3 : Int32).toInt = 3 := ti_3; omega)
            refine W.eq (g2 := F0 m 51 ls [.int 0, .int x2, .int 3, .int v_12, .ref (h 36)]) (by rw [c_407]) ?_
            rcases (show v_12.toInt = 0 ∨ v_12.toInt = 1 ∨ v_12.toInt = 2 ∨ v_12.toInt = 3 ∨ v_12.toInt = 4 ∨ v_12.toInt = 5 ∨ v_12.toInt = 6 ∨ v_12.toInt = 7 from by omega) with c | c | c | c | c | c | c | c
            · skip
              have cs_408 := c
              have c_409 : v_12 = 0 := Int32.toInt_inj.mp (by have k9 : (0 : Int32).toInt = 0 := ti_0; omega)
              refine W.eq (g2 := F0 m 51 ls [.int 0, .int x2, .int 3, .int 0, .ref (h 36)]) (by rw [c_409]) ?_
              have q_410 : (f_15 36 3).toInt = 0 := (congrArg Int32.toInt (show f_15 36 3 = 0 from (by rw [ef_15, sg_up_s, sgu_n (by decide)]; exact (by rw [ef_14, sg_up_s, sgu_n (by decide)]; exact (by rw [ef_1, sg_up_s, sgu_s]))))).trans (by decide)
              refine sg_calli (va_runV (As := [.int 0, .int 3, .int x2, .int 0]) (rest := []) ⟨hx, hb, hml, hown, hts⟩ (kX3_does_0_3_0_f0_f0 l D ca za h hh f_15 L Q hI x2 (by rw [ef_15, sg_up_s, sgu_n (by decide)]; exact (by rw [ef_14, sg_up_s, sgu_n (by decide)]; exact (by rw [ef_1, sg_up_s, sgu_s]))) (Eq.trans (by rw [ef_15, sg_up_s, sgu_n (by decide)]; exact (by rw [ef_14, sg_up_s, sgu_s])) c_409) (by have k0 : (0 : Int32).toInt = 0 := ti_0; have k1 : (3 : Int32).toInt = 3 := ti_3; have k3 : (0 : Int32).toInt = 0 := ti_0; omega) H.size) (sl_c3_does_5_0_0_124_3 hts ⟨Nat.le_of_ble_eq_true rfl, Nat.le_of_ble_eq_true rfl⟩) (sl_vX_36 hA hK hP hS hZ) rfl rfl hl.1 rfl (lv_room (Nat.le_of_ble_eq_true rfl)) dX3_acts_51 ⟨Nat.le_refl _, Nat.le_refl _⟩) hA hS (fun r_415 f_412 L_413 Q_414 H locs hq hP hS => ?_)
              obtain ⟨⟨hI, hk_f_412, eL9, eQ9⟩, hq, p_416, u_417⟩ := hq
              rw [eL9, eQ9] at hP; clear eL9 eQ9
              have hF : sgK WkX3_acts f f_412 := sgK.tr hF hk_f_412 (by decide +kernel)
              obtain ⟨v_418, ev_418⟩ : ∃ z : Int32, z = f_412 36 3 := ⟨_, rfl⟩
              have q_419 : 0 ≤ v_418.toInt ∧ v_418.toInt ≤ 19 := by rw [ev_418]; exact hI 36 3
              have q_420 : (f_412 36 3).toInt = v_418.toInt := (congrArg Int32.toInt (show f_412 36 3 = v_418 from ev_418.symm))
              have k_422 : (0 : Int32).toInt = 0 := by decide
              have k_423 : (3 : Int32).toInt = 3 := by decide
              have k_424 : (0 : Int32).toInt = 0 := by decide
              exact hret _ _ _ _ (r_415) f_412 L Q dX3_acts_54 hP hS ⟨⟨hI, hF, rfl, rfl⟩, trivial, (Eq.trans (Eq.symm (hs.trans ((if_neg (fun z => absurd (z.symm.trans cs_16) (by decide))).trans ((if_neg (fun z => absurd (z.symm.trans cs_16) (by decide))).trans ((if_neg (fun z => absurd (z.symm.trans cs_16) (by decide))).trans ((if_pos cs_408).trans (spl2_e u_417 (spl_e ev_418 rfl)))))))) hsp)⟩
            · skip
              have cs_408 := c
              have c_425 : v_12 = 1 := Int32.toInt_inj.mp (by have k9 : (1 : Int32).toInt = 1 := ti_1; omega)
              refine W.eq (g2 := F0 m 51 ls [.int 0, .int x2, .int 3, .int 1, .ref (h 36)]) (by rw [c_425]) ?_
              have q_426 : (f_15 36 3).toInt = 0 := (congrArg Int32.toInt (show f_15 36 3 = 0 from (by rw [ef_15, sg_up_s, sgu_n (by decide)]; exact (by rw [ef_14, sg_up_s, sgu_n (by decide)]; exact (by rw [ef_1, sg_up_s, sgu_s]))))).trans (by decide)
              refine sg_calli (va_runV (As := [.int 1, .int 3, .int x2, .int 0]) (rest := []) ⟨hx, hb, hml, hown, hts⟩ (kX3_does_1_3_0_f0_f1 l D ca za h hh f_15 L Q hI x2 (by rw [ef_15, sg_up_s, sgu_n (by decide)]; exact (by rw [ef_14, sg_up_s, sgu_n (by decide)]; exact (by rw [ef_1, sg_up_s, sgu_s]))) (Eq.trans (by rw [ef_15, sg_up_s, sgu_n (by decide)]; exact (by rw [ef_14, sg_up_s, sgu_s])) c_425) (by have k0 : (1 : Int32).toInt = 1 := ti_1; have k1 : (3 : Int32).toInt = 3 := ti_3; have k3 : (0 : Int32).toInt = 0 := ti_0; omega) H.size) (sl_c3_does_7_0_0_174_3 hts ⟨Nat.le_of_ble_eq_true rfl, Nat.le_of_ble_eq_true rfl⟩) (sl_vX_36 hA hK hP hS hZ) rfl rfl hl.1 rfl (lv_room (Nat.le_of_ble_eq_true rfl)) dX3_acts_51 ⟨Nat.le_refl _, Nat.le_refl _⟩) hA hS (fun r_431 f_428 L_429 Q_430 H locs hq hP hS => ?_)
              obtain ⟨⟨hI, hk_f_428, eL9, eQ9⟩, hq, p_432, u_433⟩ := hq
              rw [eL9, eQ9] at hP; clear eL9 eQ9
              have hF : sgK WkX3_acts f f_428 := sgK.tr hF hk_f_428 (by decide +kernel)
              obtain ⟨v_434, ev_434⟩ : ∃ z : Int32, z = f_428 36 3 := ⟨_, rfl⟩
              have q_435 : 0 ≤ v_434.toInt ∧ v_434.toInt ≤ 19 := by rw [ev_434]; exact hI 36 3
              have q_436 : (f_428 36 3).toInt = v_434.toInt := (congrArg Int32.toInt (show f_428 36 3 = v_434 from ev_434.symm))
              have k_438 : (1 : Int32).toInt = 1 := by decide
              have k_439 : (3 : Int32).toInt = 3 := by decide
              have k_440 : (0 : Int32).toInt = 0 := by decide
              exact hret _ _ _ _ (r_431) f_428 L Q dX3_acts_54 hP hS ⟨⟨hI, hF, rfl, rfl⟩, trivial, (Eq.trans (Eq.symm (hs.trans ((if_neg (fun z => absurd (z.symm.trans cs_16) (by decide))).trans ((if_neg (fun z => absurd (z.symm.trans cs_16) (by decide))).trans ((if_neg (fun z => absurd (z.symm.trans cs_16) (by decide))).trans ((if_neg (fun z => absurd (z.symm.trans cs_408) (by decide))).trans ((if_pos cs_408).trans (spl2_e u_433 (spl_e ev_434 rfl))))))))) hsp)⟩
            · skip
              have cs_408 := c
              have c_441 : v_12 = 2 := Int32.toInt_inj.mp (by have k9 : (2 : Int32).toInt = 2 := ti_2; omega)
              refine W.eq (g2 := F0 m 51 ls [.int 0, .int x2, .int 3, .int 2, .ref (h 36)]) (by rw [c_441]) ?_
              have q_442 : (f_15 36 3).toInt = 0 := (congrArg Int32.toInt (show f_15 36 3 = 0 from (by rw [ef_15, sg_up_s, sgu_n (by decide)]; exact (by rw [ef_14, sg_up_s, sgu_n (by decide)]; exact (by rw [ef_1, sg_up_s, sgu_s]))))).trans (by decide)
              refine sg_calli (va_runV (As := [.int 2, .int 3, .int x2, .int 0]) (rest := []) ⟨hx, hb, hml, hown, hts⟩ (kX3_does_2_3_0_f0_f2 l D ca za h hh f_15 L Q hI x2 (by rw [ef_15, sg_up_s, sgu_n (by decide)]; exact (by rw [ef_14, sg_up_s, sgu_n (by decide)]; exact (by rw [ef_1, sg_up_s, sgu_s]))) (Eq.trans (by rw [ef_15, sg_up_s, sgu_n (by decide)]; exact (by rw [ef_14, sg_up_s, sgu_s])) c_441) (by have k0 : (2 : Int32).toInt = 2 := ti_2; have k1 : (3 : Int32).toInt = 3 := ti_3; have k3 : (0 : Int32).toInt = 0 := ti_0; omega) H.size) (sl_c3_does_7_0_0_174_3 hts ⟨Nat.le_of_ble_eq_true rfl, Nat.le_of_ble_eq_true rfl⟩) (sl_vX_36 hA hK hP hS hZ) rfl rfl hl.1 rfl (lv_room (Nat.le_of_ble_eq_true rfl)) dX3_acts_51 ⟨Nat.le_refl _, Nat.le_refl _⟩) hA hS (fun r_447 f_444 L_445 Q_446 H locs hq hP hS => ?_)
              obtain ⟨⟨hI, hk_f_444, eL9, eQ9⟩, hq, p_448, u_449⟩ := hq
              rw [eL9, eQ9] at hP; clear eL9 eQ9
              have hF : sgK WkX3_acts f f_444 := sgK.tr hF hk_f_444 (by decide +kernel)
              obtain ⟨v_450, ev_450⟩ : ∃ z : Int32, z = f_444 36 3 := ⟨_, rfl⟩
              have q_451 : 0 ≤ v_450.toInt ∧ v_450.toInt ≤ 19 := by rw [ev_450]; exact hI 36 3
              have q_452 : (f_444 36 3).toInt = v_450.toInt := (congrArg Int32.toInt (show f_444 36 3 = v_450 from ev_450.symm))
              have k_454 : (2 : Int32).toInt = 2 := by decide
              have k_455 : (3 : Int32).toInt = 3 := by decide
              have k_456 : (0 : Int32).toInt = 0 := by decide
              exact hret _ _ _ _ (r_447) f_444 L Q dX3_acts_54 hP hS ⟨⟨hI, hF, rfl, rfl⟩, trivial, (Eq.trans (Eq.symm (hs.trans ((if_neg (fun z => absurd (z.symm.trans cs_16) (by decide))).trans ((if_neg (fun z => absurd (z.symm.trans cs_16) (by decide))).trans ((if_neg (fun z => absurd (z.symm.trans cs_16) (by decide))).trans ((if_neg (fun z => absurd (z.symm.trans cs_408) (by decide))).trans ((if_neg (fun z => absurd (z.symm.trans cs_408) (by decide))).trans ((if_pos cs_408).trans (spl2_e u_449 (spl_e ev_450 rfl)))))))))) hsp)⟩
            · skip
              have cs_408 := c
              have c_457 : v_12 = 3 := Int32.toInt_inj.mp (by have k9 : (3 : Int32).toInt = 3 := ti_3; omega)
              refine W.eq (g2 := F0 m 51 ls [.int 0, .int x2, .int 3, .int 3, .ref (h 36)]) (by rw [c_457]) ?_
              have q_458 : (f_15 36 3).toInt = 0 := (congrArg Int32.toInt (show f_15 36 3 = 0 from (by rw [ef_15, sg_up_s, sgu_n (by decide)]; exact (by rw [ef_14, sg_up_s, sgu_n (by decide)]; exact (by rw [ef_1, sg_up_s, sgu_s]))))).trans (by decide)
              refine sg_calli (va_runV (As := [.int 3, .int 3, .int x2, .int 0]) (rest := []) ⟨hx, hb, hml, hown, hts⟩ (kX3_does_3_3_0_f0_f3 l D ca za h hh f_15 L Q hI x2 (by rw [ef_15, sg_up_s, sgu_n (by decide)]; exact (by rw [ef_14, sg_up_s, sgu_n (by decide)]; exact (by rw [ef_1, sg_up_s, sgu_s]))) (Eq.trans (by rw [ef_15, sg_up_s, sgu_n (by decide)]; exact (by rw [ef_14, sg_up_s, sgu_s])) c_457) (by have k0 : (3 : Int32).toInt = 3 := ti_3; have k1 : (3 : Int32).toInt = 3 := ti_3; have k3 : (0 : Int32).toInt = 0 := ti_0; omega) H.size) (sl_c3_does_9_0_0_224_3 hts ⟨Nat.le_of_ble_eq_true rfl, Nat.le_of_ble_eq_true rfl⟩) (sl_vX_36 hA hK hP hS hZ) rfl rfl hl.1 rfl (lv_room (Nat.le_of_ble_eq_true rfl)) dX3_acts_51 ⟨Nat.le_refl _, Nat.le_refl _⟩) hA hS (fun r_463 f_460 L_461 Q_462 H locs hq hP hS => ?_)
              obtain ⟨⟨hI, hk_f_460, eL9, eQ9⟩, hq, p_464, u_465⟩ := hq
              rw [eL9, eQ9] at hP; clear eL9 eQ9
              have hF : sgK WkX3_acts f f_460 := sgK.tr hF hk_f_460 (by decide +kernel)
              obtain ⟨v_466, ev_466⟩ : ∃ z : Int32, z = f_460 36 3 := ⟨_, rfl⟩
              have q_467 : 0 ≤ v_466.toInt ∧ v_466.toInt ≤ 19 := by rw [ev_466]; exact hI 36 3
              have q_468 : (f_460 36 3).toInt = v_466.toInt := (congrArg Int32.toInt (show f_460 36 3 = v_466 from ev_466.symm))
              have k_470 : (3 : Int32).toInt = 3 := by decide
              have k_471 : (3 : Int32).toInt = 3 := by decide
              have k_472 : (0 : Int32).toInt = 0 := by decide
              exact hret _ _ _ _ (r_463) f_460 L Q dX3_acts_54 hP hS ⟨⟨hI, hF, rfl, rfl⟩, trivial, (Eq.trans (Eq.symm (hs.trans ((if_neg (fun z => absurd (z.symm.trans cs_16) (by decide))).trans ((if_neg (fun z => absurd (z.symm.trans cs_16) (by decide))).trans ((if_neg (fun z => absurd (z.symm.trans cs_16) (by decide))).trans ((if_neg (fun z => absurd (z.symm.trans cs_408) (by decide))).trans ((if_neg (fun z => absurd (z.symm.trans cs_408) (by decide))).trans ((if_neg (fun z => absurd (z.symm.trans cs_408) (by decide))).trans ((if_pos cs_408).trans (spl2_e u_465 (spl_e ev_466 rfl))))))))))) hsp)⟩
            · skip
              have cs_408 := c
              have c_473 : v_12 = 4 := Int32.toInt_inj.mp (by have k9 : (4 : Int32).toInt = 4 := ti_4; omega)
              refine W.eq (g2 := F0 m 51 ls [.int 0, .int x2, .int 3, .int 4, .ref (h 36)]) (by rw [c_473]) ?_
              have q_474 : (f_15 36 3).toInt = 0 := (congrArg Int32.toInt (show f_15 36 3 = 0 from (by rw [ef_15, sg_up_s, sgu_n (by decide)]; exact (by rw [ef_14, sg_up_s, sgu_n (by decide)]; exact (by rw [ef_1, sg_up_s, sgu_s]))))).trans (by decide)
              refine sg_calli (va_runV (As := [.int 4, .int 3, .int x2, .int 0]) (rest := []) ⟨hx, hb, hml, hown, hts⟩ (kX3_does_4_3_0_f0_f4 l D ca za h hh f_15 L Q hI x2 (by rw [ef_15, sg_up_s, sgu_n (by decide)]; exact (by rw [ef_14, sg_up_s, sgu_n (by decide)]; exact (by rw [ef_1, sg_up_s, sgu_s]))) (Eq.trans (by rw [ef_15, sg_up_s, sgu_n (by decide)]; exact (by rw [ef_14, sg_up_s, sgu_s])) c_473) (by have k0 : (4 : Int32).toInt = 4 := ti_4; have k1 : (3 : Int32).toInt = 3 := ti_3; have k3 : (0 : Int32).toInt = 0 := ti_0; omega) H.size) (sl_c3_does_7_0_0_174_3 hts ⟨Nat.le_of_ble_eq_true rfl, Nat.le_of_ble_eq_true rfl⟩) (sl_vX_36 hA hK hP hS hZ) rfl rfl hl.1 rfl (lv_room (Nat.le_of_ble_eq_true rfl)) dX3_acts_51 ⟨Nat.le_refl _, Nat.le_refl _⟩) hA hS (fun r_479 f_476 L_477 Q_478 H locs hq hP hS => ?_)
              obtain ⟨⟨hI, hk_f_476, eL9, eQ9⟩, hq, p_480, u_481⟩ := hq
              rw [eL9, eQ9] at hP; clear eL9 eQ9
              have hF : sgK WkX3_acts f f_476 := sgK.tr hF hk_f_476 (by decide +kernel)
              obtain ⟨v_482, ev_482⟩ : ∃ z : Int32, z = f_476 36 3 := ⟨_, rfl⟩
              have q_483 : 0 ≤ v_482.toInt ∧ v_482.toInt ≤ 19 := by rw [ev_482]; exact hI 36 3
              have q_484 : (f_476 36 3).toInt = v_482.toInt := (congrArg Int32.toInt (show f_476 36 3 = v_482 from ev_482.symm))
              have k_486 : (4 : Int32).toInt = 4 := by decide
              have k_487 : (3 : Int32).toInt = 3 := by decide
              have k_488 : (0 : Int32).toInt = 0 := by decide
              exact hret _ _ _ _ (r_479) f_476 L Q dX3_acts_54 hP hS ⟨⟨hI, hF, rfl, rfl⟩, trivial, (Eq.trans (Eq.symm (hs.trans ((if_neg (fun z => absurd (z.symm.trans cs_16) (by decide))).trans ((if_neg (fun z => absurd (z.symm.trans cs_16) (by decide))).trans ((if_neg (fun z => absurd (z.symm.trans cs_16) (by decide))).trans ((if_neg (fun z => absurd (z.symm.trans cs_408) (by decide))).trans ((if_neg (fun z => absurd (z.symm.trans cs_408) (by decide))).trans ((if_neg (fun z => absurd (z.symm.trans cs_408) (by decide))).trans ((if_neg (fun z => absurd (z.symm.trans cs_408) (by decide))).trans ((if_pos cs_408).trans (spl2_e u_481 (spl_e ev_482 rfl)))))))))))) hsp)⟩
            · skip
              have cs_408 := c
              have c_489 : v_12 = 5 := Int32.toInt_inj.mp (by have k9 : (5 : Int32).toInt = 5 := ti_5; omega)
              refine W.eq (g2 := F0 m 51 ls [.int 0, .int x2, .int 3, .int 5, .ref (h 36)]) (by rw [c_489]) ?_
              have q_490 : (f_15 36 3).toInt = 0 := (congrArg Int32.toInt (show f_15 36 3 = 0 from (by rw [ef_15, sg_up_s, sgu_n (by decide)]; exact (by rw [ef_14, sg_up_s, sgu_n (by decide)]; exact (by rw [ef_1, sg_up_s, sgu_s]))))).trans (by decide)
              refine sg_calli (va_runV (As := [.int 5, .int 3, .int x2, .int 0]) (rest := []) ⟨hx, hb, hml, hown, hts⟩ (kX3_does_5_3_0_f0_f5 l D ca za h hh f_15 L Q hI x2 (by rw [ef_15, sg_up_s, sgu_n (by decide)]; exact (by rw [ef_14, sg_up_s, sgu_n (by decide)]; exact (by rw [ef_1, sg_up_s, sgu_s]))) (Eq.trans (by rw [ef_15, sg_up_s, sgu_n (by decide)]; exact (by rw [ef_14, sg_up_s, sgu_s])) c_489) (by have k0 : (5 : Int32).toInt = 5 := ti_5; have k1 : (3 : Int32).toInt = 3 := ti_3; have k3 : (0 : Int32).toInt = 0 := ti_0; omega) H.size) (sl_c3_does_11_0_0_274_3 hts ⟨Nat.le_of_ble_eq_true rfl, Nat.le_of_ble_eq_true rfl⟩) (sl_vX_36 hA hK hP hS hZ) rfl rfl hl.1 rfl (lv_room (Nat.le_of_ble_eq_true rfl)) dX3_acts_51 ⟨Nat.le_refl _, Nat.le_refl _⟩) hA hS (fun r_495 f_492 L_493 Q_494 H locs hq hP hS => ?_)
              obtain ⟨⟨hI, hk_f_492, eL9, eQ9⟩, hq, p_496, u_497⟩ := hq
              rw [eL9, eQ9] at hP; clear eL9 eQ9
              have hF : sgK WkX3_acts f f_492 := sgK.tr hF hk_f_492 (by decide +kernel)
              obtain ⟨v_498, ev_498⟩ : ∃ z : Int32, z = f_492 36 3 := ⟨_, rfl⟩
              have q_499 : 0 ≤ v_498.toInt ∧ v_498.toInt ≤ 19 := by rw [ev_498]; exact hI 36 3
              have q_500 : (f_492 36 3).toInt = v_498.toInt := (congrArg Int32.toInt (show f_492 36 3 = v_498 from ev_498.symm))
              have k_502 : (5 : Int32).toInt = 5 := by decide
              have k_503 : (3 : Int32).toInt = 3 := by decide
              have k_504 : (0 : Int32).toInt = 0 := by decide
              exact hret _ _ _ _ (r_495) f_492 L Q dX3_acts_54 hP hS ⟨⟨hI, hF, rfl, rfl⟩, trivial, (Eq.trans (Eq.symm (hs.trans ((if_neg (fun z => absurd (z.symm.trans cs_16) (by decide))).trans ((if_neg (fun z => absurd (z.symm.trans cs_16) (by decide))).trans ((if_neg (fun z => absurd (z.symm.trans cs_16) (by decide))).trans ((if_neg (fun z => absurd (z.symm.trans cs_408) (by decide))).trans ((if_neg (fun z => absurd (z.symm.trans cs_408) (by decide))).trans ((if_neg (fun z => absurd (z.symm.trans cs_408) (by decide))).trans ((if_neg (fun z => absurd (z.symm.trans cs_408) (by decide))).trans ((if_neg (fun z => absurd (z.symm.trans cs_408) (by decide))).trans ((if_pos cs_408).trans (spl2_e u_497 (spl_e ev_498 rfl))))))))))))) hsp)⟩
            · skip
              have cs_408 := c
              have c_505 : v_12 = 6 := Int32.toInt_inj.mp (by have k9 : (6 : Int32).toInt = 6 := ti_6; omega)
              refine W.eq (g2 := F0 m 51 ls [.int 0, .int x2, .int 3, .int 6, .ref (h 36)]) (by rw [c_505]) ?_
              have q_506 : (f_15 36 3).toInt = 0 := (congrArg Int32.toInt (show f_15 36 3 = 0 from (by rw [ef_15, sg_up_s, sgu_n (by decide)]; exact (by rw [ef_14, sg_up_s, sgu_n (by decide)]; exact (by rw [ef_1, sg_up_s, sgu_s]))))).trans (by decide)
              refine sg_calli (va_runV (As := [.int 6, .int 3, .int x2, .int 0]) (rest := []) ⟨hx, hb, hml, hown, hts⟩ (kX3_does_6_3_0_f0_f6 l D ca za h hh f_15 L Q hI x2 (by rw [ef_15, sg_up_s, sgu_n (by decide)]; exact (by rw [ef_14, sg_up_s, sgu_n (by decide)]; exact (by rw [ef_1, sg_up_s, sgu_s]))) (Eq.trans (by rw [ef_15, sg_up_s, sgu_n (by decide)]; exact (by rw [ef_14, sg_up_s, sgu_s])) c_505) (by have k0 : (6 : Int32).toInt = 6 := ti_6; have k1 : (3 : Int32).toInt = 3 := ti_3; have k3 : (0 : Int32).toInt = 0 := ti_0; omega) H.size) (sl_c3_does_7_0_0_174_3 hts ⟨Nat.le_of_ble_eq_true rfl, Nat.le_of_ble_eq_true rfl⟩) (sl_vX_36 hA hK hP hS hZ) rfl rfl hl.1 rfl (lv_room (Nat.le_of_ble_eq_true rfl)) dX3_acts_51 ⟨Nat.le_refl _, Nat.le_refl _⟩) hA hS (fun r_511 f_508 L_509 Q_510 H locs hq hP hS => ?_)
              obtain ⟨⟨hI, hk_f_508, eL9, eQ9⟩, hq, p_512, u_513⟩ := hq
              rw [eL9, eQ9] at hP; clear eL9 eQ9
              have hF : sgK WkX3_acts f f_508 := sgK.tr hF hk_f_508 (by decide +kernel)
              obtain ⟨v_514, ev_514⟩ : ∃ z : Int32, z = f_508 36 3 := ⟨_, rfl⟩
              have q_515 : 0 ≤ v_514.toInt ∧ v_514.toInt ≤ 19 := by rw [ev_514]; exact hI 36 3
              have q_516 : (f_508 36 3).toInt = v_514.toInt := (congrArg Int32.toInt (show f_508 36 3 = v_514 from ev_514.symm))
              have k_518 : (6 : Int32).toInt = 6 := by decide
              have k_519 : (3 : Int32).toInt = 3 := by decide
              have k_520 : (0 : Int32).toInt = 0 := by decide
              exact hret _ _ _ _ (r_511) f_508 L Q dX3_acts_54 hP hS ⟨⟨hI, hF, rfl, rfl⟩, trivial, (Eq.trans (Eq.symm (hs.trans ((if_neg (fun z => absurd (z.symm.trans cs_16) (by decide))).trans ((if_neg (fun z => absurd (z.symm.trans cs_16) (by decide))).trans ((if_neg (fun z => absurd (z.symm.trans cs_16) (by decide))).trans ((if_neg (fun z => absurd (z.symm.trans cs_408) (by decide))).trans ((if_neg (fun z => absurd (z.symm.trans cs_408) (by decide))).trans ((if_neg (fun z => absurd (z.symm.trans cs_408) (by decide))).trans ((if_neg (fun z => absurd (z.symm.trans cs_408) (by decide))).trans ((if_neg (fun z => absurd (z.symm.trans cs_408) (by decide))).trans ((if_neg (fun z => absurd (z.symm.trans cs_408) (by decide))).trans ((if_pos cs_408).trans (spl2_e u_513 (spl_e ev_514 rfl)))))))))))))) hsp)⟩
            · skip
              have cs_408 := c
              have c_521 : v_12 = 7 := Int32.toInt_inj.mp (by have k9 : (7 : Int32).toInt = 7 := ti_7; omega)
              refine W.eq (g2 := F0 m 51 ls [.int 0, .int x2, .int 3, .int 7, .ref (h 36)]) (by rw [c_521]) ?_
              have q_522 : (f_15 36 3).toInt = 0 := (congrArg Int32.toInt (show f_15 36 3 = 0 from (by rw [ef_15, sg_up_s, sgu_n (by decide)]; exact (by rw [ef_14, sg_up_s, sgu_n (by decide)]; exact (by rw [ef_1, sg_up_s, sgu_s]))))).trans (by decide)
              refine sg_calli (va_runV (As := [.int 7, .int 3, .int x2, .int 0]) (rest := []) ⟨hx, hb, hml, hown, hts⟩ (kX3_does_7_3_0_f0_f7 l D ca za h hh f_15 L Q hI x2 (by rw [ef_15, sg_up_s, sgu_n (by decide)]; exact (by rw [ef_14, sg_up_s, sgu_n (by decide)]; exact (by rw [ef_1, sg_up_s, sgu_s]))) (Eq.trans (by rw [ef_15, sg_up_s, sgu_n (by decide)]; exact (by rw [ef_14, sg_up_s, sgu_s])) c_521) (by have k0 : (7 : Int32).toInt = 7 := ti_7; have k1 : (3 : Int32).toInt = 3 := ti_3; have k3 : (0 : Int32).toInt = 0 := ti_0; omega) H.size) (sl_c3_does_11_0_0_274_3 hts ⟨Nat.le_of_ble_eq_true rfl, Nat.le_of_ble_eq_true rfl⟩) (sl_vX_36 hA hK hP hS hZ) rfl rfl hl.1 rfl (lv_room (Nat.le_of_ble_eq_true rfl)) dX3_acts_51 ⟨Nat.le_refl _, Nat.le_refl _⟩) hA hS (fun r_527 f_524 L_525 Q_526 H locs hq hP hS => ?_)
              obtain ⟨⟨hI, hk_f_524, eL9, eQ9⟩, hq, p_528, u_529⟩ := hq
              rw [eL9, eQ9] at hP; clear eL9 eQ9
              have hF : sgK WkX3_acts f f_524 := sgK.tr hF hk_f_524 (by decide +kernel)
              obtain ⟨v_530, ev_530⟩ : ∃ z : Int32, z = f_524 36 3 := ⟨_, rfl⟩
              have q_531 : 0 ≤ v_530.toInt ∧ v_530.toInt ≤ 19 := by rw [ev_530]; exact hI 36 3
              have q_532 : (f_524 36 3).toInt = v_530.toInt := (congrArg Int32.toInt (show f_524 36 3 = v_530 from ev_530.symm))
              have k_534 : (7 : Int32).toInt = 7 := by decide
              have k_535 : (3 : Int32).toInt = 3 := by decide
              have k_536 : (0 : Int32).toInt = 0 := by decide
              exact hret _ _ _ _ (r_527) f_524 L Q dX3_acts_54 hP hS ⟨⟨hI, hF, rfl, rfl⟩, trivial, (Eq.trans (Eq.symm (hs.trans ((if_neg (fun z => absurd (z.symm.trans cs_16) (by decide))).trans ((if_neg (fun z => absurd (z.symm.trans cs_16) (by decide))).trans ((if_neg (fun z => absurd (z.symm.trans cs_16) (by decide))).trans ((if_neg (fun z => absurd (z.symm.trans cs_408) (by decide))).trans ((if_neg (fun z => absurd (z.symm.trans cs_408) (by decide))).trans ((if_neg (fun z => absurd (z.symm.trans cs_408) (by decide))).trans ((if_neg (fun z => absurd (z.symm.trans cs_408) (by decide))).trans ((if_neg (fun z => absurd (z.symm.trans cs_408) (by decide))).trans ((if_neg (fun z => absurd (z.symm.trans cs_408) (by decide))).trans ((if_neg (fun z => absurd (z.symm.trans cs_408) (by decide))).trans (spl2_e u_529 (spl_e ev_530 rfl)))))))))))))) hsp)⟩
        · skip
          have c_11 : 4 ≤ x1.toInt := (by first | exact (cm_nlt1 ti_4 c) | (have z := bn_nlt c; have k1 : (4 : Int32).toInt = 4 := ti_4; omega))
          refine lv_iconst (v := 0) hx hb dX3_acts_26 ic_0 ?_
          have k99 : (0 : Int32).toInt = 0 := ti_0
          exact hret _ _ _ _ (0) f_1 L Q dX3_acts_27 hP hS ⟨⟨hI, hF, rfl, rfl⟩, trivial, (Eq.trans (Eq.symm (hs.trans ((if_neg (Int.not_lt.mpr c_11)).trans rfl))) hsp)⟩
