/-! contracts of any state. Laid by a program (wip/tool) -/
abbrev WkX3_does_4_1_1_f1_f4 : List (Nat × Nat × Option Nat) := [(36, 36, some 3), (38, 38, none)]
set_option maxHeartbeats 4000000 in
set_option maxRecDepth 100000 in
theorem kX3_does_4_1_1_f1_f4 (l : Launch) (D : va_G) (ca : Nat → ClassId) (za h : Nat → Nat) (hh : sgH 52 h) (f : sg_F) (L : sg_L) (Q : sg_Q) (hI : sgI loX hiX f) (x2 : Int32) (hf_36_3 : f 36 3 = 1) (hf_36_4 : f 36 4 = 4) (p0 : 1 ≤ (f 36 3).toInt ∧ (f 36 3).toInt ≤ 1) (sz : Nat) : Met l yX3_does gwX3_does { frames := 5, cells := 0, slots := 0, locals := 124 } (sgP D vwCl (tyX ca) 52 h (eX ca h) zcX za f L Q sz [.ref (h 36), .int 4, .int 1, .int x2, .int 1]) (sgQi D vwCl 52 h (eX ca h) sz (fun r f1 L1 Q1 => ((sgI loX hiX f1 ∧ sgK WkX3_does_4_1_1_f1_f4 f f1 ∧ L1 = L ∧ Q1 = Q) ∧ True ∧ (4 ≤ (f1 36 3).toInt ∧ (f1 36 3).toInt ≤ 4)))) 0 0 (sgA 52 h sz) := by
  refine sg_ofWi (cc := cX3_does) (maxL := 7) RX3 (by decide) rfl rfl (Nat.le_of_ble_eq_true rfl) ?_
  intro p e s m below meth cd Qz ls hx hb hml hown hts hK hZ hP hS hl hret
  have hA := sgY.self (n := 52) (h := h) (sz := s.heap.size)
  have hl : lv_has ls 7 [(0, .ref (h 36)), (1, .int 4), (2, .int 1), (3, .int x2), (4, .int 1)] := hl
  obtain ⟨H, hH⟩ : ∃ z : Heap, z = s.heap := ⟨_, rfl⟩
  obtain ⟨locs, hlo⟩ : ∃ z : List Loc, z = [] := ⟨_, rfl⟩
  have hP : va_P D vwCl (sgw 52 h (eX ca h) f L Q) H := by rw [hH]; exact hP
  have hS : va_S (sgA 52 h s.heap.size) s.heap H locs := by rw [hH, hlo]; exact hS
  suffices hgo : W p l e ({ frames := 5, cells := 0, slots := 0, locals := 124 }) s m ([.ref (h 36), .int 4, .int 1, .int x2, .int 1] : List Value).toArray below meth cd H locs 0 0 Qz (F0 m 0 ls []) by rw [hH, hlo] at hgo; exact hgo
  clear hH hlo
  have o_1 : (f 36 3).toInt = 1 := (congrArg Int32.toInt (show f 36 3 = 1 from hf_36_3)).trans (by decide)
  have hF : sgK WkX3_does_4_1_1_f1_f4 f f := sgK.rf
  have blk_53 : ∀ (fp_53 : sg_F) (H : Heap) (locs : List Loc) (ls : Array Slot), 1 ≤ (fp_53 36 3).toInt ∧ (fp_53 36 3).toInt ≤ 1 → 4 ≤ (fp_53 36 4).toInt ∧ (fp_53 36 4).toInt ≤ 4 → sgI loX hiX fp_53 → sgK WkX3_does_4_1_1_f1_f4 f fp_53 → va_P D vwCl (sgw 52 h (eX ca h) fp_53 L Q) H → va_S (sgA 52 h s.heap.size) s.heap H locs → lv_has ls 7 [(0, .ref (h 36)), (3, .int x2), (4, .int 1), (5, .int 0), (6, .int 10)] → W p l e ({ frames := 5, cells := 0, slots := 0, locals := 124 }) s m ([.ref (h 36), .int 4, .int 1, .int x2, .int 1] : List Value).toArray below meth cd H locs 0 0 Qz (F0 m 53 ls []) := by
    intro fp_53 H locs ls hy0_53 hy1_53 hI hF hP hS hl
    obtain ⟨v_2, ev_2⟩ : ∃ z : Int32, z = fp_53 36 3 := ⟨_, rfl⟩
    have q_3 : 0 ≤ v_2.toInt ∧ v_2.toInt ≤ 19 := by rw [ev_2]; exact hI 36 3
    have q_4 : (fp_53 36 3).toInt = v_2.toInt := by rw [ev_2]
    obtain ⟨v_5, ev_5⟩ : ∃ z : Int32, z = fp_53 36 4 := ⟨_, rfl⟩
    have q_6 : 0 ≤ v_5.toInt ∧ v_5.toInt ≤ 7 := by rw [ev_5]; exact hI 36 4
    have q_7 : (fp_53 36 4).toInt = v_5.toInt := by rw [ev_5]
    have m_8 : fp_53 36 4 = 4 := (hF 36 4 (by decide)).trans hf_36_4
    refine lv_aload_n hx hb dX3_does_53 rfl (lv_at hl 0 rfl) ?_
    refine lv_dup hx hb dX3_does_54 rfl ?_
    refine sg_get (ci := 3) (v := .int v_2) (C := RX3) (T := TX3) (N := 6) hx hb hts (fun w h => List.mem_cons_of_mem _ (gx_3 w h)) hown hK hP 36 (by decide) rfl rfl 3 (by decide) (hts _ (List.mem_cons_of_mem _ mw_16)) (fun _ h9 => h9) (congrArg (fun z => some (Value.int z)) (show fp_53 36 3 = v_2 from ev_2.symm)) dX3_does_55 ?_
    refine lv_iconst (v := 1) hx hb dX3_does_58 (by decide) ?_
    refine lv_iadd hx hb dX3_does_59 ?_
    refine lv_topi (fun v_9 ev_9 => ?_)
    have q_10 : v_9.toInt = v_2.toInt + 1 := by rw [ev_9]; have k1 : (1 : Int32).toInt = 1 := (by decide); exact (bn_addI (by omega) (by omega)).trans (by omega)
    refine sg_put (ci := 3) (x := v_9) (ty := .int) (C := RX3) (T := TX3) (N := 6) hx hb hts (fun w h => List.mem_cons_of_mem _ (gx_3 w h)) tyX3 tyX3_ok nmX3 hown hh hA hK hP hS 36 (by decide) rfl rfl 3 (by decide) (hts _ (List.mem_cons_of_mem _ mw_16)) (fun _ h9 => h9) rfl rfl (by decide +kernel) rfl rfl (Nat.le_of_ble_eq_true rfl) dX3_does_60 (fun f_11 H locs ef_11 hP hS => ?_)
    have hI : sgI loX hiX f_11 := by rw [ef_11]; exact sgI.put hI 36 3 (show 0 ≤ (v_9 : Int32).toInt ∧ (v_9 : Int32).toInt ≤ 19 from by omega)
    have hF : sgK WkX3_does_4_1_1_f1_f4 f f_11 := sgK.put hF ef_11 (by rfl)
    refine lv_aload_n hx hb dX3_does_63 rfl (lv_at hl 0 rfl) ?_
    refine lv_iload hx hb dX3_does_64 (lv_at hl 4 rfl) ?_
    refine sg_gets hx hb hZ 2 rfl hS hown (hts _ (List.mem_cons_of_mem _ mw_174)) (fun _ h9 => h9) dX3_does_66 ?_
    refine lv_iload hx hb dX3_does_69 (lv_at hl 3 rfl) ?_
    refine sg_sald hx hb hZ 2 rfl hS (y := 0) (N := 8) (vp_in_iff.mpr (by decide)) dX3_does_71 ?_
    refine W.eq (g2 := F0 m 72 ls [.int (-1), .int 10, .ref (h 36)]) (by rfl) ?_
    refine lv_iload_n hx hb dX3_does_72 rfl (lv_at hl 1 rfl) ?_
    refine lv_iload hx hb dX3_does_73 (lv_at hl 2 rfl) ?_
    refine lv_iconst (v := 1) hx hb dX3_does_75 (by decide) ?_
    refine lv_iadd hx hb dX3_does_76 ?_
    refine W.eq (g2 := F0 m 77 ls [.int 2, .int x2, .int (-1), .int 10, .ref (h 36)]) (by rw [show (1 + 1 : Int32) = 2 from by decide]) ?_
    have c_12 : v_9 = 2 := Int32.toInt_inj.mp (by have k9 : (2 : Int32).toInt = 2 := (by decide); omega)
    have q_13 : (f_11 36 3).toInt = 2 := (congrArg Int32.toInt (show f_11 36 3 = 2 from (Eq.trans (by rw [ef_11, sg_up_s, sgu_s]) c_12))).trans (by decide)
    have q_14 : (f_11 36 3).toInt = 2 := (congrArg Int32.toInt (show f_11 36 3 = 2 from (Eq.trans (by rw [ef_11, sg_up_s, sgu_s]) c_12))).trans (by decide)
    refine sg_calli (va_runV (As := [.int 10, .int (-1), .int x2, .int 2]) (rest := []) ⟨hx, hb, hml, hown, hts⟩ (kX3_runs_10_m1_2_f2_f4 l D ca za h hh f_11 L Q hI x2 (Eq.trans (by rw [ef_11, sg_up_s, sgu_s]) c_12) (by rw [ef_11, sg_up_s, sgu_n (by decide)]; exact m_8) (by have k0 : (10 : Int32).toInt = 10 := (by decide); have k1 : ((-1) : Int32).toInt = (-1) := (by decide); have k3 : (2 : Int32).toInt = 2 := (by decide); omega) H.size) (cwV 4 hts (gw_V (fun _ h => List.mem_cons_of_mem _ h) mw_311 mw_312 mw_313 mw_47 mw_310) rfl rfl rfl (by decide +kernel) ⟨Nat.le_of_ble_eq_true rfl, Nat.le_of_ble_eq_true rfl⟩) (sg_preV (ci := 3) (C := RX3) (T := TX3) (N := 6) hA hK hP hS hZ 36 (by decide) rfl rfl) rfl rfl hl.1 rfl (lv_room (Nat.le_of_ble_eq_true rfl)) dX3_does_77 ⟨Nat.le_refl _, Nat.le_refl _⟩) hA hS (fun r_18 f_15 L_16 Q_17 H locs hq hP hS => ?_)
    obtain ⟨⟨hI, hk_f_15, eL9, eQ9⟩, hq, p_19⟩ := hq
    rw [eL9, eQ9] at hP; clear eL9 eQ9
    have hF : sgK WkX3_does_4_1_1_f1_f4 f f_15 := sgK.tr hF hk_f_15 (by decide)
    obtain ⟨v_20, ev_20⟩ : ∃ z : Int32, z = f_15 36 3 := ⟨_, rfl⟩
    have q_21 : 0 ≤ v_20.toInt ∧ v_20.toInt ≤ 19 := by rw [ev_20]; exact hI 36 3
    have q_22 : (f_15 36 3).toInt = v_20.toInt := (congrArg Int32.toInt (show f_15 36 3 = v_20 from ev_20.symm))
    have q_23 : (f_15 36 3).toInt = v_20.toInt := (congrArg Int32.toInt (show f_15 36 3 = v_20 from ev_20.symm))
    have k_24 : (10 : Int32).toInt = 10 := by decide
    have k_25 : ((-1) : Int32).toInt = (-1) := by decide
    have k_26 : (2 : Int32).toInt = 2 := by decide
    have q_27 : (f_15 36 3).toInt = v_20.toInt := (congrArg Int32.toInt (show f_15 36 3 = v_20 from ev_20.symm))
    have q_28 : (f_15 36 3).toInt = v_20.toInt := (congrArg Int32.toInt (show f_15 36 3 = v_20 from ev_20.symm))
    exact hret _ _ _ _ (r_18) f_15 L Q dX3_does_80 hP hS ⟨⟨hI, hF, rfl, rfl⟩, trivial, (by omega)⟩
  refine lv_iload_n hx hb dX3_does_0 rfl (lv_at hl 1 rfl) ?_
  refine lv_iload_n hx hb dX3_does_1 rfl (lv_at hl 2 rfl) ?_
  refine sg_calli (va_runS (As := [.int 4, .int 1]) (rest := []) ⟨hx, hb, hml, hown, hts⟩ (kX3_ownerOf_4_1 l D ca za h hh f L Q hI H.size) (va_cwS 2 hts (gw_S (fun _ h => List.mem_cons_of_mem _ h) mw_189 mw_190 mw_47 mw_188) rfl rfl rfl (by decide +kernel) ⟨Nat.le_of_ble_eq_true rfl, Nat.le_of_ble_eq_true rfl⟩) (sg_preS hA hK hP hS hZ) rfl rfl hl.1 rfl (lv_room (Nat.le_of_ble_eq_true rfl)) dX3_does_2 ⟨Nat.le_refl _, Nat.le_refl _⟩) hA hS (fun r_32 f_29 L_30 Q_31 H locs hq hP hS => ?_)
  obtain ⟨⟨ef9, eL9, eQ9⟩, hq⟩ := hq
  rw [ef9, eL9, eQ9] at hP; clear ef9 eL9 eQ9
  obtain rfl : r_32 = 0 := Int32.toInt_inj.mp (by have k9 : (0 : Int32).toInt = 0 := (by decide); omega)
  refine lv_istore (lv' := [(5, .int 0), (0, .ref (h 36)), (1, .int 4), (2, .int 1), (3, .int x2), (4, .int 1)]) hx hb dX3_does_5 hl (by decide) rfl (fun ls hl => ?_)
  refine lv_iload hx hb dX3_does_7 (lv_at hl 0 rfl) ?_
  refine lv_if_lt (tgt := 19) hx hb dX3_does_9 (by decide) (fun c => absurd c (by decide)) (fun c => ?_)
  refine lv_iload hx hb dX3_does_12 (lv_at hl 5 rfl) ?_
  refine lv_bipush (v := 40) hx hb dX3_does_14 (by decide) ?_
  refine lv_icmp_le (tgt := 21) hx hb dX3_does_16 (by decide) (fun c => ?_) (fun c => absurd c (by decide))
  refine sg_gets hx hb hZ 3 rfl hS hown (hts _ (List.mem_cons_of_mem _ mw_173)) (fun _ h9 => h9) dX3_does_21 ?_
  refine lv_iload hx hb dX3_does_24 (lv_at hl 0 rfl) ?_
  refine lv_iconst (v := 4) hx hb dX3_does_26 (by decide) ?_
  refine lv_imul hx hb dX3_does_27 ?_
  refine W.eq (g2 := F0 m 28 ls [.int 0, .ref (za 3)]) (by rw [show (0 * 4 : Int32) = 0 from by decide]) ?_
  refine lv_iload_n hx hb dX3_does_28 rfl (lv_at hl 3 rfl) ?_
  refine lv_iadd hx hb dX3_does_29 ?_
  refine W.eq (g2 := F0 m 30 ls [.int 1, .ref (za 3)]) (by rw [show (0 + 1 : Int32) = 1 from by decide]) ?_
  refine sg_sald hx hb hZ 3 rfl hS (y := 1) (N := 32) (vp_in_iff.mpr (by decide)) dX3_does_30 ?_
  refine W.eq (g2 := F0 m 31 ls [.int 10]) (by rfl) ?_
  refine lv_istore (lv' := [(6, .int 10), (5, .int 0), (0, .ref (h 36)), (1, .int 4), (2, .int 1), (3, .int x2), (4, .int 1)]) hx hb dX3_does_31 hl (by decide) rfl (fun ls hl => ?_)
  refine lv_aload_n hx hb dX3_does_33 rfl (lv_at hl 2 rfl) ?_
  refine sg_get (ci := 3) (v := .int 1) (C := RX3) (T := TX3) (N := 6) hx hb hts (fun w h => List.mem_cons_of_mem _ (gx_3 w h)) hown hK hP 36 (by decide) rfl rfl 3 (by decide) (hts _ (List.mem_cons_of_mem _ mw_16)) (fun _ h9 => h9) (congrArg (fun z => some (Value.int z)) (show f 36 3 = 1 from hf_36_3)) dX3_does_34 ?_
  refine lv_bipush (v := 24) hx hb dX3_does_37 (by decide) ?_
  refine lv_icmp_ge (tgt := 53) hx hb dX3_does_39 (by decide) (fun c => absurd c (by decide)) (fun c => ?_)
  refine lv_aload_n hx hb dX3_does_42 rfl (lv_at hl 2 rfl) ?_
  refine sg_get (ci := 3) (v := .ref (h 38)) (C := RX3) (T := TX3) (N := 6) hx hb hts (fun w h => List.mem_cons_of_mem _ (gx_3 w h)) hown hK hP 36 (by decide) rfl rfl 1 (by decide) (hts _ (List.mem_cons_of_mem _ mw_191)) (fun _ h9 => h9) rfl dX3_does_43 ?_
  refine lv_aload_n hx hb dX3_does_46 rfl (lv_at hl 2 rfl) ?_
  refine sg_get (ci := 3) (v := .int 1) (C := RX3) (T := TX3) (N := 6) hx hb hts (fun w h => List.mem_cons_of_mem _ (gx_3 w h)) hown hK hP 36 (by decide) rfl rfl 3 (by decide) (hts _ (List.mem_cons_of_mem _ mw_16)) (fun _ h9 => h9) (congrArg (fun z => some (Value.int z)) (show f 36 3 = 1 from hf_36_3)) dX3_does_47 ?_
  refine lv_iload hx hb dX3_does_50 (lv_at hl 0 rfl) ?_
  refine sg_iast hx hb hh hA hK hP hS 38 (by decide) 0 (fun _ => rfl) rfl (i := 1) (x := 10) (vp_in_iff.mpr (by decide)) dX3_does_52 (fun f_33 H locs ef_33 hP hS => ?_)
  have hI : sgI loX hiX f_33 := by rw [ef_33]; exact sgI.put hI 38 (Int32.toNatClampNeg 1) (show 0 ≤ (10 : Int32).toInt ∧ (10 : Int32).toInt ≤ 81 from by decide)
  have hF : sgK WkX3_does_4_1_1_f1_f4 f f_33 := sgK.put hF ef_33 (by rfl)
  exact blk_53 f_33 _ _ _ (by have zz36_3 : (f_33 36 3).toInt = 1 := (congrArg Int32.toInt (show f_33 36 3 = 1 from (by rw [ef_33, sg_up_n (by decide)]; exact hf_36_3))).trans (by decide); omega) (by have zz36_4 : (f_33 36 4).toInt = 4 := (congrArg Int32.toInt (show f_33 36 4 = 4 from (by rw [ef_33, sg_up_n (by decide)]; exact hf_36_4))).trans (by decide); omega) hI hF hP hS (lv_sub hl [2, 5, 6, 1, 0] rfl)

set_option maxHeartbeats 4000000 in
set_option maxRecDepth 100000 in
theorem kX3_runs_11_m1_3_f6_f4 (l : Launch) (D : va_G) (ca : Nat → ClassId) (za h : Nat → Nat) (hh : sgH 52 h) (f : sg_F) (L : sg_L) (Q : sg_Q) (hI : sgI loX hiX f) (x2 : Int32) (hf_36_3 : f 36 3 = 6) (hf_36_4 : f 36 4 = 4) (b2 : 1 ≤ x2.toInt ∧ x2.toInt ≤ 1) (p0 : 6 ≤ (f 36 3).toInt ∧ (f 36 3).toInt ≤ 6) (sz : Nat) : Met l yX3_runs gwX3_runs { frames := 0, cells := 0, slots := 0, locals := 0 } (sgP D vwCl (tyX ca) 52 h (eX ca h) zcX za f L Q sz [.ref (h 36), .int 11, .int (-1), .int x2, .int 3]) (sgQi D vwCl 52 h (eX ca h) sz (fun r f1 L1 Q1 => ((f1 = f ∧ L1 = L ∧ Q1 = Q) ∧ True ∧ (6 ≤ (f1 36 3).toInt ∧ (f1 36 3).toInt ≤ 6)))) 0 0 (sgA 52 h sz) := by
  refine sg_ofWi (cc := cX3_runs) (maxL := 5) RX3 (by decide) rfl rfl (Nat.le_of_ble_eq_true rfl) ?_
  intro p e s m below meth cd Qz ls hx hb hml hown hts hK hZ hP hS hl hret
  have hA := sgY.self (n := 52) (h := h) (sz := s.heap.size)
  have hl : lv_has ls 5 [(0, .ref (h 36)), (1, .int 11), (2, .int (-1)), (3, .int x2), (4, .int 3)] := hl
  obtain ⟨H, hH⟩ : ∃ z : Heap, z = s.heap := ⟨_, rfl⟩
  obtain ⟨locs, hlo⟩ : ∃ z : List Loc, z = [] := ⟨_, rfl⟩
  have hP : va_P D vwCl (sgw 52 h (eX ca h) f L Q) H := by rw [hH]; exact hP
  have hS : va_S (sgA 52 h s.heap.size) s.heap H locs := by rw [hH, hlo]; exact hS
  suffices hgo : W p l e ({ frames := 0, cells := 0, slots := 0, locals := 0 }) s m ([.ref (h 36), .int 11, .int (-1), .int x2, .int 3] : List Value).toArray below meth cd H locs 0 0 Qz (F0 m 0 ls []) by rw [hH, hlo] at hgo; exact hgo
  clear hH hlo
  have o_1 : (f 36 3).toInt = 6 := (congrArg Int32.toInt (show f 36 3 = 6 from hf_36_3)).trans (by decide)
  refine lv_iload_n hx hb dX3_runs_0 rfl (lv_at hl 1 rfl) ?_
  refine lv_lookup (x := 11) (off := 163) (tgt := 164) hx hb dX3_runs_1 (by decide) (by decide) (by decide) ?_
  refine lv_iload_n hx hb dX3_runs_164 rfl (lv_at hl 3 rfl) ?_
  refine lv_aload_n hx hb dX3_runs_165 rfl (lv_at hl 0 rfl) ?_
  refine sg_get (ci := 3) (v := .int (f 36 5)) (C := RX3) (T := TX3) (N := 6) hx hb hts (fun w h => List.mem_cons_of_mem _ (gx_3 w h)) hown hK hP 36 (by decide) rfl rfl 5 (by decide) (hts _ (List.mem_cons_of_mem _ mw_106)) (fun _ h9 => h9) rfl dX3_runs_166 ?_
  refine lv_topi (fun v_2 ev_2 => ?_)
  have q_3 : 0 ≤ v_2.toInt ∧ v_2.toInt ≤ 49 := by rw [ev_2]; exact hI 36 5
  refine lv_ixor hx hb dX3_runs_169 ?_
  refine lv_topi (fun v_4 ev_4 => ?_)
  have q_5 : (f 36 3).toInt = 6 := (congrArg Int32.toInt (show f 36 3 = 6 from hf_36_3)).trans (by decide)
  have q_6 : (f 36 3).toInt = 6 := (congrArg Int32.toInt (show f 36 3 = 6 from hf_36_3)).trans (by decide)
  exact hret _ _ _ _ (v_4) f L Q dX3_runs_170 hP hS ⟨⟨rfl, rfl, rfl⟩, trivial, (by omega)⟩

abbrev WkX3_does_1_2_2_f5_f4 : List (Nat × Nat × Option Nat) := [(36, 36, some 3), (38, 38, none)]
set_option maxHeartbeats 4000000 in
set_option maxRecDepth 100000 in
theorem kX3_does_1_2_2_f5_f4 (l : Launch) (D : va_G) (ca : Nat → ClassId) (za h : Nat → Nat) (hh : sgH 52 h) (f : sg_F) (L : sg_L) (Q : sg_Q) (hI : sgI loX hiX f) (x2 : Int32) (hf_36_3 : f 36 3 = 5) (hf_36_4 : f 36 4 = 4) (b2 : 1 ≤ x2.toInt ∧ x2.toInt ≤ 1) (p0 : 5 ≤ (f 36 3).toInt ∧ (f 36 3).toInt ≤ 5) (sz : Nat) : Met l yX3_does gwX3_does { frames := 1, cells := 0, slots := 0, locals := 24 } (sgP D vwCl (tyX ca) 52 h (eX ca h) zcX za f L Q sz [.ref (h 36), .int 1, .int 2, .int x2, .int 2]) (sgQi D vwCl 52 h (eX ca h) sz (fun r f1 L1 Q1 => ((sgI loX hiX f1 ∧ sgK WkX3_does_1_2_2_f5_f4 f f1 ∧ L1 = L ∧ Q1 = Q) ∧ True ∧ (6 ≤ (f1 36 3).toInt ∧ (f1 36 3).toInt ≤ 6)))) 0 0 (sgA 52 h sz) := by
  refine sg_ofWi (cc := cX3_does) (maxL := 7) RX3 (by decide) rfl rfl (Nat.le_of_ble_eq_true rfl) ?_
  intro p e s m below meth cd Qz ls hx hb hml hown hts hK hZ hP hS hl hret
  have hA := sgY.self (n := 52) (h := h) (sz := s.heap.size)
  have hl : lv_has ls 7 [(0, .ref (h 36)), (1, .int 1), (2, .int 2), (3, .int x2), (4, .int 2)] := hl
  obtain ⟨H, hH⟩ : ∃ z : Heap, z = s.heap := ⟨_, rfl⟩
  obtain ⟨locs, hlo⟩ : ∃ z : List Loc, z = [] := ⟨_, rfl⟩
  have hP : va_P D vwCl (sgw 52 h (eX ca h) f L Q) H := by rw [hH]; exact hP
  have hS : va_S (sgA 52 h s.heap.size) s.heap H locs := by rw [hH, hlo]; exact hS
  suffices hgo : W p l e ({ frames := 1, cells := 0, slots := 0, locals := 24 }) s m ([.ref (h 36), .int 1, .int 2, .int x2, .int 2] : List Value).toArray below meth cd H locs 0 0 Qz (F0 m 0 ls []) by rw [hH, hlo] at hgo; exact hgo
  clear hH hlo
  have o_1 : (f 36 3).toInt = 5 := (congrArg Int32.toInt (show f 36 3 = 5 from hf_36_3)).trans (by decide)
  have hF : sgK WkX3_does_1_2_2_f5_f4 f f := sgK.rf
  have blk_53 : ∀ (fp_53 : sg_F) (H : Heap) (locs : List Loc) (ls : Array Slot), 5 ≤ (fp_53 36 3).toInt ∧ (fp_53 36 3).toInt ≤ 5 → 4 ≤ (fp_53 36 4).toInt ∧ (fp_53 36 4).toInt ≤ 4 → sgI loX hiX fp_53 → sgK WkX3_does_1_2_2_f5_f4 f fp_53 → va_P D vwCl (sgw 52 h (eX ca h) fp_53 L Q) H → va_S (sgA 52 h s.heap.size) s.heap H locs → lv_has ls 7 [(0, .ref (h 36)), (3, .int x2), (4, .int 2), (5, .int 0), (6, .int 11)] → W p l e ({ frames := 1, cells := 0, slots := 0, locals := 24 }) s m ([.ref (h 36), .int 1, .int 2, .int x2, .int 2] : List Value).toArray below meth cd H locs 0 0 Qz (F0 m 53 ls []) := by
    intro fp_53 H locs ls hy0_53 hy1_53 hI hF hP hS hl
    obtain ⟨v_2, ev_2⟩ : ∃ z : Int32, z = fp_53 36 3 := ⟨_, rfl⟩
    have q_3 : 0 ≤ v_2.toInt ∧ v_2.toInt ≤ 19 := by rw [ev_2]; exact hI 36 3
    have q_4 : (fp_53 36 3).toInt = v_2.toInt := by rw [ev_2]
    obtain ⟨v_5, ev_5⟩ : ∃ z : Int32, z = fp_53 36 4 := ⟨_, rfl⟩
    have q_6 : 0 ≤ v_5.toInt ∧ v_5.toInt ≤ 7 := by rw [ev_5]; exact hI 36 4
    have q_7 : (fp_53 36 4).toInt = v_5.toInt := by rw [ev_5]
    have m_8 : fp_53 36 4 = 4 := (hF 36 4 (by decide)).trans hf_36_4
    refine lv_aload_n hx hb dX3_does_53 rfl (lv_at hl 0 rfl) ?_
    refine lv_dup hx hb dX3_does_54 rfl ?_
    refine sg_get (ci := 3) (v := .int v_2) (C := RX3) (T := TX3) (N := 6) hx hb hts (fun w h => List.mem_cons_of_mem _ (gx_3 w h)) hown hK hP 36 (by decide) rfl rfl 3 (by decide) (hts _ (List.mem_cons_of_mem _ mw_16)) (fun _ h9 => h9) (congrArg (fun z => some (Value.int z)) (show fp_53 36 3 = v_2 from ev_2.symm)) dX3_does_55 ?_
    refine lv_iconst (v := 1) hx hb dX3_does_58 (by decide) ?_
    refine lv_iadd hx hb dX3_does_59 ?_
    refine lv_topi (fun v_9 ev_9 => ?_)
    have q_10 : v_9.toInt = v_2.toInt + 1 := by rw [ev_9]; have k1 : (1 : Int32).toInt = 1 := (by decide); exact (bn_addI (by omega) (by omega)).trans (by omega)
    refine sg_put (ci := 3) (x := v_9) (ty := .int) (C := RX3) (T := TX3) (N := 6) hx hb hts (fun w h => List.mem_cons_of_mem _ (gx_3 w h)) tyX3 tyX3_ok nmX3 hown hh hA hK hP hS 36 (by decide) rfl rfl 3 (by decide) (hts _ (List.mem_cons_of_mem _ mw_16)) (fun _ h9 => h9) rfl rfl (by decide +kernel) rfl rfl (Nat.le_of_ble_eq_true rfl) dX3_does_60 (fun f_11 H locs ef_11 hP hS => ?_)
    have hI : sgI loX hiX f_11 := by rw [ef_11]; exact sgI.put hI 36 3 (show 0 ≤ (v_9 : Int32).toInt ∧ (v_9 : Int32).toInt ≤ 19 from by omega)
    have hF : sgK WkX3_does_1_2_2_f5_f4 f f_11 := sgK.put hF ef_11 (by rfl)
    refine lv_aload_n hx hb dX3_does_63 rfl (lv_at hl 0 rfl) ?_
    refine lv_iload hx hb dX3_does_64 (lv_at hl 4 rfl) ?_
    refine sg_gets hx hb hZ 2 rfl hS hown (hts _ (List.mem_cons_of_mem _ mw_174)) (fun _ h9 => h9) dX3_does_66 ?_
    refine lv_iload hx hb dX3_does_69 (lv_at hl 3 rfl) ?_
    refine sg_sald hx hb hZ 2 rfl hS (y := 0) (N := 8) (vp_in_iff.mpr (by decide)) dX3_does_71 ?_
    refine W.eq (g2 := F0 m 72 ls [.int (-1), .int 11, .ref (h 36)]) (by rfl) ?_
    refine lv_iload_n hx hb dX3_does_72 rfl (lv_at hl 1 rfl) ?_
    refine lv_iload hx hb dX3_does_73 (lv_at hl 2 rfl) ?_
    refine lv_iconst (v := 1) hx hb dX3_does_75 (by decide) ?_
    refine lv_iadd hx hb dX3_does_76 ?_
    refine W.eq (g2 := F0 m 77 ls [.int 3, .int x2, .int (-1), .int 11, .ref (h 36)]) (by rw [show (2 + 1 : Int32) = 3 from by decide]) ?_
    have c_12 : v_9 = 6 := Int32.toInt_inj.mp (by have k9 : (6 : Int32).toInt = 6 := (by decide); omega)
    have q_13 : (f_11 36 3).toInt = 6 := (congrArg Int32.toInt (show f_11 36 3 = 6 from (Eq.trans (by rw [ef_11, sg_up_s, sgu_s]) c_12))).trans (by decide)
    have q_14 : (f_11 36 3).toInt = 6 := (congrArg Int32.toInt (show f_11 36 3 = 6 from (Eq.trans (by rw [ef_11, sg_up_s, sgu_s]) c_12))).trans (by decide)
    refine sg_calli (va_runV (As := [.int 11, .int (-1), .int x2, .int 3]) (rest := []) ⟨hx, hb, hml, hown, hts⟩ (kX3_runs_11_m1_3_f6_f4 l D ca za h hh f_11 L Q hI x2 (Eq.trans (by rw [ef_11, sg_up_s, sgu_s]) c_12) (by rw [ef_11, sg_up_s, sgu_n (by decide)]; exact m_8) (by omega) (by have k0 : (11 : Int32).toInt = 11 := (by decide); have k1 : ((-1) : Int32).toInt = (-1) := (by decide); have k3 : (3 : Int32).toInt = 3 := (by decide); omega) H.size) (cwV 4 hts (gw_V (fun _ h => List.mem_cons_of_mem _ h) mw_311 mw_312 mw_313 mw_47 mw_310) rfl rfl rfl (by decide +kernel) ⟨Nat.le_of_ble_eq_true rfl, Nat.le_of_ble_eq_true rfl⟩) (sg_preV (ci := 3) (C := RX3) (T := TX3) (N := 6) hA hK hP hS hZ 36 (by decide) rfl rfl) rfl rfl hl.1 rfl (lv_room (Nat.le_of_ble_eq_true rfl)) dX3_does_77 ⟨Nat.le_refl _, Nat.le_refl _⟩) hA hS (fun r_18 f_15 L_16 Q_17 H locs hq hP hS => ?_)
    obtain ⟨⟨ef9, eL9, eQ9⟩, hq, p_19⟩ := hq
    rw [ef9, eL9, eQ9] at hP; clear ef9 eL9 eQ9
    have q_20 : (f_11 36 3).toInt = 6 := (congrArg Int32.toInt (show f_11 36 3 = 6 from (Eq.trans (by rw [ef_11, sg_up_s, sgu_s]) c_12))).trans (by decide)
    have q_21 : (f_11 36 3).toInt = 6 := (congrArg Int32.toInt (show f_11 36 3 = 6 from (Eq.trans (by rw [ef_11, sg_up_s, sgu_s]) c_12))).trans (by decide)
    have k_22 : (11 : Int32).toInt = 11 := by decide
    have k_23 : ((-1) : Int32).toInt = (-1) := by decide
    have k_24 : (3 : Int32).toInt = 3 := by decide
    have q_25 : (f_11 36 3).toInt = 6 := (congrArg Int32.toInt (show f_11 36 3 = 6 from (Eq.trans (by rw [ef_11, sg_up_s, sgu_s]) c_12))).trans (by decide)
    have q_26 : (f_11 36 3).toInt = 6 := (congrArg Int32.toInt (show f_11 36 3 = 6 from (Eq.trans (by rw [ef_11, sg_up_s, sgu_s]) c_12))).trans (by decide)
    exact hret _ _ _ _ (r_18) f_11 L Q dX3_does_80 hP hS ⟨⟨hI, hF, rfl, rfl⟩, trivial, (by omega)⟩
  refine lv_iload_n hx hb dX3_does_0 rfl (lv_at hl 1 rfl) ?_
  refine lv_iload_n hx hb dX3_does_1 rfl (lv_at hl 2 rfl) ?_
  refine sg_calli (va_runS (As := [.int 1, .int 2]) (rest := []) ⟨hx, hb, hml, hown, hts⟩ (kX3_ownerOf_1_2 l D ca za h hh f L Q hI H.size) (va_cwS 2 hts (gw_S (fun _ h => List.mem_cons_of_mem _ h) mw_189 mw_190 mw_47 mw_188) rfl rfl rfl (by decide +kernel) ⟨Nat.le_of_ble_eq_true rfl, Nat.le_of_ble_eq_true rfl⟩) (sg_preS hA hK hP hS hZ) rfl rfl hl.1 rfl (lv_room (Nat.le_of_ble_eq_true rfl)) dX3_does_2 ⟨Nat.le_refl _, Nat.le_refl _⟩) hA hS (fun r_30 f_27 L_28 Q_29 H locs hq hP hS => ?_)
  obtain ⟨⟨ef9, eL9, eQ9⟩, hq⟩ := hq
  rw [ef9, eL9, eQ9] at hP; clear ef9 eL9 eQ9
  obtain rfl : r_30 = 0 := Int32.toInt_inj.mp (by have k9 : (0 : Int32).toInt = 0 := (by decide); omega)
  refine lv_istore (lv' := [(5, .int 0), (0, .ref (h 36)), (1, .int 1), (2, .int 2), (3, .int x2), (4, .int 2)]) hx hb dX3_does_5 hl (by decide) rfl (fun ls hl => ?_)
  refine lv_iload hx hb dX3_does_7 (lv_at hl 0 rfl) ?_
  refine lv_if_lt (tgt := 19) hx hb dX3_does_9 (by decide) (fun c => absurd c (by decide)) (fun c => ?_)
  refine lv_iload hx hb dX3_does_12 (lv_at hl 5 rfl) ?_
  refine lv_bipush (v := 40) hx hb dX3_does_14 (by decide) ?_
  refine lv_icmp_le (tgt := 21) hx hb dX3_does_16 (by decide) (fun c => ?_) (fun c => absurd c (by decide))
  refine sg_gets hx hb hZ 3 rfl hS hown (hts _ (List.mem_cons_of_mem _ mw_173)) (fun _ h9 => h9) dX3_does_21 ?_
  refine lv_iload hx hb dX3_does_24 (lv_at hl 0 rfl) ?_
  refine lv_iconst (v := 4) hx hb dX3_does_26 (by decide) ?_
  refine lv_imul hx hb dX3_does_27 ?_
  refine W.eq (g2 := F0 m 28 ls [.int 0, .ref (za 3)]) (by rw [show (0 * 4 : Int32) = 0 from by decide]) ?_
  refine lv_iload_n hx hb dX3_does_28 rfl (lv_at hl 3 rfl) ?_
  refine lv_iadd hx hb dX3_does_29 ?_
  refine W.eq (g2 := F0 m 30 ls [.int 2, .ref (za 3)]) (by rw [show (0 + 2 : Int32) = 2 from by decide]) ?_
  refine sg_sald hx hb hZ 3 rfl hS (y := 2) (N := 32) (vp_in_iff.mpr (by decide)) dX3_does_30 ?_
  refine W.eq (g2 := F0 m 31 ls [.int 11]) (by rfl) ?_
  refine lv_istore (lv' := [(6, .int 11), (5, .int 0), (0, .ref (h 36)), (1, .int 1), (2, .int 2), (3, .int x2), (4, .int 2)]) hx hb dX3_does_31 hl (by decide) rfl (fun ls hl => ?_)
  refine lv_aload_n hx hb dX3_does_33 rfl (lv_at hl 2 rfl) ?_
  refine sg_get (ci := 3) (v := .int 5) (C := RX3) (T := TX3) (N := 6) hx hb hts (fun w h => List.mem_cons_of_mem _ (gx_3 w h)) hown hK hP 36 (by decide) rfl rfl 3 (by decide) (hts _ (List.mem_cons_of_mem _ mw_16)) (fun _ h9 => h9) (congrArg (fun z => some (Value.int z)) (show f 36 3 = 5 from hf_36_3)) dX3_does_34 ?_
  refine lv_bipush (v := 24) hx hb dX3_does_37 (by decide) ?_
  refine lv_icmp_ge (tgt := 53) hx hb dX3_does_39 (by decide) (fun c => absurd c (by decide)) (fun c => ?_)
  refine lv_aload_n hx hb dX3_does_42 rfl (lv_at hl 2 rfl) ?_
  refine sg_get (ci := 3) (v := .ref (h 38)) (C := RX3) (T := TX3) (N := 6) hx hb hts (fun w h => List.mem_cons_of_mem _ (gx_3 w h)) hown hK hP 36 (by decide) rfl rfl 1 (by decide) (hts _ (List.mem_cons_of_mem _ mw_191)) (fun _ h9 => h9) rfl dX3_does_43 ?_
  refine lv_aload_n hx hb dX3_does_46 rfl (lv_at hl 2 rfl) ?_
  refine sg_get (ci := 3) (v := .int 5) (C := RX3) (T := TX3) (N := 6) hx hb hts (fun w h => List.mem_cons_of_mem _ (gx_3 w h)) hown hK hP 36 (by decide) rfl rfl 3 (by decide) (hts _ (List.mem_cons_of_mem _ mw_16)) (fun _ h9 => h9) (congrArg (fun z => some (Value.int z)) (show f 36 3 = 5 from hf_36_3)) dX3_does_47 ?_
  refine lv_iload hx hb dX3_does_50 (lv_at hl 0 rfl) ?_
  refine sg_iast hx hb hh hA hK hP hS 38 (by decide) 0 (fun _ => rfl) rfl (i := 5) (x := 11) (vp_in_iff.mpr (by decide)) dX3_does_52 (fun f_31 H locs ef_31 hP hS => ?_)
  have hI : sgI loX hiX f_31 := by rw [ef_31]; exact sgI.put hI 38 (Int32.toNatClampNeg 5) (show 0 ≤ (11 : Int32).toInt ∧ (11 : Int32).toInt ≤ 81 from by decide)
  have hF : sgK WkX3_does_1_2_2_f5_f4 f f_31 := sgK.put hF ef_31 (by rfl)
  exact blk_53 f_31 _ _ _ (by have zz36_3 : (f_31 36 3).toInt = 5 := (congrArg Int32.toInt (show f_31 36 3 = 5 from (by rw [ef_31, sg_up_n (by decide)]; exact hf_36_3))).trans (by decide); omega) (by have zz36_4 : (f_31 36 4).toInt = 4 := (congrArg Int32.toInt (show f_31 36 4 = 4 from (by rw [ef_31, sg_up_n (by decide)]; exact hf_36_4))).trans (by decide); omega) hI hF hP hS (lv_sub hl [2, 5, 6, 1, 0] rfl)

set_option maxHeartbeats 4000000 in
set_option maxRecDepth 100000 in
theorem kX3_runs_1_m1_4_f8_f4 (l : Launch) (D : va_G) (ca : Nat → ClassId) (za h : Nat → Nat) (hh : sgH 52 h) (f : sg_F) (L : sg_L) (Q : sg_Q) (hI : sgI loX hiX f) (x2 : Int32) (hf_36_3 : f 36 3 = 8) (hf_36_4 : f 36 4 = 4) (b2 : 2 ≤ x2.toInt ∧ x2.toInt ≤ 2) (p0 : 8 ≤ (f 36 3).toInt ∧ (f 36 3).toInt ≤ 8) (sz : Nat) : Met l yX3_runs gwX3_runs { frames := 0, cells := 0, slots := 0, locals := 0 } (sgP D vwCl (tyX ca) 52 h (eX ca h) zcX za f L Q sz [.ref (h 36), .int 1, .int (-1), .int x2, .int 4]) (sgQi D vwCl 52 h (eX ca h) sz (fun r f1 L1 Q1 => ((f1 = f ∧ L1 = L ∧ Q1 = Q) ∧ (2 ≤ r.toInt ∧ r.toInt ≤ 51) ∧ (8 ≤ (f1 36 3).toInt ∧ (f1 36 3).toInt ≤ 8)))) 0 0 (sgA 52 h sz) := by
  refine sg_ofWi (cc := cX3_runs) (maxL := 5) RX3 (by decide) rfl rfl (Nat.le_of_ble_eq_true rfl) ?_
  intro p e s m below meth cd Qz ls hx hb hml hown hts hK hZ hP hS hl hret
  have hA := sgY.self (n := 52) (h := h) (sz := s.heap.size)
  have hl : lv_has ls 5 [(0, .ref (h 36)), (1, .int 1), (2, .int (-1)), (3, .int x2), (4, .int 4)] := hl
  obtain ⟨H, hH⟩ : ∃ z : Heap, z = s.heap := ⟨_, rfl⟩
  obtain ⟨locs, hlo⟩ : ∃ z : List Loc, z = [] := ⟨_, rfl⟩
  have hP : va_P D vwCl (sgw 52 h (eX ca h) f L Q) H := by rw [hH]; exact hP
  have hS : va_S (sgA 52 h s.heap.size) s.heap H locs := by rw [hH, hlo]; exact hS
  suffices hgo : W p l e ({ frames := 0, cells := 0, slots := 0, locals := 0 }) s m ([.ref (h 36), .int 1, .int (-1), .int x2, .int 4] : List Value).toArray below meth cd H locs 0 0 Qz (F0 m 0 ls []) by rw [hH, hlo] at hgo; exact hgo
  clear hH hlo
  have o_1 : (f 36 3).toInt = 8 := (congrArg Int32.toInt (show f 36 3 = 8 from hf_36_3)).trans (by decide)
  refine lv_iload_n hx hb dX3_runs_0 rfl (lv_at hl 1 rfl) ?_
  refine lv_lookup (x := 1) (off := 115) (tgt := 116) hx hb dX3_runs_1 (by decide) (by decide) (by decide) ?_
  refine lv_iload_n hx hb dX3_runs_116 rfl (lv_at hl 3 rfl) ?_
  refine lv_aload_n hx hb dX3_runs_117 rfl (lv_at hl 0 rfl) ?_
  refine sg_get (ci := 3) (v := .int (f 36 5)) (C := RX3) (T := TX3) (N := 6) hx hb hts (fun w h => List.mem_cons_of_mem _ (gx_3 w h)) hown hK hP 36 (by decide) rfl rfl 5 (by decide) (hts _ (List.mem_cons_of_mem _ mw_106)) (fun _ h9 => h9) rfl dX3_runs_118 ?_
  refine lv_topi (fun v_2 ev_2 => ?_)
  have q_3 : 0 ≤ v_2.toInt ∧ v_2.toInt ≤ 49 := by rw [ev_2]; exact hI 36 5
  refine lv_iadd hx hb dX3_runs_121 ?_
  refine lv_topi (fun v_4 ev_4 => ?_)
  have q_5 : v_4.toInt = x2.toInt + v_2.toInt := by rw [ev_4]; exact (bn_addI (by omega) (by omega)).trans (by omega)
  have q_6 : (f 36 3).toInt = 8 := (congrArg Int32.toInt (show f 36 3 = 8 from hf_36_3)).trans (by decide)
  have q_7 : (f 36 3).toInt = 8 := (congrArg Int32.toInt (show f 36 3 = 8 from hf_36_3)).trans (by decide)
  exact hret _ _ _ _ (v_4) f L Q dX3_runs_122 hP hS ⟨⟨rfl, rfl, rfl⟩, (by omega), (by omega)⟩

abbrev WkX3_does_0_0_3_f7_f4 : List (Nat × Nat × Option Nat) := [(36, 36, some 3), (38, 38, none)]
set_option maxHeartbeats 4000000 in
set_option maxRecDepth 100000 in
theorem kX3_does_0_0_3_f7_f4 (l : Launch) (D : va_G) (ca : Nat → ClassId) (za h : Nat → Nat) (hh : sgH 52 h) (f : sg_F) (L : sg_L) (Q : sg_Q) (hI : sgI loX hiX f) (x2 : Int32) (hf_36_3 : f 36 3 = 7) (hf_36_4 : f 36 4 = 4) (b2 : 2 ≤ x2.toInt ∧ x2.toInt ≤ 2) (p0 : 7 ≤ (f 36 3).toInt ∧ (f 36 3).toInt ≤ 7) (sz : Nat) : Met l yX3_does gwX3_does { frames := 1, cells := 0, slots := 0, locals := 24 } (sgP D vwCl (tyX ca) 52 h (eX ca h) zcX za f L Q sz [.ref (h 36), .int 0, .int 0, .int x2, .int 3]) (sgQi D vwCl 52 h (eX ca h) sz (fun r f1 L1 Q1 => ((sgI loX hiX f1 ∧ sgK WkX3_does_0_0_3_f7_f4 f f1 ∧ L1 = L ∧ Q1 = Q) ∧ (2 ≤ r.toInt ∧ r.toInt ≤ 51) ∧ (8 ≤ (f1 36 3).toInt ∧ (f1 36 3).toInt ≤ 8)))) 0 0 (sgA 52 h sz) := by
  refine sg_ofWi (cc := cX3_does) (maxL := 7) RX3 (by decide) rfl rfl (Nat.le_of_ble_eq_true rfl) ?_
  intro p e s m below meth cd Qz ls hx hb hml hown hts hK hZ hP hS hl hret
  have hA := sgY.self (n := 52) (h := h) (sz := s.heap.size)
  have hl : lv_has ls 7 [(0, .ref (h 36)), (1, .int 0), (2, .int 0), (3, .int x2), (4, .int 3)] := hl
  obtain ⟨H, hH⟩ : ∃ z : Heap, z = s.heap := ⟨_, rfl⟩
  obtain ⟨locs, hlo⟩ : ∃ z : List Loc, z = [] := ⟨_, rfl⟩
  have hP : va_P D vwCl (sgw 52 h (eX ca h) f L Q) H := by rw [hH]; exact hP
  have hS : va_S (sgA 52 h s.heap.size) s.heap H locs := by rw [hH, hlo]; exact hS
  suffices hgo : W p l e ({ frames := 1, cells := 0, slots := 0, locals := 24 }) s m ([.ref (h 36), .int 0, .int 0, .int x2, .int 3] : List Value).toArray below meth cd H locs 0 0 Qz (F0 m 0 ls []) by rw [hH, hlo] at hgo; exact hgo
  clear hH hlo
  have o_1 : (f 36 3).toInt = 7 := (congrArg Int32.toInt (show f 36 3 = 7 from hf_36_3)).trans (by decide)
  have hF : sgK WkX3_does_0_0_3_f7_f4 f f := sgK.rf
  have blk_53 : ∀ (fp_53 : sg_F) (H : Heap) (locs : List Loc) (ls : Array Slot), 7 ≤ (fp_53 36 3).toInt ∧ (fp_53 36 3).toInt ≤ 7 → 4 ≤ (fp_53 36 4).toInt ∧ (fp_53 36 4).toInt ≤ 4 → sgI loX hiX fp_53 → sgK WkX3_does_0_0_3_f7_f4 f fp_53 → va_P D vwCl (sgw 52 h (eX ca h) fp_53 L Q) H → va_S (sgA 52 h s.heap.size) s.heap H locs → lv_has ls 7 [(0, .ref (h 36)), (3, .int x2), (4, .int 3), (5, .int 0), (6, .int 1)] → W p l e ({ frames := 1, cells := 0, slots := 0, locals := 24 }) s m ([.ref (h 36), .int 0, .int 0, .int x2, .int 3] : List Value).toArray below meth cd H locs 0 0 Qz (F0 m 53 ls []) := by
    intro fp_53 H locs ls hy0_53 hy1_53 hI hF hP hS hl
    obtain ⟨v_2, ev_2⟩ : ∃ z : Int32, z = fp_53 36 3 := ⟨_, rfl⟩
    have q_3 : 0 ≤ v_2.toInt ∧ v_2.toInt ≤ 19 := by rw [ev_2]; exact hI 36 3
    have q_4 : (fp_53 36 3).toInt = v_2.toInt := by rw [ev_2]
    obtain ⟨v_5, ev_5⟩ : ∃ z : Int32, z = fp_53 36 4 := ⟨_, rfl⟩
    have q_6 : 0 ≤ v_5.toInt ∧ v_5.toInt ≤ 7 := by rw [ev_5]; exact hI 36 4
    have q_7 : (fp_53 36 4).toInt = v_5.toInt := by rw [ev_5]
    have m_8 : fp_53 36 4 = 4 := (hF 36 4 (by decide)).trans hf_36_4
    refine lv_aload_n hx hb dX3_does_53 rfl (lv_at hl 0 rfl) ?_
    refine lv_dup hx hb dX3_does_54 rfl ?_
    refine sg_get (ci := 3) (v := .int v_2) (C := RX3) (T := TX3) (N := 6) hx hb hts (fun w h => List.mem_cons_of_mem _ (gx_3 w h)) hown hK hP 36 (by decide) rfl rfl 3 (by decide) (hts _ (List.mem_cons_of_mem _ mw_16)) (fun _ h9 => h9) (congrArg (fun z => some (Value.int z)) (show fp_53 36 3 = v_2 from ev_2.symm)) dX3_does_55 ?_
    refine lv_iconst (v := 1) hx hb dX3_does_58 (by decide) ?_
    refine lv_iadd hx hb dX3_does_59 ?_
    refine lv_topi (fun v_9 ev_9 => ?_)
    have q_10 : v_9.toInt = v_2.toInt + 1 := by rw [ev_9]; have k1 : (1 : Int32).toInt = 1 := (by decide); exact (bn_addI (by omega) (by omega)).trans (by omega)
    refine sg_put (ci := 3) (x := v_9) (ty := .int) (C := RX3) (T := TX3) (N := 6) hx hb hts (fun w h => List.mem_cons_of_mem _ (gx_3 w h)) tyX3 tyX3_ok nmX3 hown hh hA hK hP hS 36 (by decide) rfl rfl 3 (by decide) (hts _ (List.mem_cons_of_mem _ mw_16)) (fun _ h9 => h9) rfl rfl (by decide +kernel) rfl rfl (Nat.le_of_ble_eq_true rfl) dX3_does_60 (fun f_11 H locs ef_11 hP hS => ?_)
    have hI : sgI loX hiX f_11 := by rw [ef_11]; exact sgI.put hI 36 3 (show 0 ≤ (v_9 : Int32).toInt ∧ (v_9 : Int32).toInt ≤ 19 from by omega)
    have hF : sgK WkX3_does_0_0_3_f7_f4 f f_11 := sgK.put hF ef_11 (by rfl)
    refine lv_aload_n hx hb dX3_does_63 rfl (lv_at hl 0 rfl) ?_
    refine lv_iload hx hb dX3_does_64 (lv_at hl 4 rfl) ?_
    refine sg_gets hx hb hZ 2 rfl hS hown (hts _ (List.mem_cons_of_mem _ mw_174)) (fun _ h9 => h9) dX3_does_66 ?_
    refine lv_iload hx hb dX3_does_69 (lv_at hl 3 rfl) ?_
    refine sg_sald hx hb hZ 2 rfl hS (y := 0) (N := 8) (vp_in_iff.mpr (by decide)) dX3_does_71 ?_
    refine W.eq (g2 := F0 m 72 ls [.int (-1), .int 1, .ref (h 36)]) (by rfl) ?_
    refine lv_iload_n hx hb dX3_does_72 rfl (lv_at hl 1 rfl) ?_
    refine lv_iload hx hb dX3_does_73 (lv_at hl 2 rfl) ?_
    refine lv_iconst (v := 1) hx hb dX3_does_75 (by decide) ?_
    refine lv_iadd hx hb dX3_does_76 ?_
    refine W.eq (g2 := F0 m 77 ls [.int 4, .int x2, .int (-1), .int 1, .ref (h 36)]) (by rw [show (3 + 1 : Int32) = 4 from by decide]) ?_
    have c_12 : v_9 = 8 := Int32.toInt_inj.mp (by have k9 : (8 : Int32).toInt = 8 := (by decide); omega)
    have q_13 : (f_11 36 3).toInt = 8 := (congrArg Int32.toInt (show f_11 36 3 = 8 from (Eq.trans (by rw [ef_11, sg_up_s, sgu_s]) c_12))).trans (by decide)
    have q_14 : (f_11 36 3).toInt = 8 := (congrArg Int32.toInt (show f_11 36 3 = 8 from (Eq.trans (by rw [ef_11, sg_up_s, sgu_s]) c_12))).trans (by decide)
    refine sg_calli (va_runV (As := [.int 1, .int (-1), .int x2, .int 4]) (rest := []) ⟨hx, hb, hml, hown, hts⟩ (kX3_runs_1_m1_4_f8_f4 l D ca za h hh f_11 L Q hI x2 (Eq.trans (by rw [ef_11, sg_up_s, sgu_s]) c_12) (by rw [ef_11, sg_up_s, sgu_n (by decide)]; exact m_8) (by omega) (by have k0 : (1 : Int32).toInt = 1 := (by decide); have k1 : ((-1) : Int32).toInt = (-1) := (by decide); have k3 : (4 : Int32).toInt = 4 := (by decide); omega) H.size) (cwV 4 hts (gw_V (fun _ h => List.mem_cons_of_mem _ h) mw_311 mw_312 mw_313 mw_47 mw_310) rfl rfl rfl (by decide +kernel) ⟨Nat.le_of_ble_eq_true rfl, Nat.le_of_ble_eq_true rfl⟩) (sg_preV (ci := 3) (C := RX3) (T := TX3) (N := 6) hA hK hP hS hZ 36 (by decide) rfl rfl) rfl rfl hl.1 rfl (lv_room (Nat.le_of_ble_eq_true rfl)) dX3_does_77 ⟨Nat.le_refl _, Nat.le_refl _⟩) hA hS (fun r_18 f_15 L_16 Q_17 H locs hq hP hS => ?_)
    obtain ⟨⟨ef9, eL9, eQ9⟩, hq, p_19⟩ := hq
    rw [ef9, eL9, eQ9] at hP; clear ef9 eL9 eQ9
    have q_20 : (f_11 36 3).toInt = 8 := (congrArg Int32.toInt (show f_11 36 3 = 8 from (Eq.trans (by rw [ef_11, sg_up_s, sgu_s]) c_12))).trans (by decide)
    have q_21 : (f_11 36 3).toInt = 8 := (congrArg Int32.toInt (show f_11 36 3 = 8 from (Eq.trans (by rw [ef_11, sg_up_s, sgu_s]) c_12))).trans (by decide)
    have k_22 : (1 : Int32).toInt = 1 := by decide
    have k_23 : ((-1) : Int32).toInt = (-1) := by decide
    have k_24 : (4 : Int32).toInt = 4 := by decide
    have q_25 : (f_11 36 3).toInt = 8 := (congrArg Int32.toInt (show f_11 36 3 = 8 from (Eq.trans (by rw [ef_11, sg_up_s, sgu_s]) c_12))).trans (by decide)
    have q_26 : (f_11 36 3).toInt = 8 := (congrArg Int32.toInt (show f_11 36 3 = 8 from (Eq.trans (by rw [ef_11, sg_up_s, sgu_s]) c_12))).trans (by decide)
    exact hret _ _ _ _ (r_18) f_11 L Q dX3_does_80 hP hS ⟨⟨hI, hF, rfl, rfl⟩, (by omega), (by omega)⟩
  refine lv_iload_n hx hb dX3_does_0 rfl (lv_at hl 1 rfl) ?_
  refine lv_iload_n hx hb dX3_does_1 rfl (lv_at hl 2 rfl) ?_
  refine sg_calli (va_runS (As := [.int 0, .int 0]) (rest := []) ⟨hx, hb, hml, hown, hts⟩ (kX3_ownerOf_0_0 l D ca za h hh f L Q hI H.size) (va_cwS 2 hts (gw_S (fun _ h => List.mem_cons_of_mem _ h) mw_189 mw_190 mw_47 mw_188) rfl rfl rfl (by decide +kernel) ⟨Nat.le_of_ble_eq_true rfl, Nat.le_of_ble_eq_true rfl⟩) (sg_preS hA hK hP hS hZ) rfl rfl hl.1 rfl (lv_room (Nat.le_of_ble_eq_true rfl)) dX3_does_2 ⟨Nat.le_refl _, Nat.le_refl _⟩) hA hS (fun r_30 f_27 L_28 Q_29 H locs hq hP hS => ?_)
  obtain ⟨⟨ef9, eL9, eQ9⟩, hq⟩ := hq
  rw [ef9, eL9, eQ9] at hP; clear ef9 eL9 eQ9
  obtain rfl : r_30 = 0 := Int32.toInt_inj.mp (by have k9 : (0 : Int32).toInt = 0 := (by decide); omega)
  refine lv_istore (lv' := [(5, .int 0), (0, .ref (h 36)), (1, .int 0), (2, .int 0), (3, .int x2), (4, .int 3)]) hx hb dX3_does_5 hl (by decide) rfl (fun ls hl => ?_)
  refine lv_iload hx hb dX3_does_7 (lv_at hl 0 rfl) ?_
  refine lv_if_lt (tgt := 19) hx hb dX3_does_9 (by decide) (fun c => absurd c (by decide)) (fun c => ?_)
  refine lv_iload hx hb dX3_does_12 (lv_at hl 5 rfl) ?_
  refine lv_bipush (v := 40) hx hb dX3_does_14 (by decide) ?_
  refine lv_icmp_le (tgt := 21) hx hb dX3_does_16 (by decide) (fun c => ?_) (fun c => absurd c (by decide))
  refine sg_gets hx hb hZ 3 rfl hS hown (hts _ (List.mem_cons_of_mem _ mw_173)) (fun _ h9 => h9) dX3_does_21 ?_
  refine lv_iload hx hb dX3_does_24 (lv_at hl 0 rfl) ?_
  refine lv_iconst (v := 4) hx hb dX3_does_26 (by decide) ?_
  refine lv_imul hx hb dX3_does_27 ?_
  refine W.eq (g2 := F0 m 28 ls [.int 0, .ref (za 3)]) (by rw [show (0 * 4 : Int32) = 0 from by decide]) ?_
  refine lv_iload_n hx hb dX3_does_28 rfl (lv_at hl 3 rfl) ?_
  refine lv_iadd hx hb dX3_does_29 ?_
  refine W.eq (g2 := F0 m 30 ls [.int 0, .ref (za 3)]) (by rw [show (0 + 0 : Int32) = 0 from by decide]) ?_
  refine sg_sald hx hb hZ 3 rfl hS (y := 0) (N := 32) (vp_in_iff.mpr (by decide)) dX3_does_30 ?_
  refine W.eq (g2 := F0 m 31 ls [.int 1]) (by rfl) ?_
  refine lv_istore (lv' := [(6, .int 1), (5, .int 0), (0, .ref (h 36)), (1, .int 0), (2, .int 0), (3, .int x2), (4, .int 3)]) hx hb dX3_does_31 hl (by decide) rfl (fun ls hl => ?_)
  refine lv_aload_n hx hb dX3_does_33 rfl (lv_at hl 2 rfl) ?_
  refine sg_get (ci := 3) (v := .int 7) (C := RX3) (T := TX3) (N := 6) hx hb hts (fun w h => List.mem_cons_of_mem _ (gx_3 w h)) hown hK hP 36 (by decide) rfl rfl 3 (by decide) (hts _ (List.mem_cons_of_mem _ mw_16)) (fun _ h9 => h9) (congrArg (fun z => some (Value.int z)) (show f 36 3 = 7 from hf_36_3)) dX3_does_34 ?_
  refine lv_bipush (v := 24) hx hb dX3_does_37 (by decide) ?_
  refine lv_icmp_ge (tgt := 53) hx hb dX3_does_39 (by decide) (fun c => absurd c (by decide)) (fun c => ?_)
  refine lv_aload_n hx hb dX3_does_42 rfl (lv_at hl 2 rfl) ?_
  refine sg_get (ci := 3) (v := .ref (h 38)) (C := RX3) (T := TX3) (N := 6) hx hb hts (fun w h => List.mem_cons_of_mem _ (gx_3 w h)) hown hK hP 36 (by decide) rfl rfl 1 (by decide) (hts _ (List.mem_cons_of_mem _ mw_191)) (fun _ h9 => h9) rfl dX3_does_43 ?_
  refine lv_aload_n hx hb dX3_does_46 rfl (lv_at hl 2 rfl) ?_
  refine sg_get (ci := 3) (v := .int 7) (C := RX3) (T := TX3) (N := 6) hx hb hts (fun w h => List.mem_cons_of_mem _ (gx_3 w h)) hown hK hP 36 (by decide) rfl rfl 3 (by decide) (hts _ (List.mem_cons_of_mem _ mw_16)) (fun _ h9 => h9) (congrArg (fun z => some (Value.int z)) (show f 36 3 = 7 from hf_36_3)) dX3_does_47 ?_
  refine lv_iload hx hb dX3_does_50 (lv_at hl 0 rfl) ?_
  refine sg_iast hx hb hh hA hK hP hS 38 (by decide) 0 (fun _ => rfl) rfl (i := 7) (x := 1) (vp_in_iff.mpr (by decide)) dX3_does_52 (fun f_31 H locs ef_31 hP hS => ?_)
  have hI : sgI loX hiX f_31 := by rw [ef_31]; exact sgI.put hI 38 (Int32.toNatClampNeg 7) (show 0 ≤ (1 : Int32).toInt ∧ (1 : Int32).toInt ≤ 81 from by decide)
  have hF : sgK WkX3_does_0_0_3_f7_f4 f f_31 := sgK.put hF ef_31 (by rfl)
  exact blk_53 f_31 _ _ _ (by have zz36_3 : (f_31 36 3).toInt = 7 := (congrArg Int32.toInt (show f_31 36 3 = 7 from (by rw [ef_31, sg_up_n (by decide)]; exact hf_36_3))).trans (by decide); omega) (by have zz36_4 : (f_31 36 4).toInt = 4 := (congrArg Int32.toInt (show f_31 36 4 = 4 from (by rw [ef_31, sg_up_n (by decide)]; exact hf_36_4))).trans (by decide); omega) hI hF hP hS (lv_sub hl [2, 5, 6, 1, 0] rfl)

abbrev WkX3_runs_20_0_3_f7_f4 : List (Nat × Nat × Option Nat) := [(36, 36, some 3), (38, 38, none)]
set_option maxHeartbeats 4000000 in
set_option maxRecDepth 100000 in
theorem kX3_runs_20_0_3_f7_f4 (l : Launch) (D : va_G) (ca : Nat → ClassId) (za h : Nat → Nat) (hh : sgH 52 h) (f : sg_F) (L : sg_L) (Q : sg_Q) (hI : sgI loX hiX f) (x2 : Int32) (hf_36_3 : f 36 3 = 7) (hf_36_4 : f 36 4 = 4) (b2 : 2 ≤ x2.toInt ∧ x2.toInt ≤ 2) (p0 : 7 ≤ (f 36 3).toInt ∧ (f 36 3).toInt ≤ 7) (sz : Nat) : Met l yX3_runs gwX3_runs { frames := 2, cells := 0, slots := 0, locals := 50 } (sgP D vwCl (tyX ca) 52 h (eX ca h) zcX za f L Q sz [.ref (h 36), .int 20, .int 0, .int x2, .int 3]) (sgQi D vwCl 52 h (eX ca h) sz (fun r f1 L1 Q1 => ((sgI loX hiX f1 ∧ sgK WkX3_runs_20_0_3_f7_f4 f f1 ∧ L1 = L ∧ Q1 = Q) ∧ (5 ≤ r.toInt ∧ r.toInt ≤ 54) ∧ (8 ≤ (f1 36 3).toInt ∧ (f1 36 3).toInt ≤ 8)))) 0 0 (sgA 52 h sz) := by
  refine sg_ofWi (cc := cX3_runs) (maxL := 5) RX3 (by decide) rfl rfl (Nat.le_of_ble_eq_true rfl) ?_
  intro p e s m below meth cd Qz ls hx hb hml hown hts hK hZ hP hS hl hret
  have hA := sgY.self (n := 52) (h := h) (sz := s.heap.size)
  have hl : lv_has ls 5 [(0, .ref (h 36)), (1, .int 20), (2, .int 0), (3, .int x2), (4, .int 3)] := hl
  obtain ⟨H, hH⟩ : ∃ z : Heap, z = s.heap := ⟨_, rfl⟩
  obtain ⟨locs, hlo⟩ : ∃ z : List Loc, z = [] := ⟨_, rfl⟩
  have hP : va_P D vwCl (sgw 52 h (eX ca h) f L Q) H := by rw [hH]; exact hP
  have hS : va_S (sgA 52 h s.heap.size) s.heap H locs := by rw [hH, hlo]; exact hS
  suffices hgo : W p l e ({ frames := 2, cells := 0, slots := 0, locals := 50 }) s m ([.ref (h 36), .int 20, .int 0, .int x2, .int 3] : List Value).toArray below meth cd H locs 0 0 Qz (F0 m 0 ls []) by rw [hH, hlo] at hgo; exact hgo
  clear hH hlo
  have o_1 : (f 36 3).toInt = 7 := (congrArg Int32.toInt (show f 36 3 = 7 from hf_36_3)).trans (by decide)
  have hF : sgK WkX3_runs_20_0_3_f7_f4 f f := sgK.rf
  refine lv_iload_n hx hb dX3_runs_0 rfl (lv_at hl 1 rfl) ?_
  refine lv_lookup (x := 20) (off := 170) (tgt := 171) hx hb dX3_runs_1 (by decide) (by decide) (by decide) ?_
  refine lv_aload_n hx hb dX3_runs_171 rfl (lv_at hl 0 rfl) ?_
  refine lv_iload_n hx hb dX3_runs_172 rfl (lv_at hl 2 rfl) ?_
  refine lv_iconst (v := 0) hx hb dX3_runs_173 (by decide) ?_
  refine lv_iload_n hx hb dX3_runs_174 rfl (lv_at hl 3 rfl) ?_
  refine lv_iload hx hb dX3_runs_175 (lv_at hl 4 rfl) ?_
  have q_2 : (f 36 3).toInt = 7 := (congrArg Int32.toInt (show f 36 3 = 7 from hf_36_3)).trans (by decide)
  have q_3 : (f 36 3).toInt = 7 := (congrArg Int32.toInt (show f 36 3 = 7 from hf_36_3)).trans (by decide)
  refine sg_calli (va_runV (As := [.int 0, .int 0, .int x2, .int 3]) (rest := []) ⟨hx, hb, hml, hown, hts⟩ (kX3_does_0_0_3_f7_f4 l D ca za h hh f L Q hI x2 hf_36_3 hf_36_4 (by omega) (by have k0 : (0 : Int32).toInt = 0 := (by decide); have k1 : (0 : Int32).toInt = 0 := (by decide); have k3 : (3 : Int32).toInt = 3 := (by decide); omega) H.size) (cwV 4 hts (gw_V (fun _ h => List.mem_cons_of_mem _ h) mw_318 mw_319 mw_320 mw_47 mw_317) rfl rfl rfl (by decide +kernel) ⟨Nat.le_of_ble_eq_true rfl, Nat.le_of_ble_eq_true rfl⟩) (sg_preV (ci := 3) (C := RX3) (T := TX3) (N := 6) hA hK hP hS hZ 36 (by decide) rfl rfl) rfl rfl hl.1 rfl (lv_room (Nat.le_of_ble_eq_true rfl)) dX3_runs_177 ⟨Nat.le_refl _, Nat.le_refl _⟩) hA hS (fun r_7 f_4 L_5 Q_6 H locs hq hP hS => ?_)
  obtain ⟨⟨hI, hk_f_4, eL9, eQ9⟩, hq, p_8⟩ := hq
  rw [eL9, eQ9] at hP; clear eL9 eQ9
  have hF : sgK WkX3_runs_20_0_3_f7_f4 f f_4 := sgK.tr hF hk_f_4 (by decide)
  obtain ⟨v_9, ev_9⟩ : ∃ z : Int32, z = f_4 36 3 := ⟨_, rfl⟩
  have q_10 : 0 ≤ v_9.toInt ∧ v_9.toInt ≤ 19 := by rw [ev_9]; exact hI 36 3
  have q_11 : (f_4 36 3).toInt = v_9.toInt := (congrArg Int32.toInt (show f_4 36 3 = v_9 from ev_9.symm))
  have q_12 : (f_4 36 3).toInt = v_9.toInt := (congrArg Int32.toInt (show f_4 36 3 = v_9 from ev_9.symm))
  have k_13 : (0 : Int32).toInt = 0 := by decide
  have k_14 : (0 : Int32).toInt = 0 := by decide
  have k_15 : (3 : Int32).toInt = 3 := by decide
  refine lv_iconst (v := 3) hx hb dX3_runs_180 (by decide) ?_
  refine lv_iadd hx hb dX3_runs_181 ?_
  refine lv_topi (fun v_16 ev_16 => ?_)
  have q_17 : v_16.toInt = r_7.toInt + 3 := by rw [ev_16]; have k1 : (3 : Int32).toInt = 3 := (by decide); exact (bn_addI (by omega) (by omega)).trans (by omega)
  have q_18 : (f_4 36 3).toInt = v_9.toInt := (congrArg Int32.toInt (show f_4 36 3 = v_9 from ev_9.symm))
  have q_19 : (f_4 36 3).toInt = v_9.toInt := (congrArg Int32.toInt (show f_4 36 3 = v_9 from ev_9.symm))
  exact hret _ _ _ _ (v_16) f_4 L Q dX3_runs_182 hP hS ⟨⟨hI, hF, rfl, rfl⟩, (by omega), (by omega)⟩

abbrev WkX3_does_4_0_2_f6_f4 : List (Nat × Nat × Option Nat) := [(36, 36, some 3), (38, 38, none)]
set_option maxHeartbeats 4000000 in
set_option maxRecDepth 100000 in
theorem kX3_does_4_0_2_f6_f4 (l : Launch) (D : va_G) (ca : Nat → ClassId) (za h : Nat → Nat) (hh : sgH 52 h) (f : sg_F) (L : sg_L) (Q : sg_Q) (hI : sgI loX hiX f) (x2 : Int32) (hf_36_3 : f 36 3 = 6) (hf_36_4 : f 36 4 = 4) (b2 : 2 ≤ x2.toInt ∧ x2.toInt ≤ 2) (p0 : 6 ≤ (f 36 3).toInt ∧ (f 36 3).toInt ≤ 6) (sz : Nat) : Met l yX3_does gwX3_does { frames := 3, cells := 0, slots := 0, locals := 74 } (sgP D vwCl (tyX ca) 52 h (eX ca h) zcX za f L Q sz [.ref (h 36), .int 4, .int 0, .int x2, .int 2]) (sgQi D vwCl 52 h (eX ca h) sz (fun r f1 L1 Q1 => ((sgI loX hiX f1 ∧ sgK WkX3_does_4_0_2_f6_f4 f f1 ∧ L1 = L ∧ Q1 = Q) ∧ (5 ≤ r.toInt ∧ r.toInt ≤ 54) ∧ (8 ≤ (f1 36 3).toInt ∧ (f1 36 3).toInt ≤ 8)))) 0 0 (sgA 52 h sz) := by
  refine sg_ofWi (cc := cX3_does) (maxL := 7) RX3 (by decide) rfl rfl (Nat.le_of_ble_eq_true rfl) ?_
  intro p e s m below meth cd Qz ls hx hb hml hown hts hK hZ hP hS hl hret
  have hA := sgY.self (n := 52) (h := h) (sz := s.heap.size)
  have hl : lv_has ls 7 [(0, .ref (h 36)), (1, .int 4), (2, .int 0), (3, .int x2), (4, .int 2)] := hl
  obtain ⟨H, hH⟩ : ∃ z : Heap, z = s.heap := ⟨_, rfl⟩
  obtain ⟨locs, hlo⟩ : ∃ z : List Loc, z = [] := ⟨_, rfl⟩
  have hP : va_P D vwCl (sgw 52 h (eX ca h) f L Q) H := by rw [hH]; exact hP
  have hS : va_S (sgA 52 h s.heap.size) s.heap H locs := by rw [hH, hlo]; exact hS
  suffices hgo : W p l e ({ frames := 3, cells := 0, slots := 0, locals := 74 }) s m ([.ref (h 36), .int 4, .int 0, .int x2, .int 2] : List Value).toArray below meth cd H locs 0 0 Qz (F0 m 0 ls []) by rw [hH, hlo] at hgo; exact hgo
  clear hH hlo
  have o_1 : (f 36 3).toInt = 6 := (congrArg Int32.toInt (show f 36 3 = 6 from hf_36_3)).trans (by decide)
  have hF : sgK WkX3_does_4_0_2_f6_f4 f f := sgK.rf
  have blk_53 : ∀ (fp_53 : sg_F) (H : Heap) (locs : List Loc) (ls : Array Slot), 6 ≤ (fp_53 36 3).toInt ∧ (fp_53 36 3).toInt ≤ 6 → 4 ≤ (fp_53 36 4).toInt ∧ (fp_53 36 4).toInt ≤ 4 → sgI loX hiX fp_53 → sgK WkX3_does_4_0_2_f6_f4 f fp_53 → va_P D vwCl (sgw 52 h (eX ca h) fp_53 L Q) H → va_S (sgA 52 h s.heap.size) s.heap H locs → lv_has ls 7 [(0, .ref (h 36)), (3, .int x2), (4, .int 2), (5, .int 1), (6, .int 20)] → W p l e ({ frames := 3, cells := 0, slots := 0, locals := 74 }) s m ([.ref (h 36), .int 4, .int 0, .int x2, .int 2] : List Value).toArray below meth cd H locs 0 0 Qz (F0 m 53 ls []) := by
    intro fp_53 H locs ls hy0_53 hy1_53 hI hF hP hS hl
    obtain ⟨v_2, ev_2⟩ : ∃ z : Int32, z = fp_53 36 3 := ⟨_, rfl⟩
    have q_3 : 0 ≤ v_2.toInt ∧ v_2.toInt ≤ 19 := by rw [ev_2]; exact hI 36 3
    have q_4 : (fp_53 36 3).toInt = v_2.toInt := by rw [ev_2]
    obtain ⟨v_5, ev_5⟩ : ∃ z : Int32, z = fp_53 36 4 := ⟨_, rfl⟩
    have q_6 : 0 ≤ v_5.toInt ∧ v_5.toInt ≤ 7 := by rw [ev_5]; exact hI 36 4
    have q_7 : (fp_53 36 4).toInt = v_5.toInt := by rw [ev_5]
    have m_8 : fp_53 36 4 = 4 := (hF 36 4 (by decide)).trans hf_36_4
    refine lv_aload_n hx hb dX3_does_53 rfl (lv_at hl 0 rfl) ?_
    refine lv_dup hx hb dX3_does_54 rfl ?_
    refine sg_get (ci := 3) (v := .int v_2) (C := RX3) (T := TX3) (N := 6) hx hb hts (fun w h => List.mem_cons_of_mem _ (gx_3 w h)) hown hK hP 36 (by decide) rfl rfl 3 (by decide) (hts _ (List.mem_cons_of_mem _ mw_16)) (fun _ h9 => h9) (congrArg (fun z => some (Value.int z)) (show fp_53 36 3 = v_2 from ev_2.symm)) dX3_does_55 ?_
    refine lv_iconst (v := 1) hx hb dX3_does_58 (by decide) ?_
    refine lv_iadd hx hb dX3_does_59 ?_
    refine lv_topi (fun v_9 ev_9 => ?_)
    have q_10 : v_9.toInt = v_2.toInt + 1 := by rw [ev_9]; have k1 : (1 : Int32).toInt = 1 := (by decide); exact (bn_addI (by omega) (by omega)).trans (by omega)
    refine sg_put (ci := 3) (x := v_9) (ty := .int) (C := RX3) (T := TX3) (N := 6) hx hb hts (fun w h => List.mem_cons_of_mem _ (gx_3 w h)) tyX3 tyX3_ok nmX3 hown hh hA hK hP hS 36 (by decide) rfl rfl 3 (by decide) (hts _ (List.mem_cons_of_mem _ mw_16)) (fun _ h9 => h9) rfl rfl (by decide +kernel) rfl rfl (Nat.le_of_ble_eq_true rfl) dX3_does_60 (fun f_11 H locs ef_11 hP hS => ?_)
    have hI : sgI loX hiX f_11 := by rw [ef_11]; exact sgI.put hI 36 3 (show 0 ≤ (v_9 : Int32).toInt ∧ (v_9 : Int32).toInt ≤ 19 from by omega)
    have hF : sgK WkX3_does_4_0_2_f6_f4 f f_11 := sgK.put hF ef_11 (by rfl)
    refine lv_aload_n hx hb dX3_does_63 rfl (lv_at hl 0 rfl) ?_
    refine lv_iload hx hb dX3_does_64 (lv_at hl 4 rfl) ?_
    refine sg_gets hx hb hZ 2 rfl hS hown (hts _ (List.mem_cons_of_mem _ mw_174)) (fun _ h9 => h9) dX3_does_66 ?_
    refine lv_iload hx hb dX3_does_69 (lv_at hl 3 rfl) ?_
    refine sg_sald hx hb hZ 2 rfl hS (y := 1) (N := 8) (vp_in_iff.mpr (by decide)) dX3_does_71 ?_
    refine W.eq (g2 := F0 m 72 ls [.int 0, .int 20, .ref (h 36)]) (by rfl) ?_
    refine lv_iload_n hx hb dX3_does_72 rfl (lv_at hl 1 rfl) ?_
    refine lv_iload hx hb dX3_does_73 (lv_at hl 2 rfl) ?_
    refine lv_iconst (v := 1) hx hb dX3_does_75 (by decide) ?_
    refine lv_iadd hx hb dX3_does_76 ?_
    refine W.eq (g2 := F0 m 77 ls [.int 3, .int x2, .int 0, .int 20, .ref (h 36)]) (by rw [show (2 + 1 : Int32) = 3 from by decide]) ?_
    have c_12 : v_9 = 7 := Int32.toInt_inj.mp (by have k9 : (7 : Int32).toInt = 7 := (by decide); omega)
    have q_13 : (f_11 36 3).toInt = 7 := (congrArg Int32.toInt (show f_11 36 3 = 7 from (Eq.trans (by rw [ef_11, sg_up_s, sgu_s]) c_12))).trans (by decide)
    have q_14 : (f_11 36 3).toInt = 7 := (congrArg Int32.toInt (show f_11 36 3 = 7 from (Eq.trans (by rw [ef_11, sg_up_s, sgu_s]) c_12))).trans (by decide)
    refine sg_calli (va_runV (As := [.int 20, .int 0, .int x2, .int 3]) (rest := []) ⟨hx, hb, hml, hown, hts⟩ (kX3_runs_20_0_3_f7_f4 l D ca za h hh f_11 L Q hI x2 (Eq.trans (by rw [ef_11, sg_up_s, sgu_s]) c_12) (by rw [ef_11, sg_up_s, sgu_n (by decide)]; exact m_8) (by omega) (by have k0 : (20 : Int32).toInt = 20 := (by decide); have k1 : (0 : Int32).toInt = 0 := (by decide); have k3 : (3 : Int32).toInt = 3 := (by decide); omega) H.size) (cwV 4 hts (gw_V (fun _ h => List.mem_cons_of_mem _ h) mw_311 mw_312 mw_313 mw_47 mw_310) rfl rfl rfl (by decide +kernel) ⟨Nat.le_of_ble_eq_true rfl, Nat.le_of_ble_eq_true rfl⟩) (sg_preV (ci := 3) (C := RX3) (T := TX3) (N := 6) hA hK hP hS hZ 36 (by decide) rfl rfl) rfl rfl hl.1 rfl (lv_room (Nat.le_of_ble_eq_true rfl)) dX3_does_77 ⟨Nat.le_refl _, Nat.le_refl _⟩) hA hS (fun r_18 f_15 L_16 Q_17 H locs hq hP hS => ?_)
    obtain ⟨⟨hI, hk_f_15, eL9, eQ9⟩, hq, p_19⟩ := hq
    rw [eL9, eQ9] at hP; clear eL9 eQ9
    have hF : sgK WkX3_does_4_0_2_f6_f4 f f_15 := sgK.tr hF hk_f_15 (by decide)
    obtain ⟨v_20, ev_20⟩ : ∃ z : Int32, z = f_15 36 3 := ⟨_, rfl⟩
    have q_21 : 0 ≤ v_20.toInt ∧ v_20.toInt ≤ 19 := by rw [ev_20]; exact hI 36 3
    have q_22 : (f_15 36 3).toInt = v_20.toInt := (congrArg Int32.toInt (show f_15 36 3 = v_20 from ev_20.symm))
    have q_23 : (f_15 36 3).toInt = v_20.toInt := (congrArg Int32.toInt (show f_15 36 3 = v_20 from ev_20.symm))
    have k_24 : (20 : Int32).toInt = 20 := by decide
    have k_25 : (0 : Int32).toInt = 0 := by decide
    have k_26 : (3 : Int32).toInt = 3 := by decide
    have q_27 : (f_15 36 3).toInt = v_20.toInt := (congrArg Int32.toInt (show f_15 36 3 = v_20 from ev_20.symm))
    have q_28 : (f_15 36 3).toInt = v_20.toInt := (congrArg Int32.toInt (show f_15 36 3 = v_20 from ev_20.symm))
    exact hret _ _ _ _ (r_18) f_15 L Q dX3_does_80 hP hS ⟨⟨hI, hF, rfl, rfl⟩, (by omega), (by omega)⟩
  refine lv_iload_n hx hb dX3_does_0 rfl (lv_at hl 1 rfl) ?_
  refine lv_iload_n hx hb dX3_does_1 rfl (lv_at hl 2 rfl) ?_
  refine sg_calli (va_runS (As := [.int 4, .int 0]) (rest := []) ⟨hx, hb, hml, hown, hts⟩ (kX3_ownerOf_4_0 l D ca za h hh f L Q hI H.size) (va_cwS 2 hts (gw_S (fun _ h => List.mem_cons_of_mem _ h) mw_189 mw_190 mw_47 mw_188) rfl rfl rfl (by decide +kernel) ⟨Nat.le_of_ble_eq_true rfl, Nat.le_of_ble_eq_true rfl⟩) (sg_preS hA hK hP hS hZ) rfl rfl hl.1 rfl (lv_room (Nat.le_of_ble_eq_true rfl)) dX3_does_2 ⟨Nat.le_refl _, Nat.le_refl _⟩) hA hS (fun r_32 f_29 L_30 Q_31 H locs hq hP hS => ?_)
  obtain ⟨⟨ef9, eL9, eQ9⟩, hq⟩ := hq
  rw [ef9, eL9, eQ9] at hP; clear ef9 eL9 eQ9
  obtain rfl : r_32 = 1 := Int32.toInt_inj.mp (by have k9 : (1 : Int32).toInt = 1 := (by decide); omega)
  refine lv_istore (lv' := [(5, .int 1), (0, .ref (h 36)), (1, .int 4), (2, .int 0), (3, .int x2), (4, .int 2)]) hx hb dX3_does_5 hl (by decide) rfl (fun ls hl => ?_)
  refine lv_iload hx hb dX3_does_7 (lv_at hl 0 rfl) ?_
  refine lv_if_lt (tgt := 19) hx hb dX3_does_9 (by decide) (fun c => absurd c (by decide)) (fun c => ?_)
  refine lv_iload hx hb dX3_does_12 (lv_at hl 5 rfl) ?_
  refine lv_bipush (v := 40) hx hb dX3_does_14 (by decide) ?_
  refine lv_icmp_le (tgt := 21) hx hb dX3_does_16 (by decide) (fun c => ?_) (fun c => absurd c (by decide))
  refine sg_gets hx hb hZ 3 rfl hS hown (hts _ (List.mem_cons_of_mem _ mw_173)) (fun _ h9 => h9) dX3_does_21 ?_
  refine lv_iload hx hb dX3_does_24 (lv_at hl 0 rfl) ?_
  refine lv_iconst (v := 4) hx hb dX3_does_26 (by decide) ?_
  refine lv_imul hx hb dX3_does_27 ?_
  refine W.eq (g2 := F0 m 28 ls [.int 4, .ref (za 3)]) (by rw [show (1 * 4 : Int32) = 4 from by decide]) ?_
  refine lv_iload_n hx hb dX3_does_28 rfl (lv_at hl 3 rfl) ?_
  refine lv_iadd hx hb dX3_does_29 ?_
  refine W.eq (g2 := F0 m 30 ls [.int 4, .ref (za 3)]) (by rw [show (4 + 0 : Int32) = 4 from by decide]) ?_
  refine sg_sald hx hb hZ 3 rfl hS (y := 4) (N := 32) (vp_in_iff.mpr (by decide)) dX3_does_30 ?_
  refine W.eq (g2 := F0 m 31 ls [.int 20]) (by rfl) ?_
  refine lv_istore (lv' := [(6, .int 20), (5, .int 1), (0, .ref (h 36)), (1, .int 4), (2, .int 0), (3, .int x2), (4, .int 2)]) hx hb dX3_does_31 hl (by decide) rfl (fun ls hl => ?_)
  refine lv_aload_n hx hb dX3_does_33 rfl (lv_at hl 2 rfl) ?_
  refine sg_get (ci := 3) (v := .int 6) (C := RX3) (T := TX3) (N := 6) hx hb hts (fun w h => List.mem_cons_of_mem _ (gx_3 w h)) hown hK hP 36 (by decide) rfl rfl 3 (by decide) (hts _ (List.mem_cons_of_mem _ mw_16)) (fun _ h9 => h9) (congrArg (fun z => some (Value.int z)) (show f 36 3 = 6 from hf_36_3)) dX3_does_34 ?_
  refine lv_bipush (v := 24) hx hb dX3_does_37 (by decide) ?_
  refine lv_icmp_ge (tgt := 53) hx hb dX3_does_39 (by decide) (fun c => absurd c (by decide)) (fun c => ?_)
  refine lv_aload_n hx hb dX3_does_42 rfl (lv_at hl 2 rfl) ?_
  refine sg_get (ci := 3) (v := .ref (h 38)) (C := RX3) (T := TX3) (N := 6) hx hb hts (fun w h => List.mem_cons_of_mem _ (gx_3 w h)) hown hK hP 36 (by decide) rfl rfl 1 (by decide) (hts _ (List.mem_cons_of_mem _ mw_191)) (fun _ h9 => h9) rfl dX3_does_43 ?_
  refine lv_aload_n hx hb dX3_does_46 rfl (lv_at hl 2 rfl) ?_
  refine sg_get (ci := 3) (v := .int 6) (C := RX3) (T := TX3) (N := 6) hx hb hts (fun w h => List.mem_cons_of_mem _ (gx_3 w h)) hown hK hP 36 (by decide) rfl rfl 3 (by decide) (hts _ (List.mem_cons_of_mem _ mw_16)) (fun _ h9 => h9) (congrArg (fun z => some (Value.int z)) (show f 36 3 = 6 from hf_36_3)) dX3_does_47 ?_
  refine lv_iload hx hb dX3_does_50 (lv_at hl 0 rfl) ?_
  refine sg_iast hx hb hh hA hK hP hS 38 (by decide) 0 (fun _ => rfl) rfl (i := 6) (x := 20) (vp_in_iff.mpr (by decide)) dX3_does_52 (fun f_33 H locs ef_33 hP hS => ?_)
  have hI : sgI loX hiX f_33 := by rw [ef_33]; exact sgI.put hI 38 (Int32.toNatClampNeg 6) (show 0 ≤ (20 : Int32).toInt ∧ (20 : Int32).toInt ≤ 81 from by decide)
  have hF : sgK WkX3_does_4_0_2_f6_f4 f f_33 := sgK.put hF ef_33 (by rfl)
  exact blk_53 f_33 _ _ _ (by have zz36_3 : (f_33 36 3).toInt = 6 := (congrArg Int32.toInt (show f_33 36 3 = 6 from (by rw [ef_33, sg_up_n (by decide)]; exact hf_36_3))).trans (by decide); omega) (by have zz36_4 : (f_33 36 4).toInt = 4 := (congrArg Int32.toInt (show f_33 36 4 = 4 from (by rw [ef_33, sg_up_n (by decide)]; exact hf_36_4))).trans (by decide); omega) hI hF hP hS (lv_sub hl [2, 5, 6, 1, 0] rfl)

abbrev WkX3_runs_50_1_2_f5_f4 : List (Nat × Nat × Option Nat) := [(36, 36, some 3), (38, 38, none)]
set_option maxHeartbeats 4000000 in
set_option maxRecDepth 100000 in
theorem kX3_runs_50_1_2_f5_f4 (l : Launch) (D : va_G) (ca : Nat → ClassId) (za h : Nat → Nat) (hh : sgH 52 h) (f : sg_F) (L : sg_L) (Q : sg_Q) (hI : sgI loX hiX f) (x2 : Int32) (hf_36_3 : f 36 3 = 5) (hf_36_4 : f 36 4 = 4) (b2 : 1 ≤ x2.toInt ∧ x2.toInt ≤ 1) (p0 : 5 ≤ (f 36 3).toInt ∧ (f 36 3).toInt ≤ 5) (sz : Nat) : Met l yX3_runs gwX3_runs { frames := 4, cells := 0, slots := 0, locals := 100 } (sgP D vwCl (tyX ca) 52 h (eX ca h) zcX za f L Q sz [.ref (h 36), .int 50, .int 1, .int x2, .int 2]) (sgQi D vwCl 52 h (eX ca h) sz (fun r f1 L1 Q1 => ((sgI loX hiX f1 ∧ sgK WkX3_runs_50_1_2_f5_f4 f f1 ∧ L1 = L ∧ Q1 = Q) ∧ True ∧ (8 ≤ (f1 36 3).toInt ∧ (f1 36 3).toInt ≤ 8)))) 0 0 (sgA 52 h sz) := by
  refine sg_ofWi (cc := cX3_runs) (maxL := 5) RX3 (by decide) rfl rfl (Nat.le_of_ble_eq_true rfl) ?_
  intro p e s m below meth cd Qz ls hx hb hml hown hts hK hZ hP hS hl hret
  have hA := sgY.self (n := 52) (h := h) (sz := s.heap.size)
  have hl : lv_has ls 5 [(0, .ref (h 36)), (1, .int 50), (2, .int 1), (3, .int x2), (4, .int 2)] := hl
  obtain ⟨H, hH⟩ : ∃ z : Heap, z = s.heap := ⟨_, rfl⟩
  obtain ⟨locs, hlo⟩ : ∃ z : List Loc, z = [] := ⟨_, rfl⟩
  have hP : va_P D vwCl (sgw 52 h (eX ca h) f L Q) H := by rw [hH]; exact hP
  have hS : va_S (sgA 52 h s.heap.size) s.heap H locs := by rw [hH, hlo]; exact hS
  suffices hgo : W p l e ({ frames := 4, cells := 0, slots := 0, locals := 100 }) s m ([.ref (h 36), .int 50, .int 1, .int x2, .int 2] : List Value).toArray below meth cd H locs 0 0 Qz (F0 m 0 ls []) by rw [hH, hlo] at hgo; exact hgo
  clear hH hlo
  have o_1 : (f 36 3).toInt = 5 := (congrArg Int32.toInt (show f 36 3 = 5 from hf_36_3)).trans (by decide)
  have hF : sgK WkX3_runs_50_1_2_f5_f4 f f := sgK.rf
  refine lv_iload_n hx hb dX3_runs_0 rfl (lv_at hl 1 rfl) ?_
  refine lv_lookup (x := 50) (off := 217) (tgt := 218) hx hb dX3_runs_1 (by decide) (by decide) (by decide) ?_
  refine lv_aload_n hx hb dX3_runs_218 rfl (lv_at hl 0 rfl) ?_
  refine lv_iload_n hx hb dX3_runs_219 rfl (lv_at hl 2 rfl) ?_
  refine lv_iconst (v := 2) hx hb dX3_runs_220 (by decide) ?_
  refine lv_iload_n hx hb dX3_runs_221 rfl (lv_at hl 3 rfl) ?_
  refine lv_iload hx hb dX3_runs_222 (lv_at hl 4 rfl) ?_
  have q_2 : (f 36 3).toInt = 5 := (congrArg Int32.toInt (show f 36 3 = 5 from hf_36_3)).trans (by decide)
  have q_3 : (f 36 3).toInt = 5 := (congrArg Int32.toInt (show f 36 3 = 5 from hf_36_3)).trans (by decide)
  refine sg_calli (va_runV (As := [.int 1, .int 2, .int x2, .int 2]) (rest := []) ⟨hx, hb, hml, hown, hts⟩ (kX3_does_1_2_2_f5_f4 l D ca za h hh f L Q hI x2 hf_36_3 hf_36_4 (by omega) (by have k0 : (1 : Int32).toInt = 1 := (by decide); have k1 : (2 : Int32).toInt = 2 := (by decide); have k3 : (2 : Int32).toInt = 2 := (by decide); omega) H.size) (cwV 4 hts (gw_V (fun _ h => List.mem_cons_of_mem _ h) mw_318 mw_319 mw_320 mw_47 mw_317) rfl rfl rfl (by decide +kernel) ⟨Nat.le_of_ble_eq_true rfl, Nat.le_of_ble_eq_true rfl⟩) (sg_preV (ci := 3) (C := RX3) (T := TX3) (N := 6) hA hK hP hS hZ 36 (by decide) rfl rfl) rfl rfl hl.1 rfl (lv_room (Nat.le_of_ble_eq_true rfl)) dX3_runs_224 ⟨Nat.le_refl _, Nat.le_refl _⟩) hA hS (fun r_7 f_4 L_5 Q_6 H locs hq hP hS => ?_)
  obtain ⟨⟨hI, hk_f_4, eL9, eQ9⟩, hq, p_8⟩ := hq
  rw [eL9, eQ9] at hP; clear eL9 eQ9
  have hF : sgK WkX3_runs_50_1_2_f5_f4 f f_4 := sgK.tr hF hk_f_4 (by decide)
  obtain ⟨v_9, ev_9⟩ : ∃ z : Int32, z = f_4 36 3 := ⟨_, rfl⟩
  have q_10 : 0 ≤ v_9.toInt ∧ v_9.toInt ≤ 19 := by rw [ev_9]; exact hI 36 3
  have q_11 : (f_4 36 3).toInt = v_9.toInt := (congrArg Int32.toInt (show f_4 36 3 = v_9 from ev_9.symm))
  have q_12 : (f_4 36 3).toInt = v_9.toInt := (congrArg Int32.toInt (show f_4 36 3 = v_9 from ev_9.symm))
  have k_13 : (1 : Int32).toInt = 1 := by decide
  have k_14 : (2 : Int32).toInt = 2 := by decide
  have k_15 : (2 : Int32).toInt = 2 := by decide
  refine lv_aload_n hx hb dX3_runs_227 rfl (lv_at hl 0 rfl) ?_
  refine lv_aload_n hx hb dX3_runs_228 rfl (lv_at hl 0 rfl) ?_
  refine sg_get (ci := 3) (v := .int 4) (C := RX3) (T := TX3) (N := 6) hx hb hts (fun w h => List.mem_cons_of_mem _ (gx_3 w h)) hown hK hP 36 (by decide) rfl rfl 4 (by decide) (hts _ (List.mem_cons_of_mem _ mw_105)) (fun _ h9 => h9) (congrArg (fun z => some (Value.int z)) (show f_4 36 4 = 4 from ((hk_f_4 36 4 (by decide)).trans hf_36_4))) dX3_runs_229 ?_
  refine lv_iconst (v := 0) hx hb dX3_runs_232 (by decide) ?_
  refine lv_iconst (v := 2) hx hb dX3_runs_233 (by decide) ?_
  refine lv_iload hx hb dX3_runs_234 (lv_at hl 4 rfl) ?_
  have c_16 : v_9 = 6 := Int32.toInt_inj.mp (by have k9 : (6 : Int32).toInt = 6 := (by decide); omega)
  have q_17 : (f_4 36 3).toInt = 6 := (congrArg Int32.toInt (show f_4 36 3 = 6 from (Eq.trans ev_9.symm c_16))).trans (by decide)
  have q_18 : (f_4 36 3).toInt = 6 := (congrArg Int32.toInt (show f_4 36 3 = 6 from (Eq.trans ev_9.symm c_16))).trans (by decide)
  refine sg_calli (va_runV (As := [.int 4, .int 0, .int 2, .int 2]) (rest := [.int r_7]) ⟨hx, hb, hml, hown, hts⟩ (kX3_does_4_0_2_f6_f4 l D ca za h hh f_4 L Q hI 2 (Eq.trans ev_9.symm c_16) ((hk_f_4 36 4 (by decide)).trans hf_36_4) (by decide) (by have k0 : (4 : Int32).toInt = 4 := (by decide); have k1 : (0 : Int32).toInt = 0 := (by decide); have k2 : (2 : Int32).toInt = 2 := (by decide); have k3 : (2 : Int32).toInt = 2 := (by decide); omega) H.size) (cwV 4 hts (gw_V (fun _ h => List.mem_cons_of_mem _ h) mw_318 mw_319 mw_320 mw_47 mw_317) rfl rfl rfl (by decide +kernel) ⟨Nat.le_of_ble_eq_true rfl, Nat.le_of_ble_eq_true rfl⟩) (sg_preV (ci := 3) (C := RX3) (T := TX3) (N := 6) hA hK hP hS hZ 36 (by decide) rfl rfl) rfl rfl hl.1 rfl (lv_room (Nat.le_of_ble_eq_true rfl)) dX3_runs_236 ⟨Nat.le_refl _, Nat.le_refl _⟩) hA hS (fun r_22 f_19 L_20 Q_21 H locs hq hP hS => ?_)
  obtain ⟨⟨hI, hk_f_19, eL9, eQ9⟩, hq, p_23⟩ := hq
  rw [eL9, eQ9] at hP; clear eL9 eQ9
  have hF : sgK WkX3_runs_50_1_2_f5_f4 f f_19 := sgK.tr hF hk_f_19 (by decide)
  obtain ⟨v_24, ev_24⟩ : ∃ z : Int32, z = f_19 36 3 := ⟨_, rfl⟩
  have q_25 : 0 ≤ v_24.toInt ∧ v_24.toInt ≤ 19 := by rw [ev_24]; exact hI 36 3
  have q_26 : (f_19 36 3).toInt = v_24.toInt := (congrArg Int32.toInt (show f_19 36 3 = v_24 from ev_24.symm))
  have q_27 : (f_19 36 3).toInt = v_24.toInt := (congrArg Int32.toInt (show f_19 36 3 = v_24 from ev_24.symm))
  have k_28 : (4 : Int32).toInt = 4 := by decide
  have k_29 : (0 : Int32).toInt = 0 := by decide
  have k_30 : (2 : Int32).toInt = 2 := by decide
  have k_31 : (2 : Int32).toInt = 2 := by decide
  refine lv_isub hx hb dX3_runs_239 ?_
  refine lv_topi (fun v_32 ev_32 => ?_)
  have q_33 : (f_19 36 3).toInt = v_24.toInt := (congrArg Int32.toInt (show f_19 36 3 = v_24 from ev_24.symm))
  have q_34 : (f_19 36 3).toInt = v_24.toInt := (congrArg Int32.toInt (show f_19 36 3 = v_24 from ev_24.symm))
  exact hret _ _ _ _ (v_32) f_19 L Q dX3_runs_240 hP hS ⟨⟨hI, hF, rfl, rfl⟩, trivial, (by omega)⟩

abbrev WkX3_does_4_2_1_f4_f4 : List (Nat × Nat × Option Nat) := [(36, 36, some 3), (38, 38, none)]
set_option maxHeartbeats 4000000 in
set_option maxRecDepth 100000 in
theorem kX3_does_4_2_1_f4_f4 (l : Launch) (D : va_G) (ca : Nat → ClassId) (za h : Nat → Nat) (hh : sgH 52 h) (f : sg_F) (L : sg_L) (Q : sg_Q) (hI : sgI loX hiX f) (x2 : Int32) (hf_36_3 : f 36 3 = 4) (hf_36_4 : f 36 4 = 4) (b2 : 1 ≤ x2.toInt ∧ x2.toInt ≤ 1) (p0 : 4 ≤ (f 36 3).toInt ∧ (f 36 3).toInt ≤ 4) (sz : Nat) : Met l yX3_does gwX3_does { frames := 5, cells := 0, slots := 0, locals := 124 } (sgP D vwCl (tyX ca) 52 h (eX ca h) zcX za f L Q sz [.ref (h 36), .int 4, .int 2, .int x2, .int 1]) (sgQi D vwCl 52 h (eX ca h) sz (fun r f1 L1 Q1 => ((sgI loX hiX f1 ∧ sgK WkX3_does_4_2_1_f4_f4 f f1 ∧ L1 = L ∧ Q1 = Q) ∧ True ∧ (8 ≤ (f1 36 3).toInt ∧ (f1 36 3).toInt ≤ 8)))) 0 0 (sgA 52 h sz) := by
  refine sg_ofWi (cc := cX3_does) (maxL := 7) RX3 (by decide) rfl rfl (Nat.le_of_ble_eq_true rfl) ?_
  intro p e s m below meth cd Qz ls hx hb hml hown hts hK hZ hP hS hl hret
  have hA := sgY.self (n := 52) (h := h) (sz := s.heap.size)
  have hl : lv_has ls 7 [(0, .ref (h 36)), (1, .int 4), (2, .int 2), (3, .int x2), (4, .int 1)] := hl
  obtain ⟨H, hH⟩ : ∃ z : Heap, z = s.heap := ⟨_, rfl⟩
  obtain ⟨locs, hlo⟩ : ∃ z : List Loc, z = [] := ⟨_, rfl⟩
  have hP : va_P D vwCl (sgw 52 h (eX ca h) f L Q) H := by rw [hH]; exact hP
  have hS : va_S (sgA 52 h s.heap.size) s.heap H locs := by rw [hH, hlo]; exact hS
  suffices hgo : W p l e ({ frames := 5, cells := 0, slots := 0, locals := 124 }) s m ([.ref (h 36), .int 4, .int 2, .int x2, .int 1] : List Value).toArray below meth cd H locs 0 0 Qz (F0 m 0 ls []) by rw [hH, hlo] at hgo; exact hgo
  clear hH hlo
  have o_1 : (f 36 3).toInt = 4 := (congrArg Int32.toInt (show f 36 3 = 4 from hf_36_3)).trans (by decide)
  have hF : sgK WkX3_does_4_2_1_f4_f4 f f := sgK.rf
  have blk_53 : ∀ (fp_53 : sg_F) (H : Heap) (locs : List Loc) (ls : Array Slot), 4 ≤ (fp_53 36 3).toInt ∧ (fp_53 36 3).toInt ≤ 4 → 4 ≤ (fp_53 36 4).toInt ∧ (fp_53 36 4).toInt ≤ 4 → sgI loX hiX fp_53 → sgK WkX3_does_4_2_1_f4_f4 f fp_53 → va_P D vwCl (sgw 52 h (eX ca h) fp_53 L Q) H → va_S (sgA 52 h s.heap.size) s.heap H locs → lv_has ls 7 [(0, .ref (h 36)), (3, .int x2), (4, .int 1), (5, .int 4), (6, .int 50)] → W p l e ({ frames := 5, cells := 0, slots := 0, locals := 124 }) s m ([.ref (h 36), .int 4, .int 2, .int x2, .int 1] : List Value).toArray below meth cd H locs 0 0 Qz (F0 m 53 ls []) := by
    intro fp_53 H locs ls hy0_53 hy1_53 hI hF hP hS hl
    obtain ⟨v_2, ev_2⟩ : ∃ z : Int32, z = fp_53 36 3 := ⟨_, rfl⟩
    have q_3 : 0 ≤ v_2.toInt ∧ v_2.toInt ≤ 19 := by rw [ev_2]; exact hI 36 3
    have q_4 : (fp_53 36 3).toInt = v_2.toInt := by rw [ev_2]
    obtain ⟨v_5, ev_5⟩ : ∃ z : Int32, z = fp_53 36 4 := ⟨_, rfl⟩
    have q_6 : 0 ≤ v_5.toInt ∧ v_5.toInt ≤ 7 := by rw [ev_5]; exact hI 36 4
    have q_7 : (fp_53 36 4).toInt = v_5.toInt := by rw [ev_5]
    have m_8 : fp_53 36 4 = 4 := (hF 36 4 (by decide)).trans hf_36_4
    refine lv_aload_n hx hb dX3_does_53 rfl (lv_at hl 0 rfl) ?_
    refine lv_dup hx hb dX3_does_54 rfl ?_
    refine sg_get (ci := 3) (v := .int v_2) (C := RX3) (T := TX3) (N := 6) hx hb hts (fun w h => List.mem_cons_of_mem _ (gx_3 w h)) hown hK hP 36 (by decide) rfl rfl 3 (by decide) (hts _ (List.mem_cons_of_mem _ mw_16)) (fun _ h9 => h9) (congrArg (fun z => some (Value.int z)) (show fp_53 36 3 = v_2 from ev_2.symm)) dX3_does_55 ?_
    refine lv_iconst (v := 1) hx hb dX3_does_58 (by decide) ?_
    refine lv_iadd hx hb dX3_does_59 ?_
    refine lv_topi (fun v_9 ev_9 => ?_)
    have q_10 : v_9.toInt = v_2.toInt + 1 := by rw [ev_9]; have k1 : (1 : Int32).toInt = 1 := (by decide); exact (bn_addI (by omega) (by omega)).trans (by omega)
    refine sg_put (ci := 3) (x := v_9) (ty := .int) (C := RX3) (T := TX3) (N := 6) hx hb hts (fun w h => List.mem_cons_of_mem _ (gx_3 w h)) tyX3 tyX3_ok nmX3 hown hh hA hK hP hS 36 (by decide) rfl rfl 3 (by decide) (hts _ (List.mem_cons_of_mem _ mw_16)) (fun _ h9 => h9) rfl rfl (by decide +kernel) rfl rfl (Nat.le_of_ble_eq_true rfl) dX3_does_60 (fun f_11 H locs ef_11 hP hS => ?_)
    have hI : sgI loX hiX f_11 := by rw [ef_11]; exact sgI.put hI 36 3 (show 0 ≤ (v_9 : Int32).toInt ∧ (v_9 : Int32).toInt ≤ 19 from by omega)
    have hF : sgK WkX3_does_4_2_1_f4_f4 f f_11 := sgK.put hF ef_11 (by rfl)
    refine lv_aload_n hx hb dX3_does_63 rfl (lv_at hl 0 rfl) ?_
    refine lv_iload hx hb dX3_does_64 (lv_at hl 4 rfl) ?_
    refine sg_gets hx hb hZ 2 rfl hS hown (hts _ (List.mem_cons_of_mem _ mw_174)) (fun _ h9 => h9) dX3_does_66 ?_
    refine lv_iload hx hb dX3_does_69 (lv_at hl 3 rfl) ?_
    refine sg_sald hx hb hZ 2 rfl hS (y := 4) (N := 8) (vp_in_iff.mpr (by decide)) dX3_does_71 ?_
    refine W.eq (g2 := F0 m 72 ls [.int 1, .int 50, .ref (h 36)]) (by rfl) ?_
    refine lv_iload_n hx hb dX3_does_72 rfl (lv_at hl 1 rfl) ?_
    refine lv_iload hx hb dX3_does_73 (lv_at hl 2 rfl) ?_
    refine lv_iconst (v := 1) hx hb dX3_does_75 (by decide) ?_
    refine lv_iadd hx hb dX3_does_76 ?_
    refine W.eq (g2 := F0 m 77 ls [.int 2, .int x2, .int 1, .int 50, .ref (h 36)]) (by rw [show (1 + 1 : Int32) = 2 from by decide]) ?_
    have c_12 : v_9 = 5 := Int32.toInt_inj.mp (by have k9 : (5 : Int32).toInt = 5 := (by decide); omega)
    have q_13 : (f_11 36 3).toInt = 5 := (congrArg Int32.toInt (show f_11 36 3 = 5 from (Eq.trans (by rw [ef_11, sg_up_s, sgu_s]) c_12))).trans (by decide)
    have q_14 : (f_11 36 3).toInt = 5 := (congrArg Int32.toInt (show f_11 36 3 = 5 from (Eq.trans (by rw [ef_11, sg_up_s, sgu_s]) c_12))).trans (by decide)
    refine sg_calli (va_runV (As := [.int 50, .int 1, .int x2, .int 2]) (rest := []) ⟨hx, hb, hml, hown, hts⟩ (kX3_runs_50_1_2_f5_f4 l D ca za h hh f_11 L Q hI x2 (Eq.trans (by rw [ef_11, sg_up_s, sgu_s]) c_12) (by rw [ef_11, sg_up_s, sgu_n (by decide)]; exact m_8) (by omega) (by have k0 : (50 : Int32).toInt = 50 := (by decide); have k1 : (1 : Int32).toInt = 1 := (by decide); have k3 : (2 : Int32).toInt = 2 := (by decide); omega) H.size) (cwV 4 hts (gw_V (fun _ h => List.mem_cons_of_mem _ h) mw_311 mw_312 mw_313 mw_47 mw_310) rfl rfl rfl (by decide +kernel) ⟨Nat.le_of_ble_eq_true rfl, Nat.le_of_ble_eq_true rfl⟩) (sg_preV (ci := 3) (C := RX3) (T := TX3) (N := 6) hA hK hP hS hZ 36 (by decide) rfl rfl) rfl rfl hl.1 rfl (lv_room (Nat.le_of_ble_eq_true rfl)) dX3_does_77 ⟨Nat.le_refl _, Nat.le_refl _⟩) hA hS (fun r_18 f_15 L_16 Q_17 H locs hq hP hS => ?_)
    obtain ⟨⟨hI, hk_f_15, eL9, eQ9⟩, hq, p_19⟩ := hq
    rw [eL9, eQ9] at hP; clear eL9 eQ9
    have hF : sgK WkX3_does_4_2_1_f4_f4 f f_15 := sgK.tr hF hk_f_15 (by decide)
    obtain ⟨v_20, ev_20⟩ : ∃ z : Int32, z = f_15 36 3 := ⟨_, rfl⟩
    have q_21 : 0 ≤ v_20.toInt ∧ v_20.toInt ≤ 19 := by rw [ev_20]; exact hI 36 3
    have q_22 : (f_15 36 3).toInt = v_20.toInt := (congrArg Int32.toInt (show f_15 36 3 = v_20 from ev_20.symm))
    have q_23 : (f_15 36 3).toInt = v_20.toInt := (congrArg Int32.toInt (show f_15 36 3 = v_20 from ev_20.symm))
    have k_24 : (50 : Int32).toInt = 50 := by decide
    have k_25 : (1 : Int32).toInt = 1 := by decide
    have k_26 : (2 : Int32).toInt = 2 := by decide
    have q_27 : (f_15 36 3).toInt = v_20.toInt := (congrArg Int32.toInt (show f_15 36 3 = v_20 from ev_20.symm))
    have q_28 : (f_15 36 3).toInt = v_20.toInt := (congrArg Int32.toInt (show f_15 36 3 = v_20 from ev_20.symm))
    exact hret _ _ _ _ (r_18) f_15 L Q dX3_does_80 hP hS ⟨⟨hI, hF, rfl, rfl⟩, trivial, (by omega)⟩
  refine lv_iload_n hx hb dX3_does_0 rfl (lv_at hl 1 rfl) ?_
  refine lv_iload_n hx hb dX3_does_1 rfl (lv_at hl 2 rfl) ?_
  refine sg_calli (va_runS (As := [.int 4, .int 2]) (rest := []) ⟨hx, hb, hml, hown, hts⟩ (kX3_ownerOf_4_2 l D ca za h hh f L Q hI H.size) (va_cwS 2 hts (gw_S (fun _ h => List.mem_cons_of_mem _ h) mw_189 mw_190 mw_47 mw_188) rfl rfl rfl (by decide +kernel) ⟨Nat.le_of_ble_eq_true rfl, Nat.le_of_ble_eq_true rfl⟩) (sg_preS hA hK hP hS hZ) rfl rfl hl.1 rfl (lv_room (Nat.le_of_ble_eq_true rfl)) dX3_does_2 ⟨Nat.le_refl _, Nat.le_refl _⟩) hA hS (fun r_32 f_29 L_30 Q_31 H locs hq hP hS => ?_)
  obtain ⟨⟨ef9, eL9, eQ9⟩, hq⟩ := hq
  rw [ef9, eL9, eQ9] at hP; clear ef9 eL9 eQ9
  obtain rfl : r_32 = 4 := Int32.toInt_inj.mp (by have k9 : (4 : Int32).toInt = 4 := (by decide); omega)
  refine lv_istore (lv' := [(5, .int 4), (0, .ref (h 36)), (1, .int 4), (2, .int 2), (3, .int x2), (4, .int 1)]) hx hb dX3_does_5 hl (by decide) rfl (fun ls hl => ?_)
  refine lv_iload hx hb dX3_does_7 (lv_at hl 0 rfl) ?_
  refine lv_if_lt (tgt := 19) hx hb dX3_does_9 (by decide) (fun c => absurd c (by decide)) (fun c => ?_)
  refine lv_iload hx hb dX3_does_12 (lv_at hl 5 rfl) ?_
  refine lv_bipush (v := 40) hx hb dX3_does_14 (by decide) ?_
  refine lv_icmp_le (tgt := 21) hx hb dX3_does_16 (by decide) (fun c => ?_) (fun c => absurd c (by decide))
  refine sg_gets hx hb hZ 3 rfl hS hown (hts _ (List.mem_cons_of_mem _ mw_173)) (fun _ h9 => h9) dX3_does_21 ?_
  refine lv_iload hx hb dX3_does_24 (lv_at hl 0 rfl) ?_
  refine lv_iconst (v := 4) hx hb dX3_does_26 (by decide) ?_
  refine lv_imul hx hb dX3_does_27 ?_
  refine W.eq (g2 := F0 m 28 ls [.int 16, .ref (za 3)]) (by rw [show (4 * 4 : Int32) = 16 from by decide]) ?_
  refine lv_iload_n hx hb dX3_does_28 rfl (lv_at hl 3 rfl) ?_
  refine lv_iadd hx hb dX3_does_29 ?_
  refine W.eq (g2 := F0 m 30 ls [.int 18, .ref (za 3)]) (by rw [show (16 + 2 : Int32) = 18 from by decide]) ?_
  refine sg_sald hx hb hZ 3 rfl hS (y := 18) (N := 32) (vp_in_iff.mpr (by decide)) dX3_does_30 ?_
  refine W.eq (g2 := F0 m 31 ls [.int 50]) (by rfl) ?_
  refine lv_istore (lv' := [(6, .int 50), (5, .int 4), (0, .ref (h 36)), (1, .int 4), (2, .int 2), (3, .int x2), (4, .int 1)]) hx hb dX3_does_31 hl (by decide) rfl (fun ls hl => ?_)
  refine lv_aload_n hx hb dX3_does_33 rfl (lv_at hl 2 rfl) ?_
  refine sg_get (ci := 3) (v := .int 4) (C := RX3) (T := TX3) (N := 6) hx hb hts (fun w h => List.mem_cons_of_mem _ (gx_3 w h)) hown hK hP 36 (by decide) rfl rfl 3 (by decide) (hts _ (List.mem_cons_of_mem _ mw_16)) (fun _ h9 => h9) (congrArg (fun z => some (Value.int z)) (show f 36 3 = 4 from hf_36_3)) dX3_does_34 ?_
  refine lv_bipush (v := 24) hx hb dX3_does_37 (by decide) ?_
  refine lv_icmp_ge (tgt := 53) hx hb dX3_does_39 (by decide) (fun c => absurd c (by decide)) (fun c => ?_)
  refine lv_aload_n hx hb dX3_does_42 rfl (lv_at hl 2 rfl) ?_
  refine sg_get (ci := 3) (v := .ref (h 38)) (C := RX3) (T := TX3) (N := 6) hx hb hts (fun w h => List.mem_cons_of_mem _ (gx_3 w h)) hown hK hP 36 (by decide) rfl rfl 1 (by decide) (hts _ (List.mem_cons_of_mem _ mw_191)) (fun _ h9 => h9) rfl dX3_does_43 ?_
  refine lv_aload_n hx hb dX3_does_46 rfl (lv_at hl 2 rfl) ?_
  refine sg_get (ci := 3) (v := .int 4) (C := RX3) (T := TX3) (N := 6) hx hb hts (fun w h => List.mem_cons_of_mem _ (gx_3 w h)) hown hK hP 36 (by decide) rfl rfl 3 (by decide) (hts _ (List.mem_cons_of_mem _ mw_16)) (fun _ h9 => h9) (congrArg (fun z => some (Value.int z)) (show f 36 3 = 4 from hf_36_3)) dX3_does_47 ?_
  refine lv_iload hx hb dX3_does_50 (lv_at hl 0 rfl) ?_
  refine sg_iast hx hb hh hA hK hP hS 38 (by decide) 0 (fun _ => rfl) rfl (i := 4) (x := 50) (vp_in_iff.mpr (by decide)) dX3_does_52 (fun f_33 H locs ef_33 hP hS => ?_)
  have hI : sgI loX hiX f_33 := by rw [ef_33]; exact sgI.put hI 38 (Int32.toNatClampNeg 4) (show 0 ≤ (50 : Int32).toInt ∧ (50 : Int32).toInt ≤ 81 from by decide)
  have hF : sgK WkX3_does_4_2_1_f4_f4 f f_33 := sgK.put hF ef_33 (by rfl)
  exact blk_53 f_33 _ _ _ (by have zz36_3 : (f_33 36 3).toInt = 4 := (congrArg Int32.toInt (show f_33 36 3 = 4 from (by rw [ef_33, sg_up_n (by decide)]; exact hf_36_3))).trans (by decide); omega) (by have zz36_4 : (f_33 36 4).toInt = 4 := (congrArg Int32.toInt (show f_33 36 4 = 4 from (by rw [ef_33, sg_up_n (by decide)]; exact hf_36_4))).trans (by decide); omega) hI hF hP hS (lv_sub hl [2, 5, 6, 1, 0] rfl)

abbrev WkX3_runs_2_m1_1_f1_f4 : List (Nat × Nat × Option Nat) := [(36, 36, some 3), (38, 38, none)]
set_option maxHeartbeats 4000000 in
set_option maxRecDepth 100000 in
theorem kX3_runs_2_m1_1_f1_f4 (l : Launch) (D : va_G) (ca : Nat → ClassId) (za h : Nat → Nat) (hh : sgH 52 h) (f : sg_F) (L : sg_L) (Q : sg_Q) (hI : sgI loX hiX f) (x2 : Int32) (hf_36_3 : f 36 3 = 1) (hf_36_4 : f 36 4 = 4) (p0 : 1 ≤ (f 36 3).toInt ∧ (f 36 3).toInt ≤ 1) (sz : Nat) : Met l yX3_runs gwX3_runs { frames := 6, cells := 0, slots := 0, locals := 150 } (sgP D vwCl (tyX ca) 52 h (eX ca h) zcX za f L Q sz [.ref (h 36), .int 2, .int (-1), .int x2, .int 1]) (sgQi D vwCl 52 h (eX ca h) sz (fun r f1 L1 Q1 => ((sgI loX hiX f1 ∧ sgK WkX3_runs_2_m1_1_f1_f4 f f1 ∧ L1 = L ∧ Q1 = Q) ∧ True ∧ (8 ≤ (f1 36 3).toInt ∧ (f1 36 3).toInt ≤ 8)))) 0 0 (sgA 52 h sz) := by
  refine sg_ofWi (cc := cX3_runs) (maxL := 5) RX3 (by decide) rfl rfl (Nat.le_of_ble_eq_true rfl) ?_
  intro p e s m below meth cd Qz ls hx hb hml hown hts hK hZ hP hS hl hret
  have hA := sgY.self (n := 52) (h := h) (sz := s.heap.size)
  have hl : lv_has ls 5 [(0, .ref (h 36)), (1, .int 2), (2, .int (-1)), (3, .int x2), (4, .int 1)] := hl
  obtain ⟨H, hH⟩ : ∃ z : Heap, z = s.heap := ⟨_, rfl⟩
  obtain ⟨locs, hlo⟩ : ∃ z : List Loc, z = [] := ⟨_, rfl⟩
  have hP : va_P D vwCl (sgw 52 h (eX ca h) f L Q) H := by rw [hH]; exact hP
  have hS : va_S (sgA 52 h s.heap.size) s.heap H locs := by rw [hH, hlo]; exact hS
  suffices hgo : W p l e ({ frames := 6, cells := 0, slots := 0, locals := 150 }) s m ([.ref (h 36), .int 2, .int (-1), .int x2, .int 1] : List Value).toArray below meth cd H locs 0 0 Qz (F0 m 0 ls []) by rw [hH, hlo] at hgo; exact hgo
  clear hH hlo
  have o_1 : (f 36 3).toInt = 1 := (congrArg Int32.toInt (show f 36 3 = 1 from hf_36_3)).trans (by decide)
  have hF : sgK WkX3_runs_2_m1_1_f1_f4 f f := sgK.rf
  refine lv_iload_n hx hb dX3_runs_0 rfl (lv_at hl 1 rfl) ?_
  refine lv_lookup (x := 2) (off := 122) (tgt := 123) hx hb dX3_runs_1 (by decide) (by decide) (by decide) ?_
  refine lv_aload_n hx hb dX3_runs_123 rfl (lv_at hl 0 rfl) ?_
  refine lv_aload_n hx hb dX3_runs_124 rfl (lv_at hl 0 rfl) ?_
  refine sg_get (ci := 3) (v := .int 4) (C := RX3) (T := TX3) (N := 6) hx hb hts (fun w h => List.mem_cons_of_mem _ (gx_3 w h)) hown hK hP 36 (by decide) rfl rfl 4 (by decide) (hts _ (List.mem_cons_of_mem _ mw_105)) (fun _ h9 => h9) (congrArg (fun z => some (Value.int z)) (show f 36 4 = 4 from hf_36_4)) dX3_runs_125 ?_
  refine lv_iconst (v := 1) hx hb dX3_runs_128 (by decide) ?_
  refine lv_iload_n hx hb dX3_runs_129 rfl (lv_at hl 3 rfl) ?_
  refine lv_iload hx hb dX3_runs_130 (lv_at hl 4 rfl) ?_
  have q_2 : (f 36 3).toInt = 1 := (congrArg Int32.toInt (show f 36 3 = 1 from hf_36_3)).trans (by decide)
  have q_3 : (f 36 3).toInt = 1 := (congrArg Int32.toInt (show f 36 3 = 1 from hf_36_3)).trans (by decide)
  refine sg_calli (va_runV (As := [.int 4, .int 1, .int x2, .int 1]) (rest := []) ⟨hx, hb, hml, hown, hts⟩ (kX3_does_4_1_1_f1_f4 l D ca za h hh f L Q hI x2 hf_36_3 hf_36_4 (by have k0 : (4 : Int32).toInt = 4 := (by decide); have k1 : (1 : Int32).toInt = 1 := (by decide); have k3 : (1 : Int32).toInt = 1 := (by decide); omega) H.size) (cwV 4 hts (gw_V (fun _ h => List.mem_cons_of_mem _ h) mw_318 mw_319 mw_320 mw_47 mw_317) rfl rfl rfl (by decide +kernel) ⟨Nat.le_of_ble_eq_true rfl, Nat.le_of_ble_eq_true rfl⟩) (sg_preV (ci := 3) (C := RX3) (T := TX3) (N := 6) hA hK hP hS hZ 36 (by decide) rfl rfl) rfl rfl hl.1 rfl (lv_room (Nat.le_of_ble_eq_true rfl)) dX3_runs_132 ⟨Nat.le_refl _, Nat.le_refl _⟩) hA hS (fun r_7 f_4 L_5 Q_6 H locs hq hP hS => ?_)
  obtain ⟨⟨hI, hk_f_4, eL9, eQ9⟩, hq, p_8⟩ := hq
  rw [eL9, eQ9] at hP; clear eL9 eQ9
  have hF : sgK WkX3_runs_2_m1_1_f1_f4 f f_4 := sgK.tr hF hk_f_4 (by decide)
  obtain ⟨v_9, ev_9⟩ : ∃ z : Int32, z = f_4 36 3 := ⟨_, rfl⟩
  have q_10 : 0 ≤ v_9.toInt ∧ v_9.toInt ≤ 19 := by rw [ev_9]; exact hI 36 3
  have q_11 : (f_4 36 3).toInt = v_9.toInt := (congrArg Int32.toInt (show f_4 36 3 = v_9 from ev_9.symm))
  have q_12 : (f_4 36 3).toInt = v_9.toInt := (congrArg Int32.toInt (show f_4 36 3 = v_9 from ev_9.symm))
  have k_13 : (4 : Int32).toInt = 4 := by decide
  have k_14 : (1 : Int32).toInt = 1 := by decide
  have k_15 : (1 : Int32).toInt = 1 := by decide
  refine lv_aload_n hx hb dX3_runs_135 rfl (lv_at hl 0 rfl) ?_
  refine lv_aload_n hx hb dX3_runs_136 rfl (lv_at hl 0 rfl) ?_
  refine sg_get (ci := 3) (v := .int 4) (C := RX3) (T := TX3) (N := 6) hx hb hts (fun w h => List.mem_cons_of_mem _ (gx_3 w h)) hown hK hP 36 (by decide) rfl rfl 4 (by decide) (hts _ (List.mem_cons_of_mem _ mw_105)) (fun _ h9 => h9) (congrArg (fun z => some (Value.int z)) (show f_4 36 4 = 4 from ((hk_f_4 36 4 (by decide)).trans hf_36_4))) dX3_runs_137 ?_
  refine lv_iconst (v := 2) hx hb dX3_runs_140 (by decide) ?_
  refine lv_iconst (v := 1) hx hb dX3_runs_141 (by decide) ?_
  refine lv_iload hx hb dX3_runs_142 (lv_at hl 4 rfl) ?_
  have c_16 : v_9 = 4 := Int32.toInt_inj.mp (by have k9 : (4 : Int32).toInt = 4 := (by decide); omega)
  have q_17 : (f_4 36 3).toInt = 4 := (congrArg Int32.toInt (show f_4 36 3 = 4 from (Eq.trans ev_9.symm c_16))).trans (by decide)
  have q_18 : (f_4 36 3).toInt = 4 := (congrArg Int32.toInt (show f_4 36 3 = 4 from (Eq.trans ev_9.symm c_16))).trans (by decide)
  refine sg_calli (va_runV (As := [.int 4, .int 2, .int 1, .int 1]) (rest := [.int r_7]) ⟨hx, hb, hml, hown, hts⟩ (kX3_does_4_2_1_f4_f4 l D ca za h hh f_4 L Q hI 1 (Eq.trans ev_9.symm c_16) ((hk_f_4 36 4 (by decide)).trans hf_36_4) (by decide) (by have k0 : (4 : Int32).toInt = 4 := (by decide); have k1 : (2 : Int32).toInt = 2 := (by decide); have k2 : (1 : Int32).toInt = 1 := (by decide); have k3 : (1 : Int32).toInt = 1 := (by decide); omega) H.size) (cwV 4 hts (gw_V (fun _ h => List.mem_cons_of_mem _ h) mw_318 mw_319 mw_320 mw_47 mw_317) rfl rfl rfl (by decide +kernel) ⟨Nat.le_of_ble_eq_true rfl, Nat.le_of_ble_eq_true rfl⟩) (sg_preV (ci := 3) (C := RX3) (T := TX3) (N := 6) hA hK hP hS hZ 36 (by decide) rfl rfl) rfl rfl hl.1 rfl (lv_room (Nat.le_of_ble_eq_true rfl)) dX3_runs_144 ⟨Nat.le_refl _, Nat.le_refl _⟩) hA hS (fun r_22 f_19 L_20 Q_21 H locs hq hP hS => ?_)
  obtain ⟨⟨hI, hk_f_19, eL9, eQ9⟩, hq, p_23⟩ := hq
  rw [eL9, eQ9] at hP; clear eL9 eQ9
  have hF : sgK WkX3_runs_2_m1_1_f1_f4 f f_19 := sgK.tr hF hk_f_19 (by decide)
  obtain ⟨v_24, ev_24⟩ : ∃ z : Int32, z = f_19 36 3 := ⟨_, rfl⟩
  have q_25 : 0 ≤ v_24.toInt ∧ v_24.toInt ≤ 19 := by rw [ev_24]; exact hI 36 3
  have q_26 : (f_19 36 3).toInt = v_24.toInt := (congrArg Int32.toInt (show f_19 36 3 = v_24 from ev_24.symm))
  have q_27 : (f_19 36 3).toInt = v_24.toInt := (congrArg Int32.toInt (show f_19 36 3 = v_24 from ev_24.symm))
  have k_28 : (4 : Int32).toInt = 4 := by decide
  have k_29 : (2 : Int32).toInt = 2 := by decide
  have k_30 : (1 : Int32).toInt = 1 := by decide
  have k_31 : (1 : Int32).toInt = 1 := by decide
  refine lv_isub hx hb dX3_runs_147 ?_
  refine lv_topi (fun v_32 ev_32 => ?_)
  have q_33 : (f_19 36 3).toInt = v_24.toInt := (congrArg Int32.toInt (show f_19 36 3 = v_24 from ev_24.symm))
  have q_34 : (f_19 36 3).toInt = v_24.toInt := (congrArg Int32.toInt (show f_19 36 3 = v_24 from ev_24.symm))
  exact hret _ _ _ _ (v_32) f_19 L Q dX3_runs_148 hP hS ⟨⟨hI, hF, rfl, rfl⟩, trivial, (by omega)⟩

abbrev WkX3_does_4_3_0_f0_f4 : List (Nat × Nat × Option Nat) := [(36, 36, some 3), (38, 38, none)]
set_option maxHeartbeats 4000000 in
set_option maxRecDepth 100000 in
theorem kX3_does_4_3_0_f0_f4 (l : Launch) (D : va_G) (ca : Nat → ClassId) (za h : Nat → Nat) (hh : sgH 52 h) (f : sg_F) (L : sg_L) (Q : sg_Q) (hI : sgI loX hiX f) (x2 : Int32) (hf_36_3 : f 36 3 = 0) (hf_36_4 : f 36 4 = 4) (p0 : 0 ≤ (f 36 3).toInt ∧ (f 36 3).toInt ≤ 0) (sz : Nat) : Met l yX3_does gwX3_does { frames := 7, cells := 0, slots := 0, locals := 174 } (sgP D vwCl (tyX ca) 52 h (eX ca h) zcX za f L Q sz [.ref (h 36), .int 4, .int 3, .int x2, .int 0]) (sgQi D vwCl 52 h (eX ca h) sz (fun r f1 L1 Q1 => ((sgI loX hiX f1 ∧ sgK WkX3_does_4_3_0_f0_f4 f f1 ∧ L1 = L ∧ Q1 = Q) ∧ True ∧ (8 ≤ (f1 36 3).toInt ∧ (f1 36 3).toInt ≤ 8)))) 0 0 (sgA 52 h sz) := by
  refine sg_ofWi (cc := cX3_does) (maxL := 7) RX3 (by decide) rfl rfl (Nat.le_of_ble_eq_true rfl) ?_
  intro p e s m below meth cd Qz ls hx hb hml hown hts hK hZ hP hS hl hret
  have hA := sgY.self (n := 52) (h := h) (sz := s.heap.size)
  have hl : lv_has ls 7 [(0, .ref (h 36)), (1, .int 4), (2, .int 3), (3, .int x2), (4, .int 0)] := hl
  obtain ⟨H, hH⟩ : ∃ z : Heap, z = s.heap := ⟨_, rfl⟩
  obtain ⟨locs, hlo⟩ : ∃ z : List Loc, z = [] := ⟨_, rfl⟩
  have hP : va_P D vwCl (sgw 52 h (eX ca h) f L Q) H := by rw [hH]; exact hP
  have hS : va_S (sgA 52 h s.heap.size) s.heap H locs := by rw [hH, hlo]; exact hS
  suffices hgo : W p l e ({ frames := 7, cells := 0, slots := 0, locals := 174 }) s m ([.ref (h 36), .int 4, .int 3, .int x2, .int 0] : List Value).toArray below meth cd H locs 0 0 Qz (F0 m 0 ls []) by rw [hH, hlo] at hgo; exact hgo
  clear hH hlo
  have o_1 : (f 36 3).toInt = 0 := (congrArg Int32.toInt (show f 36 3 = 0 from hf_36_3)).trans (by decide)
  have hF : sgK WkX3_does_4_3_0_f0_f4 f f := sgK.rf
  have blk_53 : ∀ (fp_53 : sg_F) (H : Heap) (locs : List Loc) (ls : Array Slot), 0 ≤ (fp_53 36 3).toInt ∧ (fp_53 36 3).toInt ≤ 0 → 4 ≤ (fp_53 36 4).toInt ∧ (fp_53 36 4).toInt ≤ 4 → sgI loX hiX fp_53 → sgK WkX3_does_4_3_0_f0_f4 f fp_53 → va_P D vwCl (sgw 52 h (eX ca h) fp_53 L Q) H → va_S (sgA 52 h s.heap.size) s.heap H locs → lv_has ls 7 [(0, .ref (h 36)), (3, .int x2), (4, .int 0), (5, .int 0), (6, .int 2)] → W p l e ({ frames := 7, cells := 0, slots := 0, locals := 174 }) s m ([.ref (h 36), .int 4, .int 3, .int x2, .int 0] : List Value).toArray below meth cd H locs 0 0 Qz (F0 m 53 ls []) := by
    intro fp_53 H locs ls hy0_53 hy1_53 hI hF hP hS hl
    obtain ⟨v_2, ev_2⟩ : ∃ z : Int32, z = fp_53 36 3 := ⟨_, rfl⟩
    have q_3 : 0 ≤ v_2.toInt ∧ v_2.toInt ≤ 19 := by rw [ev_2]; exact hI 36 3
    have q_4 : (fp_53 36 3).toInt = v_2.toInt := by rw [ev_2]
    obtain ⟨v_5, ev_5⟩ : ∃ z : Int32, z = fp_53 36 4 := ⟨_, rfl⟩
    have q_6 : 0 ≤ v_5.toInt ∧ v_5.toInt ≤ 7 := by rw [ev_5]; exact hI 36 4
    have q_7 : (fp_53 36 4).toInt = v_5.toInt := by rw [ev_5]
    have m_8 : fp_53 36 4 = 4 := (hF 36 4 (by decide)).trans hf_36_4
    refine lv_aload_n hx hb dX3_does_53 rfl (lv_at hl 0 rfl) ?_
    refine lv_dup hx hb dX3_does_54 rfl ?_
    refine sg_get (ci := 3) (v := .int v_2) (C := RX3) (T := TX3) (N := 6) hx hb hts (fun w h => List.mem_cons_of_mem _ (gx_3 w h)) hown hK hP 36 (by decide) rfl rfl 3 (by decide) (hts _ (List.mem_cons_of_mem _ mw_16)) (fun _ h9 => h9) (congrArg (fun z => some (Value.int z)) (show fp_53 36 3 = v_2 from ev_2.symm)) dX3_does_55 ?_
    refine lv_iconst (v := 1) hx hb dX3_does_58 (by decide) ?_
    refine lv_iadd hx hb dX3_does_59 ?_
    refine lv_topi (fun v_9 ev_9 => ?_)
    have q_10 : v_9.toInt = v_2.toInt + 1 := by rw [ev_9]; have k1 : (1 : Int32).toInt = 1 := (by decide); exact (bn_addI (by omega) (by omega)).trans (by omega)
    refine sg_put (ci := 3) (x := v_9) (ty := .int) (C := RX3) (T := TX3) (N := 6) hx hb hts (fun w h => List.mem_cons_of_mem _ (gx_3 w h)) tyX3 tyX3_ok nmX3 hown hh hA hK hP hS 36 (by decide) rfl rfl 3 (by decide) (hts _ (List.mem_cons_of_mem _ mw_16)) (fun _ h9 => h9) rfl rfl (by decide +kernel) rfl rfl (Nat.le_of_ble_eq_true rfl) dX3_does_60 (fun f_11 H locs ef_11 hP hS => ?_)
    have hI : sgI loX hiX f_11 := by rw [ef_11]; exact sgI.put hI 36 3 (show 0 ≤ (v_9 : Int32).toInt ∧ (v_9 : Int32).toInt ≤ 19 from by omega)
    have hF : sgK WkX3_does_4_3_0_f0_f4 f f_11 := sgK.put hF ef_11 (by rfl)
    refine lv_aload_n hx hb dX3_does_63 rfl (lv_at hl 0 rfl) ?_
    refine lv_iload hx hb dX3_does_64 (lv_at hl 4 rfl) ?_
    refine sg_gets hx hb hZ 2 rfl hS hown (hts _ (List.mem_cons_of_mem _ mw_174)) (fun _ h9 => h9) dX3_does_66 ?_
    refine lv_iload hx hb dX3_does_69 (lv_at hl 3 rfl) ?_
    refine sg_sald hx hb hZ 2 rfl hS (y := 0) (N := 8) (vp_in_iff.mpr (by decide)) dX3_does_71 ?_
    refine W.eq (g2 := F0 m 72 ls [.int (-1), .int 2, .ref (h 36)]) (by rfl) ?_
    refine lv_iload_n hx hb dX3_does_72 rfl (lv_at hl 1 rfl) ?_
    refine lv_iload hx hb dX3_does_73 (lv_at hl 2 rfl) ?_
    refine lv_iconst (v := 1) hx hb dX3_does_75 (by decide) ?_
    refine lv_iadd hx hb dX3_does_76 ?_
    refine W.eq (g2 := F0 m 77 ls [.int 1, .int x2, .int (-1), .int 2, .ref (h 36)]) (by rw [show (0 + 1 : Int32) = 1 from by decide]) ?_
    have c_12 : v_9 = 1 := Int32.toInt_inj.mp (by have k9 : (1 : Int32).toInt = 1 := (by decide); omega)
    have q_13 : (f_11 36 3).toInt = 1 := (congrArg Int32.toInt (show f_11 36 3 = 1 from (Eq.trans (by rw [ef_11, sg_up_s, sgu_s]) c_12))).trans (by decide)
    have q_14 : (f_11 36 3).toInt = 1 := (congrArg Int32.toInt (show f_11 36 3 = 1 from (Eq.trans (by rw [ef_11, sg_up_s, sgu_s]) c_12))).trans (by decide)
    refine sg_calli (va_runV (As := [.int 2, .int (-1), .int x2, .int 1]) (rest := []) ⟨hx, hb, hml, hown, hts⟩ (kX3_runs_2_m1_1_f1_f4 l D ca za h hh f_11 L Q hI x2 (Eq.trans (by rw [ef_11, sg_up_s, sgu_s]) c_12) (by rw [ef_11, sg_up_s, sgu_n (by decide)]; exact m_8) (by have k0 : (2 : Int32).toInt = 2 := (by decide); have k1 : ((-1) : Int32).toInt = (-1) := (by decide); have k3 : (1 : Int32).toInt = 1 := (by decide); omega) H.size) (cwV 4 hts (gw_V (fun _ h => List.mem_cons_of_mem _ h) mw_311 mw_312 mw_313 mw_47 mw_310) rfl rfl rfl (by decide +kernel) ⟨Nat.le_of_ble_eq_true rfl, Nat.le_of_ble_eq_true rfl⟩) (sg_preV (ci := 3) (C := RX3) (T := TX3) (N := 6) hA hK hP hS hZ 36 (by decide) rfl rfl) rfl rfl hl.1 rfl (lv_room (Nat.le_of_ble_eq_true rfl)) dX3_does_77 ⟨Nat.le_refl _, Nat.le_refl _⟩) hA hS (fun r_18 f_15 L_16 Q_17 H locs hq hP hS => ?_)
    obtain ⟨⟨hI, hk_f_15, eL9, eQ9⟩, hq, p_19⟩ := hq
    rw [eL9, eQ9] at hP; clear eL9 eQ9
    have hF : sgK WkX3_does_4_3_0_f0_f4 f f_15 := sgK.tr hF hk_f_15 (by decide)
    obtain ⟨v_20, ev_20⟩ : ∃ z : Int32, z = f_15 36 3 := ⟨_, rfl⟩
    have q_21 : 0 ≤ v_20.toInt ∧ v_20.toInt ≤ 19 := by rw [ev_20]; exact hI 36 3
    have q_22 : (f_15 36 3).toInt = v_20.toInt := (congrArg Int32.toInt (show f_15 36 3 = v_20 from ev_20.symm))
    have q_23 : (f_15 36 3).toInt = v_20.toInt := (congrArg Int32.toInt (show f_15 36 3 = v_20 from ev_20.symm))
    have k_24 : (2 : Int32).toInt = 2 := by decide
    have k_25 : ((-1) : Int32).toInt = (-1) := by decide
    have k_26 : (1 : Int32).toInt = 1 := by decide
    have q_27 : (f_15 36 3).toInt = v_20.toInt := (congrArg Int32.toInt (show f_15 36 3 = v_20 from ev_20.symm))
    have q_28 : (f_15 36 3).toInt = v_20.toInt := (congrArg Int32.toInt (show f_15 36 3 = v_20 from ev_20.symm))
    exact hret _ _ _ _ (r_18) f_15 L Q dX3_does_80 hP hS ⟨⟨hI, hF, rfl, rfl⟩, trivial, (by omega)⟩
  refine lv_iload_n hx hb dX3_does_0 rfl (lv_at hl 1 rfl) ?_
  refine lv_iload_n hx hb dX3_does_1 rfl (lv_at hl 2 rfl) ?_
  refine sg_calli (va_runS (As := [.int 4, .int 3]) (rest := []) ⟨hx, hb, hml, hown, hts⟩ (kX3_ownerOf_4_3 l D ca za h hh f L Q hI H.size) (va_cwS 2 hts (gw_S (fun _ h => List.mem_cons_of_mem _ h) mw_189 mw_190 mw_47 mw_188) rfl rfl rfl (by decide +kernel) ⟨Nat.le_of_ble_eq_true rfl, Nat.le_of_ble_eq_true rfl⟩) (sg_preS hA hK hP hS hZ) rfl rfl hl.1 rfl (lv_room (Nat.le_of_ble_eq_true rfl)) dX3_does_2 ⟨Nat.le_refl _, Nat.le_refl _⟩) hA hS (fun r_32 f_29 L_30 Q_31 H locs hq hP hS => ?_)
  obtain ⟨⟨ef9, eL9, eQ9⟩, hq⟩ := hq
  rw [ef9, eL9, eQ9] at hP; clear ef9 eL9 eQ9
  obtain rfl : r_32 = 0 := Int32.toInt_inj.mp (by have k9 : (0 : Int32).toInt = 0 := (by decide); omega)
  refine lv_istore (lv' := [(5, .int 0), (0, .ref (h 36)), (1, .int 4), (2, .int 3), (3, .int x2), (4, .int 0)]) hx hb dX3_does_5 hl (by decide) rfl (fun ls hl => ?_)
  refine lv_iload hx hb dX3_does_7 (lv_at hl 0 rfl) ?_
  refine lv_if_lt (tgt := 19) hx hb dX3_does_9 (by decide) (fun c => absurd c (by decide)) (fun c => ?_)
  refine lv_iload hx hb dX3_does_12 (lv_at hl 5 rfl) ?_
  refine lv_bipush (v := 40) hx hb dX3_does_14 (by decide) ?_
  refine lv_icmp_le (tgt := 21) hx hb dX3_does_16 (by decide) (fun c => ?_) (fun c => absurd c (by decide))
  refine sg_gets hx hb hZ 3 rfl hS hown (hts _ (List.mem_cons_of_mem _ mw_173)) (fun _ h9 => h9) dX3_does_21 ?_
  refine lv_iload hx hb dX3_does_24 (lv_at hl 0 rfl) ?_
  refine lv_iconst (v := 4) hx hb dX3_does_26 (by decide) ?_
  refine lv_imul hx hb dX3_does_27 ?_
  refine W.eq (g2 := F0 m 28 ls [.int 0, .ref (za 3)]) (by rw [show (0 * 4 : Int32) = 0 from by decide]) ?_
  refine lv_iload_n hx hb dX3_does_28 rfl (lv_at hl 3 rfl) ?_
  refine lv_iadd hx hb dX3_does_29 ?_
  refine W.eq (g2 := F0 m 30 ls [.int 3, .ref (za 3)]) (by rw [show (0 + 3 : Int32) = 3 from by decide]) ?_
  refine sg_sald hx hb hZ 3 rfl hS (y := 3) (N := 32) (vp_in_iff.mpr (by decide)) dX3_does_30 ?_
  refine W.eq (g2 := F0 m 31 ls [.int 2]) (by rfl) ?_
  refine lv_istore (lv' := [(6, .int 2), (5, .int 0), (0, .ref (h 36)), (1, .int 4), (2, .int 3), (3, .int x2), (4, .int 0)]) hx hb dX3_does_31 hl (by decide) rfl (fun ls hl => ?_)
  refine lv_aload_n hx hb dX3_does_33 rfl (lv_at hl 2 rfl) ?_
  refine sg_get (ci := 3) (v := .int 0) (C := RX3) (T := TX3) (N := 6) hx hb hts (fun w h => List.mem_cons_of_mem _ (gx_3 w h)) hown hK hP 36 (by decide) rfl rfl 3 (by decide) (hts _ (List.mem_cons_of_mem _ mw_16)) (fun _ h9 => h9) (congrArg (fun z => some (Value.int z)) (show f 36 3 = 0 from hf_36_3)) dX3_does_34 ?_
  refine lv_bipush (v := 24) hx hb dX3_does_37 (by decide) ?_
  refine lv_icmp_ge (tgt := 53) hx hb dX3_does_39 (by decide) (fun c => absurd c (by decide)) (fun c => ?_)
  refine lv_aload_n hx hb dX3_does_42 rfl (lv_at hl 2 rfl) ?_
  refine sg_get (ci := 3) (v := .ref (h 38)) (C := RX3) (T := TX3) (N := 6) hx hb hts (fun w h => List.mem_cons_of_mem _ (gx_3 w h)) hown hK hP 36 (by decide) rfl rfl 1 (by decide) (hts _ (List.mem_cons_of_mem _ mw_191)) (fun _ h9 => h9) rfl dX3_does_43 ?_
  refine lv_aload_n hx hb dX3_does_46 rfl (lv_at hl 2 rfl) ?_
  refine sg_get (ci := 3) (v := .int 0) (C := RX3) (T := TX3) (N := 6) hx hb hts (fun w h => List.mem_cons_of_mem _ (gx_3 w h)) hown hK hP 36 (by decide) rfl rfl 3 (by decide) (hts _ (List.mem_cons_of_mem _ mw_16)) (fun _ h9 => h9) (congrArg (fun z => some (Value.int z)) (show f 36 3 = 0 from hf_36_3)) dX3_does_47 ?_
  refine lv_iload hx hb dX3_does_50 (lv_at hl 0 rfl) ?_
  refine sg_iast hx hb hh hA hK hP hS 38 (by decide) 0 (fun _ => rfl) rfl (i := 0) (x := 2) (vp_in_iff.mpr (by decide)) dX3_does_52 (fun f_33 H locs ef_33 hP hS => ?_)
  have hI : sgI loX hiX f_33 := by rw [ef_33]; exact sgI.put hI 38 (Int32.toNatClampNeg 0) (show 0 ≤ (2 : Int32).toInt ∧ (2 : Int32).toInt ≤ 81 from by decide)
  have hF : sgK WkX3_does_4_3_0_f0_f4 f f_33 := sgK.put hF ef_33 (by rfl)
  exact blk_53 f_33 _ _ _ (by have zz36_3 : (f_33 36 3).toInt = 0 := (congrArg Int32.toInt (show f_33 36 3 = 0 from (by rw [ef_33, sg_up_n (by decide)]; exact hf_36_3))).trans (by decide); omega) (by have zz36_4 : (f_33 36 4).toInt = 4 := (congrArg Int32.toInt (show f_33 36 4 = 4 from (by rw [ef_33, sg_up_n (by decide)]; exact hf_36_4))).trans (by decide); omega) hI hF hP hS (lv_sub hl [2, 5, 6, 1, 0] rfl)

set_option maxHeartbeats 4000000 in
set_option maxRecDepth 100000 in
theorem kX3_ownerOf_5_3 (l : Launch) (D : va_G) (ca : Nat → ClassId) (za h : Nat → Nat) (hh : sgH 52 h) (f : sg_F) (L : sg_L) (Q : sg_Q) (hI : sgI loX hiX f) (sz : Nat) : Met l yX3_ownerOf gwX3_ownerOf { frames := 0, cells := 0, slots := 0, locals := 0 } (sgP D vwCl (tyX ca) 52 h (eX ca h) zcX za f L Q sz [.int 5, .int 3]) (sgQi D vwCl 52 h (eX ca h) sz (fun r f1 L1 Q1 => ((f1 = f ∧ L1 = L ∧ Q1 = Q) ∧ (5 ≤ r.toInt ∧ r.toInt ≤ 5)))) 0 0 (sgA 52 h sz) := by
  refine sg_ofWi (cc := cX3_ownerOf) (maxL := 4) RX3 (by decide) rfl rfl (Nat.le_of_ble_eq_true rfl) ?_
  intro p e s m below meth cd Qz ls hx hb hml hown hts hK hZ hP hS hl hret
  have hA := sgY.self (n := 52) (h := h) (sz := s.heap.size)
  have hl : lv_has ls 4 [(0, .int 5), (1, .int 3)] := hl
  obtain ⟨H, hH⟩ : ∃ z : Heap, z = s.heap := ⟨_, rfl⟩
  obtain ⟨locs, hlo⟩ : ∃ z : List Loc, z = [] := ⟨_, rfl⟩
  have hP : va_P D vwCl (sgw 52 h (eX ca h) f L Q) H := by rw [hH]; exact hP
  have hS : va_S (sgA 52 h s.heap.size) s.heap H locs := by rw [hH, hlo]; exact hS
  suffices hgo : W p l e ({ frames := 0, cells := 0, slots := 0, locals := 0 }) s m ([.int 5, .int 3] : List Value).toArray below meth cd H locs 0 0 Qz (F0 m 0 ls []) by rw [hH, hlo] at hgo; exact hgo
  clear hH hlo
  refine lv_iload_n hx hb dX3_ownerOf_0 rfl (lv_at hl 0 rfl) ?_
  refine lv_istore_n (lv' := [(2, .int 5), (0, .int 5), (1, .int 3)]) hx hb dX3_ownerOf_1 rfl hl (by decide) rfl (fun ls hl => ?_)
  refine lv_iconst (v := 0) hx hb dX3_ownerOf_2 (by decide) ?_
  refine lv_istore_n (lv' := [(3, .int 0), (2, .int 5), (0, .int 5), (1, .int 3)]) hx hb dX3_ownerOf_3 rfl hl (by decide) rfl (fun ls hl => ?_)
  refine lv_iload_n hx hb dX3_ownerOf_4 rfl (lv_at hl 0 rfl) ?_
  refine lv_bipush (v := 8) hx hb dX3_ownerOf_5 (by decide) ?_
  refine lv_icmp_ge (tgt := 40) hx hb dX3_ownerOf_7 (by decide) (fun c => absurd c (by decide)) (fun c => ?_)
  refine lv_iload_n hx hb dX3_ownerOf_10 rfl (lv_at hl 1 rfl) ?_
  refine lv_if_lt (tgt := 40) hx hb dX3_ownerOf_11 (by decide) (fun c => absurd c (by decide)) (fun c => ?_)
  refine sg_gets hx hb hZ 3 rfl hS hown (hts _ (List.mem_cons_of_mem _ mw_173)) (fun _ h9 => h9) dX3_ownerOf_14 ?_
  refine lv_iload_n hx hb dX3_ownerOf_17 rfl (lv_at hl 1 rfl) ?_
  refine lv_iconst (v := 4) hx hb dX3_ownerOf_18 (by decide) ?_
  refine lv_imul hx hb dX3_ownerOf_19 ?_
  refine W.eq (g2 := F0 m 20 ls [.int 20, .ref (za 3)]) (by rw [show (5 * 4 : Int32) = 20 from by decide]) ?_
  refine lv_iload_n hx hb dX3_ownerOf_20 rfl (lv_at hl 3 rfl) ?_
  refine lv_iadd hx hb dX3_ownerOf_21 ?_
  refine W.eq (g2 := F0 m 22 ls [.int 23, .ref (za 3)]) (by rw [show (20 + 3 : Int32) = 23 from by decide]) ?_
  refine sg_sald hx hb hZ 3 rfl hS (y := 23) (N := 32) (vp_in_iff.mpr (by decide)) dX3_ownerOf_22 ?_
  refine W.eq (g2 := F0 m 23 ls [.int 60]) (by rfl) ?_
  refine lv_if_eq (tgt := 28) hx hb dX3_ownerOf_23 (by decide) (fun c => absurd c (by decide)) (fun c => ?_)
  refine lv_iload_n hx hb dX3_ownerOf_26 rfl (lv_at hl 1 rfl) ?_
  have k99 : (5 : Int32).toInt = 5 := (by decide)
  exact hret _ _ _ _ (5) f L Q dX3_ownerOf_27 hP hS ⟨⟨rfl, rfl, rfl⟩, (by decide)⟩

set_option maxHeartbeats 4000000 in
set_option maxRecDepth 100000 in
theorem kX3_runs_1_m1_6_f6_f5 (l : Launch) (D : va_G) (ca : Nat → ClassId) (za h : Nat → Nat) (hh : sgH 52 h) (f : sg_F) (L : sg_L) (Q : sg_Q) (hI : sgI loX hiX f) (x2 : Int32) (hf_36_3 : f 36 3 = 6) (hf_36_4 : f 36 4 = 5) (p0 : 6 ≤ (f 36 3).toInt ∧ (f 36 3).toInt ≤ 6) (sz : Nat) : Met l yX3_runs gwX3_runs { frames := 0, cells := 0, slots := 0, locals := 0 } (sgP D vwCl (tyX ca) 52 h (eX ca h) zcX za f L Q sz [.ref (h 36), .int 1, .int (-1), .int x2, .int 6]) (sgQi D vwCl 52 h (eX ca h) sz (fun r f1 L1 Q1 => ((f1 = f ∧ L1 = L ∧ Q1 = Q) ∧ True ∧ (6 ≤ (f1 36 3).toInt ∧ (f1 36 3).toInt ≤ 6)))) 0 0 (sgA 52 h sz) := by
  refine sg_ofWi (cc := cX3_runs) (maxL := 5) RX3 (by decide) rfl rfl (Nat.le_of_ble_eq_true rfl) ?_
  intro p e s m below meth cd Qz ls hx hb hml hown hts hK hZ hP hS hl hret
  have hA := sgY.self (n := 52) (h := h) (sz := s.heap.size)
  have hl : lv_has ls 5 [(0, .ref (h 36)), (1, .int 1), (2, .int (-1)), (3, .int x2), (4, .int 6)] := hl
  obtain ⟨H, hH⟩ : ∃ z : Heap, z = s.heap := ⟨_, rfl⟩
  obtain ⟨locs, hlo⟩ : ∃ z : List Loc, z = [] := ⟨_, rfl⟩
  have hP : va_P D vwCl (sgw 52 h (eX ca h) f L Q) H := by rw [hH]; exact hP
  have hS : va_S (sgA 52 h s.heap.size) s.heap H locs := by rw [hH, hlo]; exact hS
  suffices hgo : W p l e ({ frames := 0, cells := 0, slots := 0, locals := 0 }) s m ([.ref (h 36), .int 1, .int (-1), .int x2, .int 6] : List Value).toArray below meth cd H locs 0 0 Qz (F0 m 0 ls []) by rw [hH, hlo] at hgo; exact hgo
  clear hH hlo
  have o_1 : (f 36 3).toInt = 6 := (congrArg Int32.toInt (show f 36 3 = 6 from hf_36_3)).trans (by decide)
  refine lv_iload_n hx hb dX3_runs_0 rfl (lv_at hl 1 rfl) ?_
  refine lv_lookup (x := 1) (off := 115) (tgt := 116) hx hb dX3_runs_1 (by decide) (by decide) (by decide) ?_
  refine lv_iload_n hx hb dX3_runs_116 rfl (lv_at hl 3 rfl) ?_
  refine lv_aload_n hx hb dX3_runs_117 rfl (lv_at hl 0 rfl) ?_
  refine sg_get (ci := 3) (v := .int (f 36 5)) (C := RX3) (T := TX3) (N := 6) hx hb hts (fun w h => List.mem_cons_of_mem _ (gx_3 w h)) hown hK hP 36 (by decide) rfl rfl 5 (by decide) (hts _ (List.mem_cons_of_mem _ mw_106)) (fun _ h9 => h9) rfl dX3_runs_118 ?_
  refine lv_topi (fun v_2 ev_2 => ?_)
  have q_3 : 0 ≤ v_2.toInt ∧ v_2.toInt ≤ 49 := by rw [ev_2]; exact hI 36 5
  refine lv_iadd hx hb dX3_runs_121 ?_
  refine lv_topi (fun v_4 ev_4 => ?_)
  have q_5 : (f 36 3).toInt = 6 := (congrArg Int32.toInt (show f 36 3 = 6 from hf_36_3)).trans (by decide)
  have q_6 : (f 36 3).toInt = 6 := (congrArg Int32.toInt (show f 36 3 = 6 from hf_36_3)).trans (by decide)
  exact hret _ _ _ _ (v_4) f L Q dX3_runs_122 hP hS ⟨⟨rfl, rfl, rfl⟩, trivial, (by omega)⟩

abbrev WkX3_does_5_0_5_f5_f5 : List (Nat × Nat × Option Nat) := [(36, 36, some 3), (38, 38, none)]
set_option maxHeartbeats 4000000 in
set_option maxRecDepth 100000 in
theorem kX3_does_5_0_5_f5_f5 (l : Launch) (D : va_G) (ca : Nat → ClassId) (za h : Nat → Nat) (hh : sgH 52 h) (f : sg_F) (L : sg_L) (Q : sg_Q) (hI : sgI loX hiX f) (x2 : Int32) (hf_36_3 : f 36 3 = 5) (hf_36_4 : f 36 4 = 5) (p0 : 5 ≤ (f 36 3).toInt ∧ (f 36 3).toInt ≤ 5) (sz : Nat) : Met l yX3_does gwX3_does { frames := 1, cells := 0, slots := 0, locals := 24 } (sgP D vwCl (tyX ca) 52 h (eX ca h) zcX za f L Q sz [.ref (h 36), .int 5, .int 0, .int x2, .int 5]) (sgQi D vwCl 52 h (eX ca h) sz (fun r f1 L1 Q1 => ((sgI loX hiX f1 ∧ sgK WkX3_does_5_0_5_f5_f5 f f1 ∧ L1 = L ∧ Q1 = Q) ∧ True ∧ (6 ≤ (f1 36 3).toInt ∧ (f1 36 3).toInt ≤ 6)))) 0 0 (sgA 52 h sz) := by
  refine sg_ofWi (cc := cX3_does) (maxL := 7) RX3 (by decide) rfl rfl (Nat.le_of_ble_eq_true rfl) ?_
  intro p e s m below meth cd Qz ls hx hb hml hown hts hK hZ hP hS hl hret
  have hA := sgY.self (n := 52) (h := h) (sz := s.heap.size)
  have hl : lv_has ls 7 [(0, .ref (h 36)), (1, .int 5), (2, .int 0), (3, .int x2), (4, .int 5)] := hl
  obtain ⟨H, hH⟩ : ∃ z : Heap, z = s.heap := ⟨_, rfl⟩
  obtain ⟨locs, hlo⟩ : ∃ z : List Loc, z = [] := ⟨_, rfl⟩
  have hP : va_P D vwCl (sgw 52 h (eX ca h) f L Q) H := by rw [hH]; exact hP
  have hS : va_S (sgA 52 h s.heap.size) s.heap H locs := by rw [hH, hlo]; exact hS
  suffices hgo : W p l e ({ frames := 1, cells := 0, slots := 0, locals := 24 }) s m ([.ref (h 36), .int 5, .int 0, .int x2, .int 5] : List Value).toArray below meth cd H locs 0 0 Qz (F0 m 0 ls []) by rw [hH, hlo] at hgo; exact hgo
  clear hH hlo
  have o_1 : (f 36 3).toInt = 5 := (congrArg Int32.toInt (show f 36 3 = 5 from hf_36_3)).trans (by decide)
  have hF : sgK WkX3_does_5_0_5_f5_f5 f f := sgK.rf
  have blk_53 : ∀ (fp_53 : sg_F) (H : Heap) (locs : List Loc) (ls : Array Slot), 5 ≤ (fp_53 36 3).toInt ∧ (fp_53 36 3).toInt ≤ 5 → 5 ≤ (fp_53 36 4).toInt ∧ (fp_53 36 4).toInt ≤ 5 → sgI loX hiX fp_53 → sgK WkX3_does_5_0_5_f5_f5 f fp_53 → va_P D vwCl (sgw 52 h (eX ca h) fp_53 L Q) H → va_S (sgA 52 h s.heap.size) s.heap H locs → lv_has ls 7 [(0, .ref (h 36)), (3, .int x2), (4, .int 5), (5, .int 0), (6, .int 1)] → W p l e ({ frames := 1, cells := 0, slots := 0, locals := 24 }) s m ([.ref (h 36), .int 5, .int 0, .int x2, .int 5] : List Value).toArray below meth cd H locs 0 0 Qz (F0 m 53 ls []) := by
    intro fp_53 H locs ls hy0_53 hy1_53 hI hF hP hS hl
    obtain ⟨v_2, ev_2⟩ : ∃ z : Int32, z = fp_53 36 3 := ⟨_, rfl⟩
    have q_3 : 0 ≤ v_2.toInt ∧ v_2.toInt ≤ 19 := by rw [ev_2]; exact hI 36 3
    have q_4 : (fp_53 36 3).toInt = v_2.toInt := by rw [ev_2]
    obtain ⟨v_5, ev_5⟩ : ∃ z : Int32, z = fp_53 36 4 := ⟨_, rfl⟩
    have q_6 : 0 ≤ v_5.toInt ∧ v_5.toInt ≤ 7 := by rw [ev_5]; exact hI 36 4
    have q_7 : (fp_53 36 4).toInt = v_5.toInt := by rw [ev_5]
    have m_8 : fp_53 36 4 = 5 := (hF 36 4 (by decide)).trans hf_36_4
    refine lv_aload_n hx hb dX3_does_53 rfl (lv_at hl 0 rfl) ?_
    refine lv_dup hx hb dX3_does_54 rfl ?_
    refine sg_get (ci := 3) (v := .int v_2) (C := RX3) (T := TX3) (N := 6) hx hb hts (fun w h => List.mem_cons_of_mem _ (gx_3 w h)) hown hK hP 36 (by decide) rfl rfl 3 (by decide) (hts _ (List.mem_cons_of_mem _ mw_16)) (fun _ h9 => h9) (congrArg (fun z => some (Value.int z)) (show fp_53 36 3 = v_2 from ev_2.symm)) dX3_does_55 ?_
    refine lv_iconst (v := 1) hx hb dX3_does_58 (by decide) ?_
    refine lv_iadd hx hb dX3_does_59 ?_
    refine lv_topi (fun v_9 ev_9 => ?_)
    have q_10 : v_9.toInt = v_2.toInt + 1 := by rw [ev_9]; have k1 : (1 : Int32).toInt = 1 := (by decide); exact (bn_addI (by omega) (by omega)).trans (by omega)
    refine sg_put (ci := 3) (x := v_9) (ty := .int) (C := RX3) (T := TX3) (N := 6) hx hb hts (fun w h => List.mem_cons_of_mem _ (gx_3 w h)) tyX3 tyX3_ok nmX3 hown hh hA hK hP hS 36 (by decide) rfl rfl 3 (by decide) (hts _ (List.mem_cons_of_mem _ mw_16)) (fun _ h9 => h9) rfl rfl (by decide +kernel) rfl rfl (Nat.le_of_ble_eq_true rfl) dX3_does_60 (fun f_11 H locs ef_11 hP hS => ?_)
    have hI : sgI loX hiX f_11 := by rw [ef_11]; exact sgI.put hI 36 3 (show 0 ≤ (v_9 : Int32).toInt ∧ (v_9 : Int32).toInt ≤ 19 from by omega)
    have hF : sgK WkX3_does_5_0_5_f5_f5 f f_11 := sgK.put hF ef_11 (by rfl)
    refine lv_aload_n hx hb dX3_does_63 rfl (lv_at hl 0 rfl) ?_
    refine lv_iload hx hb dX3_does_64 (lv_at hl 4 rfl) ?_
    refine sg_gets hx hb hZ 2 rfl hS hown (hts _ (List.mem_cons_of_mem _ mw_174)) (fun _ h9 => h9) dX3_does_66 ?_
    refine lv_iload hx hb dX3_does_69 (lv_at hl 3 rfl) ?_
    refine sg_sald hx hb hZ 2 rfl hS (y := 0) (N := 8) (vp_in_iff.mpr (by decide)) dX3_does_71 ?_
    refine W.eq (g2 := F0 m 72 ls [.int (-1), .int 1, .ref (h 36)]) (by rfl) ?_
    refine lv_iload_n hx hb dX3_does_72 rfl (lv_at hl 1 rfl) ?_
    refine lv_iload hx hb dX3_does_73 (lv_at hl 2 rfl) ?_
    refine lv_iconst (v := 1) hx hb dX3_does_75 (by decide) ?_
    refine lv_iadd hx hb dX3_does_76 ?_
    refine W.eq (g2 := F0 m 77 ls [.int 6, .int x2, .int (-1), .int 1, .ref (h 36)]) (by rw [show (5 + 1 : Int32) = 6 from by decide]) ?_
    have c_12 : v_9 = 6 := Int32.toInt_inj.mp (by have k9 : (6 : Int32).toInt = 6 := (by decide); omega)
    have q_13 : (f_11 36 3).toInt = 6 := (congrArg Int32.toInt (show f_11 36 3 = 6 from (Eq.trans (by rw [ef_11, sg_up_s, sgu_s]) c_12))).trans (by decide)
    have q_14 : (f_11 36 3).toInt = 6 := (congrArg Int32.toInt (show f_11 36 3 = 6 from (Eq.trans (by rw [ef_11, sg_up_s, sgu_s]) c_12))).trans (by decide)
    refine sg_calli (va_runV (As := [.int 1, .int (-1), .int x2, .int 6]) (rest := []) ⟨hx, hb, hml, hown, hts⟩ (kX3_runs_1_m1_6_f6_f5 l D ca za h hh f_11 L Q hI x2 (Eq.trans (by rw [ef_11, sg_up_s, sgu_s]) c_12) (by rw [ef_11, sg_up_s, sgu_n (by decide)]; exact m_8) (by have k0 : (1 : Int32).toInt = 1 := (by decide); have k1 : ((-1) : Int32).toInt = (-1) := (by decide); have k3 : (6 : Int32).toInt = 6 := (by decide); omega) H.size) (cwV 4 hts (gw_V (fun _ h => List.mem_cons_of_mem _ h) mw_311 mw_312 mw_313 mw_47 mw_310) rfl rfl rfl (by decide +kernel) ⟨Nat.le_of_ble_eq_true rfl, Nat.le_of_ble_eq_true rfl⟩) (sg_preV (ci := 3) (C := RX3) (T := TX3) (N := 6) hA hK hP hS hZ 36 (by decide) rfl rfl) rfl rfl hl.1 rfl (lv_room (Nat.le_of_ble_eq_true rfl)) dX3_does_77 ⟨Nat.le_refl _, Nat.le_refl _⟩) hA hS (fun r_18 f_15 L_16 Q_17 H locs hq hP hS => ?_)
    obtain ⟨⟨ef9, eL9, eQ9⟩, hq, p_19⟩ := hq
    rw [ef9, eL9, eQ9] at hP; clear ef9 eL9 eQ9
    have q_20 : (f_11 36 3).toInt = 6 := (congrArg Int32.toInt (show f_11 36 3 = 6 from (Eq.trans (by rw [ef_11, sg_up_s, sgu_s]) c_12))).trans (by decide)
    have q_21 : (f_11 36 3).toInt = 6 := (congrArg Int32.toInt (show f_11 36 3 = 6 from (Eq.trans (by rw [ef_11, sg_up_s, sgu_s]) c_12))).trans (by decide)
    have k_22 : (1 : Int32).toInt = 1 := by decide
    have k_23 : ((-1) : Int32).toInt = (-1) := by decide
    have k_24 : (6 : Int32).toInt = 6 := by decide
    have q_25 : (f_11 36 3).toInt = 6 := (congrArg Int32.toInt (show f_11 36 3 = 6 from (Eq.trans (by rw [ef_11, sg_up_s, sgu_s]) c_12))).trans (by decide)
    have q_26 : (f_11 36 3).toInt = 6 := (congrArg Int32.toInt (show f_11 36 3 = 6 from (Eq.trans (by rw [ef_11, sg_up_s, sgu_s]) c_12))).trans (by decide)
    exact hret _ _ _ _ (r_18) f_11 L Q dX3_does_80 hP hS ⟨⟨hI, hF, rfl, rfl⟩, trivial, (by omega)⟩
  refine lv_iload_n hx hb dX3_does_0 rfl (lv_at hl 1 rfl) ?_
  refine lv_iload_n hx hb dX3_does_1 rfl (lv_at hl 2 rfl) ?_
  refine sg_calli (va_runS (As := [.int 5, .int 0]) (rest := []) ⟨hx, hb, hml, hown, hts⟩ (kX3_ownerOf_5_0 l D ca za h hh f L Q hI H.size) (va_cwS 2 hts (gw_S (fun _ h => List.mem_cons_of_mem _ h) mw_189 mw_190 mw_47 mw_188) rfl rfl rfl (by decide +kernel) ⟨Nat.le_of_ble_eq_true rfl, Nat.le_of_ble_eq_true rfl⟩) (sg_preS hA hK hP hS hZ) rfl rfl hl.1 rfl (lv_room (Nat.le_of_ble_eq_true rfl)) dX3_does_2 ⟨Nat.le_refl _, Nat.le_refl _⟩) hA hS (fun r_30 f_27 L_28 Q_29 H locs hq hP hS => ?_)
  obtain ⟨⟨ef9, eL9, eQ9⟩, hq⟩ := hq
  rw [ef9, eL9, eQ9] at hP; clear ef9 eL9 eQ9
  obtain rfl : r_30 = 0 := Int32.toInt_inj.mp (by have k9 : (0 : Int32).toInt = 0 := (by decide); omega)
  refine lv_istore (lv' := [(5, .int 0), (0, .ref (h 36)), (1, .int 5), (2, .int 0), (3, .int x2), (4, .int 5)]) hx hb dX3_does_5 hl (by decide) rfl (fun ls hl => ?_)
  refine lv_iload hx hb dX3_does_7 (lv_at hl 0 rfl) ?_
  refine lv_if_lt (tgt := 19) hx hb dX3_does_9 (by decide) (fun c => absurd c (by decide)) (fun c => ?_)
  refine lv_iload hx hb dX3_does_12 (lv_at hl 5 rfl) ?_
  refine lv_bipush (v := 40) hx hb dX3_does_14 (by decide) ?_
  refine lv_icmp_le (tgt := 21) hx hb dX3_does_16 (by decide) (fun c => ?_) (fun c => absurd c (by decide))
  refine sg_gets hx hb hZ 3 rfl hS hown (hts _ (List.mem_cons_of_mem _ mw_173)) (fun _ h9 => h9) dX3_does_21 ?_
  refine lv_iload hx hb dX3_does_24 (lv_at hl 0 rfl) ?_
  refine lv_iconst (v := 4) hx hb dX3_does_26 (by decide) ?_
  refine lv_imul hx hb dX3_does_27 ?_
  refine W.eq (g2 := F0 m 28 ls [.int 0, .ref (za 3)]) (by rw [show (0 * 4 : Int32) = 0 from by decide]) ?_
  refine lv_iload_n hx hb dX3_does_28 rfl (lv_at hl 3 rfl) ?_
  refine lv_iadd hx hb dX3_does_29 ?_
  refine W.eq (g2 := F0 m 30 ls [.int 0, .ref (za 3)]) (by rw [show (0 + 0 : Int32) = 0 from by decide]) ?_
  refine sg_sald hx hb hZ 3 rfl hS (y := 0) (N := 32) (vp_in_iff.mpr (by decide)) dX3_does_30 ?_
  refine W.eq (g2 := F0 m 31 ls [.int 1]) (by rfl) ?_
  refine lv_istore (lv' := [(6, .int 1), (5, .int 0), (0, .ref (h 36)), (1, .int 5), (2, .int 0), (3, .int x2), (4, .int 5)]) hx hb dX3_does_31 hl (by decide) rfl (fun ls hl => ?_)
  refine lv_aload_n hx hb dX3_does_33 rfl (lv_at hl 2 rfl) ?_
  refine sg_get (ci := 3) (v := .int 5) (C := RX3) (T := TX3) (N := 6) hx hb hts (fun w h => List.mem_cons_of_mem _ (gx_3 w h)) hown hK hP 36 (by decide) rfl rfl 3 (by decide) (hts _ (List.mem_cons_of_mem _ mw_16)) (fun _ h9 => h9) (congrArg (fun z => some (Value.int z)) (show f 36 3 = 5 from hf_36_3)) dX3_does_34 ?_
  refine lv_bipush (v := 24) hx hb dX3_does_37 (by decide) ?_
  refine lv_icmp_ge (tgt := 53) hx hb dX3_does_39 (by decide) (fun c => absurd c (by decide)) (fun c => ?_)
  refine lv_aload_n hx hb dX3_does_42 rfl (lv_at hl 2 rfl) ?_
  refine sg_get (ci := 3) (v := .ref (h 38)) (C := RX3) (T := TX3) (N := 6) hx hb hts (fun w h => List.mem_cons_of_mem _ (gx_3 w h)) hown hK hP 36 (by decide) rfl rfl 1 (by decide) (hts _ (List.mem_cons_of_mem _ mw_191)) (fun _ h9 => h9) rfl dX3_does_43 ?_
  refine lv_aload_n hx hb dX3_does_46 rfl (lv_at hl 2 rfl) ?_
  refine sg_get (ci := 3) (v := .int 5) (C := RX3) (T := TX3) (N := 6) hx hb hts (fun w h => List.mem_cons_of_mem _ (gx_3 w h)) hown hK hP 36 (by decide) rfl rfl 3 (by decide) (hts _ (List.mem_cons_of_mem _ mw_16)) (fun _ h9 => h9) (congrArg (fun z => some (Value.int z)) (show f 36 3 = 5 from hf_36_3)) dX3_does_47 ?_
  refine lv_iload hx hb dX3_does_50 (lv_at hl 0 rfl) ?_
  refine sg_iast hx hb hh hA hK hP hS 38 (by decide) 0 (fun _ => rfl) rfl (i := 5) (x := 1) (vp_in_iff.mpr (by decide)) dX3_does_52 (fun f_31 H locs ef_31 hP hS => ?_)
  have hI : sgI loX hiX f_31 := by rw [ef_31]; exact sgI.put hI 38 (Int32.toNatClampNeg 5) (show 0 ≤ (1 : Int32).toInt ∧ (1 : Int32).toInt ≤ 81 from by decide)
  have hF : sgK WkX3_does_5_0_5_f5_f5 f f_31 := sgK.put hF ef_31 (by rfl)
  exact blk_53 f_31 _ _ _ (by have zz36_3 : (f_31 36 3).toInt = 5 := (congrArg Int32.toInt (show f_31 36 3 = 5 from (by rw [ef_31, sg_up_n (by decide)]; exact hf_36_3))).trans (by decide); omega) (by have zz36_4 : (f_31 36 4).toInt = 5 := (congrArg Int32.toInt (show f_31 36 4 = 5 from (by rw [ef_31, sg_up_n (by decide)]; exact hf_36_4))).trans (by decide); omega) hI hF hP hS (lv_sub hl [2, 5, 6, 1, 0] rfl)

abbrev WkX3_runs_10_m1_5_f5_f5 : List (Nat × Nat × Option Nat) := [(36, 36, some 3), (38, 38, none)]
set_option maxHeartbeats 4000000 in
set_option maxRecDepth 100000 in
theorem kX3_runs_10_m1_5_f5_f5 (l : Launch) (D : va_G) (ca : Nat → ClassId) (za h : Nat → Nat) (hh : sgH 52 h) (f : sg_F) (L : sg_L) (Q : sg_Q) (hI : sgI loX hiX f) (x2 : Int32) (hf_36_3 : f 36 3 = 5) (hf_36_4 : f 36 4 = 5) (p0 : 5 ≤ (f 36 3).toInt ∧ (f 36 3).toInt ≤ 5) (sz : Nat) : Met l yX3_runs gwX3_runs { frames := 2, cells := 0, slots := 0, locals := 50 } (sgP D vwCl (tyX ca) 52 h (eX ca h) zcX za f L Q sz [.ref (h 36), .int 10, .int (-1), .int x2, .int 5]) (sgQi D vwCl 52 h (eX ca h) sz (fun r f1 L1 Q1 => ((sgI loX hiX f1 ∧ sgK WkX3_runs_10_m1_5_f5_f5 f f1 ∧ L1 = L ∧ Q1 = Q) ∧ True ∧ (6 ≤ (f1 36 3).toInt ∧ (f1 36 3).toInt ≤ 6)))) 0 0 (sgA 52 h sz) := by
  refine sg_ofWi (cc := cX3_runs) (maxL := 5) RX3 (by decide) rfl rfl (Nat.le_of_ble_eq_true rfl) ?_
  intro p e s m below meth cd Qz ls hx hb hml hown hts hK hZ hP hS hl hret
  have hA := sgY.self (n := 52) (h := h) (sz := s.heap.size)
  have hl : lv_has ls 5 [(0, .ref (h 36)), (1, .int 10), (2, .int (-1)), (3, .int x2), (4, .int 5)] := hl
  obtain ⟨H, hH⟩ : ∃ z : Heap, z = s.heap := ⟨_, rfl⟩
  obtain ⟨locs, hlo⟩ : ∃ z : List Loc, z = [] := ⟨_, rfl⟩
  have hP : va_P D vwCl (sgw 52 h (eX ca h) f L Q) H := by rw [hH]; exact hP
  have hS : va_S (sgA 52 h s.heap.size) s.heap H locs := by rw [hH, hlo]; exact hS
  suffices hgo : W p l e ({ frames := 2, cells := 0, slots := 0, locals := 50 }) s m ([.ref (h 36), .int 10, .int (-1), .int x2, .int 5] : List Value).toArray below meth cd H locs 0 0 Qz (F0 m 0 ls []) by rw [hH, hlo] at hgo; exact hgo
  clear hH hlo
  have o_1 : (f 36 3).toInt = 5 := (congrArg Int32.toInt (show f 36 3 = 5 from hf_36_3)).trans (by decide)
  have hF : sgK WkX3_runs_10_m1_5_f5_f5 f f := sgK.rf
  refine lv_iload_n hx hb dX3_runs_0 rfl (lv_at hl 1 rfl) ?_
  refine lv_lookup (x := 10) (off := 148) (tgt := 149) hx hb dX3_runs_1 (by decide) (by decide) (by decide) ?_
  refine lv_aload_n hx hb dX3_runs_149 rfl (lv_at hl 0 rfl) ?_
  refine lv_aload_n hx hb dX3_runs_150 rfl (lv_at hl 0 rfl) ?_
  refine sg_get (ci := 3) (v := .int 5) (C := RX3) (T := TX3) (N := 6) hx hb hts (fun w h => List.mem_cons_of_mem _ (gx_3 w h)) hown hK hP 36 (by decide) rfl rfl 4 (by decide) (hts _ (List.mem_cons_of_mem _ mw_105)) (fun _ h9 => h9) (congrArg (fun z => some (Value.int z)) (show f 36 4 = 5 from hf_36_4)) dX3_runs_151 ?_
  refine lv_iconst (v := 0) hx hb dX3_runs_154 (by decide) ?_
  refine lv_iload_n hx hb dX3_runs_155 rfl (lv_at hl 3 rfl) ?_
  refine lv_iload hx hb dX3_runs_156 (lv_at hl 4 rfl) ?_
  have q_2 : (f 36 3).toInt = 5 := (congrArg Int32.toInt (show f 36 3 = 5 from hf_36_3)).trans (by decide)
  have q_3 : (f 36 3).toInt = 5 := (congrArg Int32.toInt (show f 36 3 = 5 from hf_36_3)).trans (by decide)
  refine sg_calli (va_runV (As := [.int 5, .int 0, .int x2, .int 5]) (rest := []) ⟨hx, hb, hml, hown, hts⟩ (kX3_does_5_0_5_f5_f5 l D ca za h hh f L Q hI x2 hf_36_3 hf_36_4 (by have k0 : (5 : Int32).toInt = 5 := (by decide); have k1 : (0 : Int32).toInt = 0 := (by decide); have k3 : (5 : Int32).toInt = 5 := (by decide); omega) H.size) (cwV 4 hts (gw_V (fun _ h => List.mem_cons_of_mem _ h) mw_318 mw_319 mw_320 mw_47 mw_317) rfl rfl rfl (by decide +kernel) ⟨Nat.le_of_ble_eq_true rfl, Nat.le_of_ble_eq_true rfl⟩) (sg_preV (ci := 3) (C := RX3) (T := TX3) (N := 6) hA hK hP hS hZ 36 (by decide) rfl rfl) rfl rfl hl.1 rfl (lv_room (Nat.le_of_ble_eq_true rfl)) dX3_runs_158 ⟨Nat.le_refl _, Nat.le_refl _⟩) hA hS (fun r_7 f_4 L_5 Q_6 H locs hq hP hS => ?_)
  obtain ⟨⟨hI, hk_f_4, eL9, eQ9⟩, hq, p_8⟩ := hq
  rw [eL9, eQ9] at hP; clear eL9 eQ9
  have hF : sgK WkX3_runs_10_m1_5_f5_f5 f f_4 := sgK.tr hF hk_f_4 (by decide)
  obtain ⟨v_9, ev_9⟩ : ∃ z : Int32, z = f_4 36 3 := ⟨_, rfl⟩
  have q_10 : 0 ≤ v_9.toInt ∧ v_9.toInt ≤ 19 := by rw [ev_9]; exact hI 36 3
  have q_11 : (f_4 36 3).toInt = v_9.toInt := (congrArg Int32.toInt (show f_4 36 3 = v_9 from ev_9.symm))
  have q_12 : (f_4 36 3).toInt = v_9.toInt := (congrArg Int32.toInt (show f_4 36 3 = v_9 from ev_9.symm))
  have k_13 : (5 : Int32).toInt = 5 := by decide
  have k_14 : (0 : Int32).toInt = 0 := by decide
  have k_15 : (5 : Int32).toInt = 5 := by decide
  refine lv_iconst (v := 2) hx hb dX3_runs_161 (by decide) ?_
  refine lv_imul hx hb dX3_runs_162 ?_
  refine lv_topi (fun v_16 ev_16 => ?_)
  have q_17 : (f_4 36 3).toInt = v_9.toInt := (congrArg Int32.toInt (show f_4 36 3 = v_9 from ev_9.symm))
  have q_18 : (f_4 36 3).toInt = v_9.toInt := (congrArg Int32.toInt (show f_4 36 3 = v_9 from ev_9.symm))
  exact hret _ _ _ _ (v_16) f_4 L Q dX3_runs_163 hP hS ⟨⟨hI, hF, rfl, rfl⟩, trivial, (by omega)⟩

abbrev WkX3_does_0_1_4_f4_f5 : List (Nat × Nat × Option Nat) := [(36, 36, some 3), (38, 38, none)]
set_option maxHeartbeats 4000000 in
set_option maxRecDepth 100000 in
theorem kX3_does_0_1_4_f4_f5 (l : Launch) (D : va_G) (ca : Nat → ClassId) (za h : Nat → Nat) (hh : sgH 52 h) (f : sg_F) (L : sg_L) (Q : sg_Q) (hI : sgI loX hiX f) (x2 : Int32) (hf_36_3 : f 36 3 = 4) (hf_36_4 : f 36 4 = 5) (p0 : 4 ≤ (f 36 3).toInt ∧ (f 36 3).toInt ≤ 4) (sz : Nat) : Met l yX3_does gwX3_does { frames := 3, cells := 0, slots := 0, locals := 74 } (sgP D vwCl (tyX ca) 52 h (eX ca h) zcX za f L Q sz [.ref (h 36), .int 0, .int 1, .int x2, .int 4]) (sgQi D vwCl 52 h (eX ca h) sz (fun r f1 L1 Q1 => ((sgI loX hiX f1 ∧ sgK WkX3_does_0_1_4_f4_f5 f f1 ∧ L1 = L ∧ Q1 = Q) ∧ True ∧ (6 ≤ (f1 36 3).toInt ∧ (f1 36 3).toInt ≤ 6)))) 0 0 (sgA 52 h sz) := by
  refine sg_ofWi (cc := cX3_does) (maxL := 7) RX3 (by decide) rfl rfl (Nat.le_of_ble_eq_true rfl) ?_
  intro p e s m below meth cd Qz ls hx hb hml hown hts hK hZ hP hS hl hret
  have hA := sgY.self (n := 52) (h := h) (sz := s.heap.size)
  have hl : lv_has ls 7 [(0, .ref (h 36)), (1, .int 0), (2, .int 1), (3, .int x2), (4, .int 4)] := hl
  obtain ⟨H, hH⟩ : ∃ z : Heap, z = s.heap := ⟨_, rfl⟩
  obtain ⟨locs, hlo⟩ : ∃ z : List Loc, z = [] := ⟨_, rfl⟩
  have hP : va_P D vwCl (sgw 52 h (eX ca h) f L Q) H := by rw [hH]; exact hP
  have hS : va_S (sgA 52 h s.heap.size) s.heap H locs := by rw [hH, hlo]; exact hS
  suffices hgo : W p l e ({ frames := 3, cells := 0, slots := 0, locals := 74 }) s m ([.ref (h 36), .int 0, .int 1, .int x2, .int 4] : List Value).toArray below meth cd H locs 0 0 Qz (F0 m 0 ls []) by rw [hH, hlo] at hgo; exact hgo
  clear hH hlo
  have o_1 : (f 36 3).toInt = 4 := (congrArg Int32.toInt (show f 36 3 = 4 from hf_36_3)).trans (by decide)
  have hF : sgK WkX3_does_0_1_4_f4_f5 f f := sgK.rf
  have blk_53 : ∀ (fp_53 : sg_F) (H : Heap) (locs : List Loc) (ls : Array Slot), 4 ≤ (fp_53 36 3).toInt ∧ (fp_53 36 3).toInt ≤ 4 → 5 ≤ (fp_53 36 4).toInt ∧ (fp_53 36 4).toInt ≤ 5 → sgI loX hiX fp_53 → sgK WkX3_does_0_1_4_f4_f5 f fp_53 → va_P D vwCl (sgw 52 h (eX ca h) fp_53 L Q) H → va_S (sgA 52 h s.heap.size) s.heap H locs → lv_has ls 7 [(0, .ref (h 36)), (3, .int x2), (4, .int 4), (5, .int 0), (6, .int 10)] → W p l e ({ frames := 3, cells := 0, slots := 0, locals := 74 }) s m ([.ref (h 36), .int 0, .int 1, .int x2, .int 4] : List Value).toArray below meth cd H locs 0 0 Qz (F0 m 53 ls []) := by
    intro fp_53 H locs ls hy0_53 hy1_53 hI hF hP hS hl
    obtain ⟨v_2, ev_2⟩ : ∃ z : Int32, z = fp_53 36 3 := ⟨_, rfl⟩
    have q_3 : 0 ≤ v_2.toInt ∧ v_2.toInt ≤ 19 := by rw [ev_2]; exact hI 36 3
    have q_4 : (fp_53 36 3).toInt = v_2.toInt := by rw [ev_2]
    obtain ⟨v_5, ev_5⟩ : ∃ z : Int32, z = fp_53 36 4 := ⟨_, rfl⟩
    have q_6 : 0 ≤ v_5.toInt ∧ v_5.toInt ≤ 7 := by rw [ev_5]; exact hI 36 4
    have q_7 : (fp_53 36 4).toInt = v_5.toInt := by rw [ev_5]
    have m_8 : fp_53 36 4 = 5 := (hF 36 4 (by decide)).trans hf_36_4
    refine lv_aload_n hx hb dX3_does_53 rfl (lv_at hl 0 rfl) ?_
    refine lv_dup hx hb dX3_does_54 rfl ?_
    refine sg_get (ci := 3) (v := .int v_2) (C := RX3) (T := TX3) (N := 6) hx hb hts (fun w h => List.mem_cons_of_mem _ (gx_3 w h)) hown hK hP 36 (by decide) rfl rfl 3 (by decide) (hts _ (List.mem_cons_of_mem _ mw_16)) (fun _ h9 => h9) (congrArg (fun z => some (Value.int z)) (show fp_53 36 3 = v_2 from ev_2.symm)) dX3_does_55 ?_
    refine lv_iconst (v := 1) hx hb dX3_does_58 (by decide) ?_
    refine lv_iadd hx hb dX3_does_59 ?_
    refine lv_topi (fun v_9 ev_9 => ?_)
    have q_10 : v_9.toInt = v_2.toInt + 1 := by rw [ev_9]; have k1 : (1 : Int32).toInt = 1 := (by decide); exact (bn_addI (by omega) (by omega)).trans (by omega)
    refine sg_put (ci := 3) (x := v_9) (ty := .int) (C := RX3) (T := TX3) (N := 6) hx hb hts (fun w h => List.mem_cons_of_mem _ (gx_3 w h)) tyX3 tyX3_ok nmX3 hown hh hA hK hP hS 36 (by decide) rfl rfl 3 (by decide) (hts _ (List.mem_cons_of_mem _ mw_16)) (fun _ h9 => h9) rfl rfl (by decide +kernel) rfl rfl (Nat.le_of_ble_eq_true rfl) dX3_does_60 (fun f_11 H locs ef_11 hP hS => ?_)
    have hI : sgI loX hiX f_11 := by rw [ef_11]; exact sgI.put hI 36 3 (show 0 ≤ (v_9 : Int32).toInt ∧ (v_9 : Int32).toInt ≤ 19 from by omega)
    have hF : sgK WkX3_does_0_1_4_f4_f5 f f_11 := sgK.put hF ef_11 (by rfl)
    refine lv_aload_n hx hb dX3_does_63 rfl (lv_at hl 0 rfl) ?_
    refine lv_iload hx hb dX3_does_64 (lv_at hl 4 rfl) ?_
    refine sg_gets hx hb hZ 2 rfl hS hown (hts _ (List.mem_cons_of_mem _ mw_174)) (fun _ h9 => h9) dX3_does_66 ?_
    refine lv_iload hx hb dX3_does_69 (lv_at hl 3 rfl) ?_
    refine sg_sald hx hb hZ 2 rfl hS (y := 0) (N := 8) (vp_in_iff.mpr (by decide)) dX3_does_71 ?_
    refine W.eq (g2 := F0 m 72 ls [.int (-1), .int 10, .ref (h 36)]) (by rfl) ?_
    refine lv_iload_n hx hb dX3_does_72 rfl (lv_at hl 1 rfl) ?_
    refine lv_iload hx hb dX3_does_73 (lv_at hl 2 rfl) ?_
    refine lv_iconst (v := 1) hx hb dX3_does_75 (by decide) ?_
    refine lv_iadd hx hb dX3_does_76 ?_
    refine W.eq (g2 := F0 m 77 ls [.int 5, .int x2, .int (-1), .int 10, .ref (h 36)]) (by rw [show (4 + 1 : Int32) = 5 from by decide]) ?_
    have c_12 : v_9 = 5 := Int32.toInt_inj.mp (by have k9 : (5 : Int32).toInt = 5 := (by decide); omega)
    have q_13 : (f_11 36 3).toInt = 5 := (congrArg Int32.toInt (show f_11 36 3 = 5 from (Eq.trans (by rw [ef_11, sg_up_s, sgu_s]) c_12))).trans (by decide)
    have q_14 : (f_11 36 3).toInt = 5 := (congrArg Int32.toInt (show f_11 36 3 = 5 from (Eq.trans (by rw [ef_11, sg_up_s, sgu_s]) c_12))).trans (by decide)
    refine sg_calli (va_runV (As := [.int 10, .int (-1), .int x2, .int 5]) (rest := []) ⟨hx, hb, hml, hown, hts⟩ (kX3_runs_10_m1_5_f5_f5 l D ca za h hh f_11 L Q hI x2 (Eq.trans (by rw [ef_11, sg_up_s, sgu_s]) c_12) (by rw [ef_11, sg_up_s, sgu_n (by decide)]; exact m_8) (by have k0 : (10 : Int32).toInt = 10 := (by decide); have k1 : ((-1) : Int32).toInt = (-1) := (by decide); have k3 : (5 : Int32).toInt = 5 := (by decide); omega) H.size) (cwV 4 hts (gw_V (fun _ h => List.mem_cons_of_mem _ h) mw_311 mw_312 mw_313 mw_47 mw_310) rfl rfl rfl (by decide +kernel) ⟨Nat.le_of_ble_eq_true rfl, Nat.le_of_ble_eq_true rfl⟩) (sg_preV (ci := 3) (C := RX3) (T := TX3) (N := 6) hA hK hP hS hZ 36 (by decide) rfl rfl) rfl rfl hl.1 rfl (lv_room (Nat.le_of_ble_eq_true rfl)) dX3_does_77 ⟨Nat.le_refl _, Nat.le_refl _⟩) hA hS (fun r_18 f_15 L_16 Q_17 H locs hq hP hS => ?_)
    obtain ⟨⟨hI, hk_f_15, eL9, eQ9⟩, hq, p_19⟩ := hq
    rw [eL9, eQ9] at hP; clear eL9 eQ9
    have hF : sgK WkX3_does_0_1_4_f4_f5 f f_15 := sgK.tr hF hk_f_15 (by decide)
    obtain ⟨v_20, ev_20⟩ : ∃ z : Int32, z = f_15 36 3 := ⟨_, rfl⟩
    have q_21 : 0 ≤ v_20.toInt ∧ v_20.toInt ≤ 19 := by rw [ev_20]; exact hI 36 3
    have q_22 : (f_15 36 3).toInt = v_20.toInt := (congrArg Int32.toInt (show f_15 36 3 = v_20 from ev_20.symm))
    have q_23 : (f_15 36 3).toInt = v_20.toInt := (congrArg Int32.toInt (show f_15 36 3 = v_20 from ev_20.symm))
    have k_24 : (10 : Int32).toInt = 10 := by decide
    have k_25 : ((-1) : Int32).toInt = (-1) := by decide
    have k_26 : (5 : Int32).toInt = 5 := by decide
    have q_27 : (f_15 36 3).toInt = v_20.toInt := (congrArg Int32.toInt (show f_15 36 3 = v_20 from ev_20.symm))
    have q_28 : (f_15 36 3).toInt = v_20.toInt := (congrArg Int32.toInt (show f_15 36 3 = v_20 from ev_20.symm))
    exact hret _ _ _ _ (r_18) f_15 L Q dX3_does_80 hP hS ⟨⟨hI, hF, rfl, rfl⟩, trivial, (by omega)⟩
  refine lv_iload_n hx hb dX3_does_0 rfl (lv_at hl 1 rfl) ?_
  refine lv_iload_n hx hb dX3_does_1 rfl (lv_at hl 2 rfl) ?_
  refine sg_calli (va_runS (As := [.int 0, .int 1]) (rest := []) ⟨hx, hb, hml, hown, hts⟩ (kX3_ownerOf_0_1 l D ca za h hh f L Q hI H.size) (va_cwS 2 hts (gw_S (fun _ h => List.mem_cons_of_mem _ h) mw_189 mw_190 mw_47 mw_188) rfl rfl rfl (by decide +kernel) ⟨Nat.le_of_ble_eq_true rfl, Nat.le_of_ble_eq_true rfl⟩) (sg_preS hA hK hP hS hZ) rfl rfl hl.1 rfl (lv_room (Nat.le_of_ble_eq_true rfl)) dX3_does_2 ⟨Nat.le_refl _, Nat.le_refl _⟩) hA hS (fun r_32 f_29 L_30 Q_31 H locs hq hP hS => ?_)
  obtain ⟨⟨ef9, eL9, eQ9⟩, hq⟩ := hq
  rw [ef9, eL9, eQ9] at hP; clear ef9 eL9 eQ9
  obtain rfl : r_32 = 0 := Int32.toInt_inj.mp (by have k9 : (0 : Int32).toInt = 0 := (by decide); omega)
  refine lv_istore (lv' := [(5, .int 0), (0, .ref (h 36)), (1, .int 0), (2, .int 1), (3, .int x2), (4, .int 4)]) hx hb dX3_does_5 hl (by decide) rfl (fun ls hl => ?_)
  refine lv_iload hx hb dX3_does_7 (lv_at hl 0 rfl) ?_
  refine lv_if_lt (tgt := 19) hx hb dX3_does_9 (by decide) (fun c => absurd c (by decide)) (fun c => ?_)
  refine lv_iload hx hb dX3_does_12 (lv_at hl 5 rfl) ?_
  refine lv_bipush (v := 40) hx hb dX3_does_14 (by decide) ?_
  refine lv_icmp_le (tgt := 21) hx hb dX3_does_16 (by decide) (fun c => ?_) (fun c => absurd c (by decide))
  refine sg_gets hx hb hZ 3 rfl hS hown (hts _ (List.mem_cons_of_mem _ mw_173)) (fun _ h9 => h9) dX3_does_21 ?_
  refine lv_iload hx hb dX3_does_24 (lv_at hl 0 rfl) ?_
  refine lv_iconst (v := 4) hx hb dX3_does_26 (by decide) ?_
  refine lv_imul hx hb dX3_does_27 ?_
  refine W.eq (g2 := F0 m 28 ls [.int 0, .ref (za 3)]) (by rw [show (0 * 4 : Int32) = 0 from by decide]) ?_
  refine lv_iload_n hx hb dX3_does_28 rfl (lv_at hl 3 rfl) ?_
  refine lv_iadd hx hb dX3_does_29 ?_
  refine W.eq (g2 := F0 m 30 ls [.int 1, .ref (za 3)]) (by rw [show (0 + 1 : Int32) = 1 from by decide]) ?_
  refine sg_sald hx hb hZ 3 rfl hS (y := 1) (N := 32) (vp_in_iff.mpr (by decide)) dX3_does_30 ?_
  refine W.eq (g2 := F0 m 31 ls [.int 10]) (by rfl) ?_
  refine lv_istore (lv' := [(6, .int 10), (5, .int 0), (0, .ref (h 36)), (1, .int 0), (2, .int 1), (3, .int x2), (4, .int 4)]) hx hb dX3_does_31 hl (by decide) rfl (fun ls hl => ?_)
  refine lv_aload_n hx hb dX3_does_33 rfl (lv_at hl 2 rfl) ?_
  refine sg_get (ci := 3) (v := .int 4) (C := RX3) (T := TX3) (N := 6) hx hb hts (fun w h => List.mem_cons_of_mem _ (gx_3 w h)) hown hK hP 36 (by decide) rfl rfl 3 (by decide) (hts _ (List.mem_cons_of_mem _ mw_16)) (fun _ h9 => h9) (congrArg (fun z => some (Value.int z)) (show f 36 3 = 4 from hf_36_3)) dX3_does_34 ?_
  refine lv_bipush (v := 24) hx hb dX3_does_37 (by decide) ?_
  refine lv_icmp_ge (tgt := 53) hx hb dX3_does_39 (by decide) (fun c => absurd c (by decide)) (fun c => ?_)
  refine lv_aload_n hx hb dX3_does_42 rfl (lv_at hl 2 rfl) ?_
  refine sg_get (ci := 3) (v := .ref (h 38)) (C := RX3) (T := TX3) (N := 6) hx hb hts (fun w h => List.mem_cons_of_mem _ (gx_3 w h)) hown hK hP 36 (by decide) rfl rfl 1 (by decide) (hts _ (List.mem_cons_of_mem _ mw_191)) (fun _ h9 => h9) rfl dX3_does_43 ?_
  refine lv_aload_n hx hb dX3_does_46 rfl (lv_at hl 2 rfl) ?_
  refine sg_get (ci := 3) (v := .int 4) (C := RX3) (T := TX3) (N := 6) hx hb hts (fun w h => List.mem_cons_of_mem _ (gx_3 w h)) hown hK hP 36 (by decide) rfl rfl 3 (by decide) (hts _ (List.mem_cons_of_mem _ mw_16)) (fun _ h9 => h9) (congrArg (fun z => some (Value.int z)) (show f 36 3 = 4 from hf_36_3)) dX3_does_47 ?_
  refine lv_iload hx hb dX3_does_50 (lv_at hl 0 rfl) ?_
  refine sg_iast hx hb hh hA hK hP hS 38 (by decide) 0 (fun _ => rfl) rfl (i := 4) (x := 10) (vp_in_iff.mpr (by decide)) dX3_does_52 (fun f_33 H locs ef_33 hP hS => ?_)
  have hI : sgI loX hiX f_33 := by rw [ef_33]; exact sgI.put hI 38 (Int32.toNatClampNeg 4) (show 0 ≤ (10 : Int32).toInt ∧ (10 : Int32).toInt ≤ 81 from by decide)
  have hF : sgK WkX3_does_0_1_4_f4_f5 f f_33 := sgK.put hF ef_33 (by rfl)
  exact blk_53 f_33 _ _ _ (by have zz36_3 : (f_33 36 3).toInt = 4 := (congrArg Int32.toInt (show f_33 36 3 = 4 from (by rw [ef_33, sg_up_n (by decide)]; exact hf_36_3))).trans (by decide); omega) (by have zz36_4 : (f_33 36 4).toInt = 5 := (congrArg Int32.toInt (show f_33 36 4 = 5 from (by rw [ef_33, sg_up_n (by decide)]; exact hf_36_4))).trans (by decide); omega) hI hF hP hS (lv_sub hl [2, 5, 6, 1, 0] rfl)

abbrev WkX3_runs_30_0_4_f4_f5 : List (Nat × Nat × Option Nat) := [(36, 36, some 3), (38, 38, none)]
set_option maxHeartbeats 4000000 in
set_option maxRecDepth 100000 in
theorem kX3_runs_30_0_4_f4_f5 (l : Launch) (D : va_G) (ca : Nat → ClassId) (za h : Nat → Nat) (hh : sgH 52 h) (f : sg_F) (L : sg_L) (Q : sg_Q) (hI : sgI loX hiX f) (x2 : Int32) (hf_36_3 : f 36 3 = 4) (hf_36_4 : f 36 4 = 5) (p0 : 4 ≤ (f 36 3).toInt ∧ (f 36 3).toInt ≤ 4) (sz : Nat) : Met l yX3_runs gwX3_runs { frames := 4, cells := 0, slots := 0, locals := 100 } (sgP D vwCl (tyX ca) 52 h (eX ca h) zcX za f L Q sz [.ref (h 36), .int 30, .int 0, .int x2, .int 4]) (sgQi D vwCl 52 h (eX ca h) sz (fun r f1 L1 Q1 => ((sgI loX hiX f1 ∧ sgK WkX3_runs_30_0_4_f4_f5 f f1 ∧ L1 = L ∧ Q1 = Q) ∧ True ∧ (6 ≤ (f1 36 3).toInt ∧ (f1 36 3).toInt ≤ 6)))) 0 0 (sgA 52 h sz) := by
  refine sg_ofWi (cc := cX3_runs) (maxL := 5) RX3 (by decide) rfl rfl (Nat.le_of_ble_eq_true rfl) ?_
  intro p e s m below meth cd Qz ls hx hb hml hown hts hK hZ hP hS hl hret
  have hA := sgY.self (n := 52) (h := h) (sz := s.heap.size)
  have hl : lv_has ls 5 [(0, .ref (h 36)), (1, .int 30), (2, .int 0), (3, .int x2), (4, .int 4)] := hl
  obtain ⟨H, hH⟩ : ∃ z : Heap, z = s.heap := ⟨_, rfl⟩
  obtain ⟨locs, hlo⟩ : ∃ z : List Loc, z = [] := ⟨_, rfl⟩
  have hP : va_P D vwCl (sgw 52 h (eX ca h) f L Q) H := by rw [hH]; exact hP
  have hS : va_S (sgA 52 h s.heap.size) s.heap H locs := by rw [hH, hlo]; exact hS
  suffices hgo : W p l e ({ frames := 4, cells := 0, slots := 0, locals := 100 }) s m ([.ref (h 36), .int 30, .int 0, .int x2, .int 4] : List Value).toArray below meth cd H locs 0 0 Qz (F0 m 0 ls []) by rw [hH, hlo] at hgo; exact hgo
  clear hH hlo
  have o_1 : (f 36 3).toInt = 4 := (congrArg Int32.toInt (show f 36 3 = 4 from hf_36_3)).trans (by decide)
  have hF : sgK WkX3_runs_30_0_4_f4_f5 f f := sgK.rf
  refine lv_iload_n hx hb dX3_runs_0 rfl (lv_at hl 1 rfl) ?_
  refine lv_lookup (x := 30) (off := 182) (tgt := 183) hx hb dX3_runs_1 (by decide) (by decide) (by decide) ?_
  refine lv_aload_n hx hb dX3_runs_183 rfl (lv_at hl 0 rfl) ?_
  refine lv_iload_n hx hb dX3_runs_184 rfl (lv_at hl 2 rfl) ?_
  refine lv_iconst (v := 1) hx hb dX3_runs_185 (by decide) ?_
  refine lv_iload_n hx hb dX3_runs_186 rfl (lv_at hl 3 rfl) ?_
  refine lv_iload hx hb dX3_runs_187 (lv_at hl 4 rfl) ?_
  have q_2 : (f 36 3).toInt = 4 := (congrArg Int32.toInt (show f 36 3 = 4 from hf_36_3)).trans (by decide)
  have q_3 : (f 36 3).toInt = 4 := (congrArg Int32.toInt (show f 36 3 = 4 from hf_36_3)).trans (by decide)
  refine sg_calli (va_runV (As := [.int 0, .int 1, .int x2, .int 4]) (rest := []) ⟨hx, hb, hml, hown, hts⟩ (kX3_does_0_1_4_f4_f5 l D ca za h hh f L Q hI x2 hf_36_3 hf_36_4 (by have k0 : (0 : Int32).toInt = 0 := (by decide); have k1 : (1 : Int32).toInt = 1 := (by decide); have k3 : (4 : Int32).toInt = 4 := (by decide); omega) H.size) (cwV 4 hts (gw_V (fun _ h => List.mem_cons_of_mem _ h) mw_318 mw_319 mw_320 mw_47 mw_317) rfl rfl rfl (by decide +kernel) ⟨Nat.le_of_ble_eq_true rfl, Nat.le_of_ble_eq_true rfl⟩) (sg_preV (ci := 3) (C := RX3) (T := TX3) (N := 6) hA hK hP hS hZ 36 (by decide) rfl rfl) rfl rfl hl.1 rfl (lv_room (Nat.le_of_ble_eq_true rfl)) dX3_runs_189 ⟨Nat.le_refl _, Nat.le_refl _⟩) hA hS (fun r_7 f_4 L_5 Q_6 H locs hq hP hS => ?_)
  obtain ⟨⟨hI, hk_f_4, eL9, eQ9⟩, hq, p_8⟩ := hq
  rw [eL9, eQ9] at hP; clear eL9 eQ9
  have hF : sgK WkX3_runs_30_0_4_f4_f5 f f_4 := sgK.tr hF hk_f_4 (by decide)
  obtain ⟨v_9, ev_9⟩ : ∃ z : Int32, z = f_4 36 3 := ⟨_, rfl⟩
  have q_10 : 0 ≤ v_9.toInt ∧ v_9.toInt ≤ 19 := by rw [ev_9]; exact hI 36 3
  have q_11 : (f_4 36 3).toInt = v_9.toInt := (congrArg Int32.toInt (show f_4 36 3 = v_9 from ev_9.symm))
  have q_12 : (f_4 36 3).toInt = v_9.toInt := (congrArg Int32.toInt (show f_4 36 3 = v_9 from ev_9.symm))
  have k_13 : (0 : Int32).toInt = 0 := by decide
  have k_14 : (1 : Int32).toInt = 1 := by decide
  have k_15 : (4 : Int32).toInt = 4 := by decide
  refine lv_ineg hx hb dX3_runs_192 ?_
  refine lv_topi (fun v_16 ev_16 => ?_)
  have q_17 : (f_4 36 3).toInt = v_9.toInt := (congrArg Int32.toInt (show f_4 36 3 = v_9 from ev_9.symm))
  have q_18 : (f_4 36 3).toInt = v_9.toInt := (congrArg Int32.toInt (show f_4 36 3 = v_9 from ev_9.symm))
  exact hret _ _ _ _ (v_16) f_4 L Q dX3_runs_193 hP hS ⟨⟨hI, hF, rfl, rfl⟩, trivial, (by omega)⟩

abbrev WkX3_does_2_1_3_f3_f5 : List (Nat × Nat × Option Nat) := [(36, 36, some 3), (38, 38, none)]
set_option maxHeartbeats 4000000 in
set_option maxRecDepth 100000 in
theorem kX3_does_2_1_3_f3_f5 (l : Launch) (D : va_G) (ca : Nat → ClassId) (za h : Nat → Nat) (hh : sgH 52 h) (f : sg_F) (L : sg_L) (Q : sg_Q) (hI : sgI loX hiX f) (x2 : Int32) (hf_36_3 : f 36 3 = 3) (hf_36_4 : f 36 4 = 5) (p0 : 3 ≤ (f 36 3).toInt ∧ (f 36 3).toInt ≤ 3) (sz : Nat) : Met l yX3_does gwX3_does { frames := 5, cells := 0, slots := 0, locals := 124 } (sgP D vwCl (tyX ca) 52 h (eX ca h) zcX za f L Q sz [.ref (h 36), .int 2, .int 1, .int x2, .int 3]) (sgQi D vwCl 52 h (eX ca h) sz (fun r f1 L1 Q1 => ((sgI loX hiX f1 ∧ sgK WkX3_does_2_1_3_f3_f5 f f1 ∧ L1 = L ∧ Q1 = Q) ∧ True ∧ (6 ≤ (f1 36 3).toInt ∧ (f1 36 3).toInt ≤ 6)))) 0 0 (sgA 52 h sz) := by
  refine sg_ofWi (cc := cX3_does) (maxL := 7) RX3 (by decide) rfl rfl (Nat.le_of_ble_eq_true rfl) ?_
  intro p e s m below meth cd Qz ls hx hb hml hown hts hK hZ hP hS hl hret
  have hA := sgY.self (n := 52) (h := h) (sz := s.heap.size)
  have hl : lv_has ls 7 [(0, .ref (h 36)), (1, .int 2), (2, .int 1), (3, .int x2), (4, .int 3)] := hl
  obtain ⟨H, hH⟩ : ∃ z : Heap, z = s.heap := ⟨_, rfl⟩
  obtain ⟨locs, hlo⟩ : ∃ z : List Loc, z = [] := ⟨_, rfl⟩
  have hP : va_P D vwCl (sgw 52 h (eX ca h) f L Q) H := by rw [hH]; exact hP
  have hS : va_S (sgA 52 h s.heap.size) s.heap H locs := by rw [hH, hlo]; exact hS
  suffices hgo : W p l e ({ frames := 5, cells := 0, slots := 0, locals := 124 }) s m ([.ref (h 36), .int 2, .int 1, .int x2, .int 3] : List Value).toArray below meth cd H locs 0 0 Qz (F0 m 0 ls []) by rw [hH, hlo] at hgo; exact hgo
  clear hH hlo
  have o_1 : (f 36 3).toInt = 3 := (congrArg Int32.toInt (show f 36 3 = 3 from hf_36_3)).trans (by decide)
  have hF : sgK WkX3_does_2_1_3_f3_f5 f f := sgK.rf
  have blk_53 : ∀ (fp_53 : sg_F) (H : Heap) (locs : List Loc) (ls : Array Slot), 3 ≤ (fp_53 36 3).toInt ∧ (fp_53 36 3).toInt ≤ 3 → 5 ≤ (fp_53 36 4).toInt ∧ (fp_53 36 4).toInt ≤ 5 → sgI loX hiX fp_53 → sgK WkX3_does_2_1_3_f3_f5 f fp_53 → va_P D vwCl (sgw 52 h (eX ca h) fp_53 L Q) H → va_S (sgA 52 h s.heap.size) s.heap H locs → lv_has ls 7 [(0, .ref (h 36)), (3, .int x2), (4, .int 3), (5, .int 2), (6, .int 30)] → W p l e ({ frames := 5, cells := 0, slots := 0, locals := 124 }) s m ([.ref (h 36), .int 2, .int 1, .int x2, .int 3] : List Value).toArray below meth cd H locs 0 0 Qz (F0 m 53 ls []) := by
    intro fp_53 H locs ls hy0_53 hy1_53 hI hF hP hS hl
    obtain ⟨v_2, ev_2⟩ : ∃ z : Int32, z = fp_53 36 3 := ⟨_, rfl⟩
    have q_3 : 0 ≤ v_2.toInt ∧ v_2.toInt ≤ 19 := by rw [ev_2]; exact hI 36 3
    have q_4 : (fp_53 36 3).toInt = v_2.toInt := by rw [ev_2]
    obtain ⟨v_5, ev_5⟩ : ∃ z : Int32, z = fp_53 36 4 := ⟨_, rfl⟩
    have q_6 : 0 ≤ v_5.toInt ∧ v_5.toInt ≤ 7 := by rw [ev_5]; exact hI 36 4
    have q_7 : (fp_53 36 4).toInt = v_5.toInt := by rw [ev_5]
    have m_8 : fp_53 36 4 = 5 := (hF 36 4 (by decide)).trans hf_36_4
    refine lv_aload_n hx hb dX3_does_53 rfl (lv_at hl 0 rfl) ?_
    refine lv_dup hx hb dX3_does_54 rfl ?_
    refine sg_get (ci := 3) (v := .int v_2) (C := RX3) (T := TX3) (N := 6) hx hb hts (fun w h => List.mem_cons_of_mem _ (gx_3 w h)) hown hK hP 36 (by decide) rfl rfl 3 (by decide) (hts _ (List.mem_cons_of_mem _ mw_16)) (fun _ h9 => h9) (congrArg (fun z => some (Value.int z)) (show fp_53 36 3 = v_2 from ev_2.symm)) dX3_does_55 ?_
    refine lv_iconst (v := 1) hx hb dX3_does_58 (by decide) ?_
    refine lv_iadd hx hb dX3_does_59 ?_
    refine lv_topi (fun v_9 ev_9 => ?_)
    have q_10 : v_9.toInt = v_2.toInt + 1 := by rw [ev_9]; have k1 : (1 : Int32).toInt = 1 := (by decide); exact (bn_addI (by omega) (by omega)).trans (by omega)
    refine sg_put (ci := 3) (x := v_9) (ty := .int) (C := RX3) (T := TX3) (N := 6) hx hb hts (fun w h => List.mem_cons_of_mem _ (gx_3 w h)) tyX3 tyX3_ok nmX3 hown hh hA hK hP hS 36 (by decide) rfl rfl 3 (by decide) (hts _ (List.mem_cons_of_mem _ mw_16)) (fun _ h9 => h9) rfl rfl (by decide +kernel) rfl rfl (Nat.le_of_ble_eq_true rfl) dX3_does_60 (fun f_11 H locs ef_11 hP hS => ?_)
    have hI : sgI loX hiX f_11 := by rw [ef_11]; exact sgI.put hI 36 3 (show 0 ≤ (v_9 : Int32).toInt ∧ (v_9 : Int32).toInt ≤ 19 from by omega)
    have hF : sgK WkX3_does_2_1_3_f3_f5 f f_11 := sgK.put hF ef_11 (by rfl)
    refine lv_aload_n hx hb dX3_does_63 rfl (lv_at hl 0 rfl) ?_
    refine lv_iload hx hb dX3_does_64 (lv_at hl 4 rfl) ?_
    refine sg_gets hx hb hZ 2 rfl hS hown (hts _ (List.mem_cons_of_mem _ mw_174)) (fun _ h9 => h9) dX3_does_66 ?_
    refine lv_iload hx hb dX3_does_69 (lv_at hl 3 rfl) ?_
    refine sg_sald hx hb hZ 2 rfl hS (y := 2) (N := 8) (vp_in_iff.mpr (by decide)) dX3_does_71 ?_
    refine W.eq (g2 := F0 m 72 ls [.int 0, .int 30, .ref (h 36)]) (by rfl) ?_
    refine lv_iload_n hx hb dX3_does_72 rfl (lv_at hl 1 rfl) ?_
    refine lv_iload hx hb dX3_does_73 (lv_at hl 2 rfl) ?_
    refine lv_iconst (v := 1) hx hb dX3_does_75 (by decide) ?_
    refine lv_iadd hx hb dX3_does_76 ?_
    refine W.eq (g2 := F0 m 77 ls [.int 4, .int x2, .int 0, .int 30, .ref (h 36)]) (by rw [show (3 + 1 : Int32) = 4 from by decide]) ?_
    have c_12 : v_9 = 4 := Int32.toInt_inj.mp (by have k9 : (4 : Int32).toInt = 4 := (by decide); omega)
    have q_13 : (f_11 36 3).toInt = 4 := (congrArg Int32.toInt (show f_11 36 3 = 4 from (Eq.trans (by rw [ef_11, sg_up_s, sgu_s]) c_12))).trans (by decide)
    have q_14 : (f_11 36 3).toInt = 4 := (congrArg Int32.toInt (show f_11 36 3 = 4 from (Eq.trans (by rw [ef_11, sg_up_s, sgu_s]) c_12))).trans (by decide)
    refine sg_calli (va_runV (As := [.int 30, .int 0, .int x2, .int 4]) (rest := []) ⟨hx, hb, hml, hown, hts⟩ (kX3_runs_30_0_4_f4_f5 l D ca za h hh f_11 L Q hI x2 (Eq.trans (by rw [ef_11, sg_up_s, sgu_s]) c_12) (by rw [ef_11, sg_up_s, sgu_n (by decide)]; exact m_8) (by have k0 : (30 : Int32).toInt = 30 := (by decide); have k1 : (0 : Int32).toInt = 0 := (by decide); have k3 : (4 : Int32).toInt = 4 := (by decide); omega) H.size) (cwV 4 hts (gw_V (fun _ h => List.mem_cons_of_mem _ h) mw_311 mw_312 mw_313 mw_47 mw_310) rfl rfl rfl (by decide +kernel) ⟨Nat.le_of_ble_eq_true rfl, Nat.le_of_ble_eq_true rfl⟩) (sg_preV (ci := 3) (C := RX3) (T := TX3) (N := 6) hA hK hP hS hZ 36 (by decide) rfl rfl) rfl rfl hl.1 rfl (lv_room (Nat.le_of_ble_eq_true rfl)) dX3_does_77 ⟨Nat.le_refl _, Nat.le_refl _⟩) hA hS (fun r_18 f_15 L_16 Q_17 H locs hq hP hS => ?_)
    obtain ⟨⟨hI, hk_f_15, eL9, eQ9⟩, hq, p_19⟩ := hq
    rw [eL9, eQ9] at hP; clear eL9 eQ9
    have hF : sgK WkX3_does_2_1_3_f3_f5 f f_15 := sgK.tr hF hk_f_15 (by decide)
    obtain ⟨v_20, ev_20⟩ : ∃ z : Int32, z = f_15 36 3 := ⟨_, rfl⟩
    have q_21 : 0 ≤ v_20.toInt ∧ v_20.toInt ≤ 19 := by rw [ev_20]; exact hI 36 3
    have q_22 : (f_15 36 3).toInt = v_20.toInt := (congrArg Int32.toInt (show f_15 36 3 = v_20 from ev_20.symm))
    have q_23 : (f_15 36 3).toInt = v_20.toInt := (congrArg Int32.toInt (show f_15 36 3 = v_20 from ev_20.symm))
    have k_24 : (30 : Int32).toInt = 30 := by decide
    have k_25 : (0 : Int32).toInt = 0 := by decide
    have k_26 : (4 : Int32).toInt = 4 := by decide
    have q_27 : (f_15 36 3).toInt = v_20.toInt := (congrArg Int32.toInt (show f_15 36 3 = v_20 from ev_20.symm))
    have q_28 : (f_15 36 3).toInt = v_20.toInt := (congrArg Int32.toInt (show f_15 36 3 = v_20 from ev_20.symm))
    exact hret _ _ _ _ (r_18) f_15 L Q dX3_does_80 hP hS ⟨⟨hI, hF, rfl, rfl⟩, trivial, (by omega)⟩
  refine lv_iload_n hx hb dX3_does_0 rfl (lv_at hl 1 rfl) ?_
  refine lv_iload_n hx hb dX3_does_1 rfl (lv_at hl 2 rfl) ?_
  refine sg_calli (va_runS (As := [.int 2, .int 1]) (rest := []) ⟨hx, hb, hml, hown, hts⟩ (kX3_ownerOf_2_1 l D ca za h hh f L Q hI H.size) (va_cwS 2 hts (gw_S (fun _ h => List.mem_cons_of_mem _ h) mw_189 mw_190 mw_47 mw_188) rfl rfl rfl (by decide +kernel) ⟨Nat.le_of_ble_eq_true rfl, Nat.le_of_ble_eq_true rfl⟩) (sg_preS hA hK hP hS hZ) rfl rfl hl.1 rfl (lv_room (Nat.le_of_ble_eq_true rfl)) dX3_does_2 ⟨Nat.le_refl _, Nat.le_refl _⟩) hA hS (fun r_32 f_29 L_30 Q_31 H locs hq hP hS => ?_)
  obtain ⟨⟨ef9, eL9, eQ9⟩, hq⟩ := hq
  rw [ef9, eL9, eQ9] at hP; clear ef9 eL9 eQ9
  obtain rfl : r_32 = 2 := Int32.toInt_inj.mp (by have k9 : (2 : Int32).toInt = 2 := (by decide); omega)
  refine lv_istore (lv' := [(5, .int 2), (0, .ref (h 36)), (1, .int 2), (2, .int 1), (3, .int x2), (4, .int 3)]) hx hb dX3_does_5 hl (by decide) rfl (fun ls hl => ?_)
  refine lv_iload hx hb dX3_does_7 (lv_at hl 0 rfl) ?_
  refine lv_if_lt (tgt := 19) hx hb dX3_does_9 (by decide) (fun c => absurd c (by decide)) (fun c => ?_)
  refine lv_iload hx hb dX3_does_12 (lv_at hl 5 rfl) ?_
  refine lv_bipush (v := 40) hx hb dX3_does_14 (by decide) ?_
  refine lv_icmp_le (tgt := 21) hx hb dX3_does_16 (by decide) (fun c => ?_) (fun c => absurd c (by decide))
  refine sg_gets hx hb hZ 3 rfl hS hown (hts _ (List.mem_cons_of_mem _ mw_173)) (fun _ h9 => h9) dX3_does_21 ?_
  refine lv_iload hx hb dX3_does_24 (lv_at hl 0 rfl) ?_
  refine lv_iconst (v := 4) hx hb dX3_does_26 (by decide) ?_
  refine lv_imul hx hb dX3_does_27 ?_
  refine W.eq (g2 := F0 m 28 ls [.int 8, .ref (za 3)]) (by rw [show (2 * 4 : Int32) = 8 from by decide]) ?_
  refine lv_iload_n hx hb dX3_does_28 rfl (lv_at hl 3 rfl) ?_
  refine lv_iadd hx hb dX3_does_29 ?_
  refine W.eq (g2 := F0 m 30 ls [.int 9, .ref (za 3)]) (by rw [show (8 + 1 : Int32) = 9 from by decide]) ?_
  refine sg_sald hx hb hZ 3 rfl hS (y := 9) (N := 32) (vp_in_iff.mpr (by decide)) dX3_does_30 ?_
  refine W.eq (g2 := F0 m 31 ls [.int 30]) (by rfl) ?_
  refine lv_istore (lv' := [(6, .int 30), (5, .int 2), (0, .ref (h 36)), (1, .int 2), (2, .int 1), (3, .int x2), (4, .int 3)]) hx hb dX3_does_31 hl (by decide) rfl (fun ls hl => ?_)
  refine lv_aload_n hx hb dX3_does_33 rfl (lv_at hl 2 rfl) ?_
  refine sg_get (ci := 3) (v := .int 3) (C := RX3) (T := TX3) (N := 6) hx hb hts (fun w h => List.mem_cons_of_mem _ (gx_3 w h)) hown hK hP 36 (by decide) rfl rfl 3 (by decide) (hts _ (List.mem_cons_of_mem _ mw_16)) (fun _ h9 => h9) (congrArg (fun z => some (Value.int z)) (show f 36 3 = 3 from hf_36_3)) dX3_does_34 ?_
  refine lv_bipush (v := 24) hx hb dX3_does_37 (by decide) ?_
  refine lv_icmp_ge (tgt := 53) hx hb dX3_does_39 (by decide) (fun c => absurd c (by decide)) (fun c => ?_)
  refine lv_aload_n hx hb dX3_does_42 rfl (lv_at hl 2 rfl) ?_
  refine sg_get (ci := 3) (v := .ref (h 38)) (C := RX3) (T := TX3) (N := 6) hx hb hts (fun w h => List.mem_cons_of_mem _ (gx_3 w h)) hown hK hP 36 (by decide) rfl rfl 1 (by decide) (hts _ (List.mem_cons_of_mem _ mw_191)) (fun _ h9 => h9) rfl dX3_does_43 ?_
  refine lv_aload_n hx hb dX3_does_46 rfl (lv_at hl 2 rfl) ?_
  refine sg_get (ci := 3) (v := .int 3) (C := RX3) (T := TX3) (N := 6) hx hb hts (fun w h => List.mem_cons_of_mem _ (gx_3 w h)) hown hK hP 36 (by decide) rfl rfl 3 (by decide) (hts _ (List.mem_cons_of_mem _ mw_16)) (fun _ h9 => h9) (congrArg (fun z => some (Value.int z)) (show f 36 3 = 3 from hf_36_3)) dX3_does_47 ?_
  refine lv_iload hx hb dX3_does_50 (lv_at hl 0 rfl) ?_
  refine sg_iast hx hb hh hA hK hP hS 38 (by decide) 0 (fun _ => rfl) rfl (i := 3) (x := 30) (vp_in_iff.mpr (by decide)) dX3_does_52 (fun f_33 H locs ef_33 hP hS => ?_)
  have hI : sgI loX hiX f_33 := by rw [ef_33]; exact sgI.put hI 38 (Int32.toNatClampNeg 3) (show 0 ≤ (30 : Int32).toInt ∧ (30 : Int32).toInt ≤ 81 from by decide)
  have hF : sgK WkX3_does_2_1_3_f3_f5 f f_33 := sgK.put hF ef_33 (by rfl)
  exact blk_53 f_33 _ _ _ (by have zz36_3 : (f_33 36 3).toInt = 3 := (congrArg Int32.toInt (show f_33 36 3 = 3 from (by rw [ef_33, sg_up_n (by decide)]; exact hf_36_3))).trans (by decide); omega) (by have zz36_4 : (f_33 36 4).toInt = 5 := (congrArg Int32.toInt (show f_33 36 4 = 5 from (by rw [ef_33, sg_up_n (by decide)]; exact hf_36_4))).trans (by decide); omega) hI hF hP hS (lv_sub hl [2, 5, 6, 1, 0] rfl)

abbrev WkX3_runs_41_2_3_f3_f5 : List (Nat × Nat × Option Nat) := [(36, 36, some 3), (38, 38, none)]
set_option maxHeartbeats 4000000 in
set_option maxRecDepth 100000 in
theorem kX3_runs_41_2_3_f3_f5 (l : Launch) (D : va_G) (ca : Nat → ClassId) (za h : Nat → Nat) (hh : sgH 52 h) (f : sg_F) (L : sg_L) (Q : sg_Q) (hI : sgI loX hiX f) (x2 : Int32) (hf_36_3 : f 36 3 = 3) (hf_36_4 : f 36 4 = 5) (p0 : 3 ≤ (f 36 3).toInt ∧ (f 36 3).toInt ≤ 3) (sz : Nat) : Met l yX3_runs gwX3_runs { frames := 6, cells := 0, slots := 0, locals := 150 } (sgP D vwCl (tyX ca) 52 h (eX ca h) zcX za f L Q sz [.ref (h 36), .int 41, .int 2, .int x2, .int 3]) (sgQi D vwCl 52 h (eX ca h) sz (fun r f1 L1 Q1 => ((sgI loX hiX f1 ∧ sgK WkX3_runs_41_2_3_f3_f5 f f1 ∧ L1 = L ∧ Q1 = Q) ∧ True ∧ (6 ≤ (f1 36 3).toInt ∧ (f1 36 3).toInt ≤ 6)))) 0 0 (sgA 52 h sz) := by
  refine sg_ofWi (cc := cX3_runs) (maxL := 5) RX3 (by decide) rfl rfl (Nat.le_of_ble_eq_true rfl) ?_
  intro p e s m below meth cd Qz ls hx hb hml hown hts hK hZ hP hS hl hret
  have hA := sgY.self (n := 52) (h := h) (sz := s.heap.size)
  have hl : lv_has ls 5 [(0, .ref (h 36)), (1, .int 41), (2, .int 2), (3, .int x2), (4, .int 3)] := hl
  obtain ⟨H, hH⟩ : ∃ z : Heap, z = s.heap := ⟨_, rfl⟩
  obtain ⟨locs, hlo⟩ : ∃ z : List Loc, z = [] := ⟨_, rfl⟩
  have hP : va_P D vwCl (sgw 52 h (eX ca h) f L Q) H := by rw [hH]; exact hP
  have hS : va_S (sgA 52 h s.heap.size) s.heap H locs := by rw [hH, hlo]; exact hS
  suffices hgo : W p l e ({ frames := 6, cells := 0, slots := 0, locals := 150 }) s m ([.ref (h 36), .int 41, .int 2, .int x2, .int 3] : List Value).toArray below meth cd H locs 0 0 Qz (F0 m 0 ls []) by rw [hH, hlo] at hgo; exact hgo
  clear hH hlo
  have o_1 : (f 36 3).toInt = 3 := (congrArg Int32.toInt (show f 36 3 = 3 from hf_36_3)).trans (by decide)
  have hF : sgK WkX3_runs_41_2_3_f3_f5 f f := sgK.rf
  refine lv_iload_n hx hb dX3_runs_0 rfl (lv_at hl 1 rfl) ?_
  refine lv_lookup (x := 41) (off := 205) (tgt := 206) hx hb dX3_runs_1 (by decide) (by decide) (by decide) ?_
  refine lv_aload_n hx hb dX3_runs_206 rfl (lv_at hl 0 rfl) ?_
  refine lv_iload_n hx hb dX3_runs_207 rfl (lv_at hl 2 rfl) ?_
  refine lv_iconst (v := 1) hx hb dX3_runs_208 (by decide) ?_
  refine lv_iload_n hx hb dX3_runs_209 rfl (lv_at hl 3 rfl) ?_
  refine lv_iconst (v := 1) hx hb dX3_runs_210 (by decide) ?_
  refine lv_iadd hx hb dX3_runs_211 ?_
  refine lv_topi (fun v_2 ev_2 => ?_)
  refine lv_iload hx hb dX3_runs_212 (lv_at hl 4 rfl) ?_
  have q_3 : (f 36 3).toInt = 3 := (congrArg Int32.toInt (show f 36 3 = 3 from hf_36_3)).trans (by decide)
  have q_4 : (f 36 3).toInt = 3 := (congrArg Int32.toInt (show f 36 3 = 3 from hf_36_3)).trans (by decide)
  refine sg_calli (va_runV (As := [.int 2, .int 1, .int v_2, .int 3]) (rest := []) ⟨hx, hb, hml, hown, hts⟩ (kX3_does_2_1_3_f3_f5 l D ca za h hh f L Q hI v_2 hf_36_3 hf_36_4 (by have k0 : (2 : Int32).toInt = 2 := (by decide); have k1 : (1 : Int32).toInt = 1 := (by decide); have k3 : (3 : Int32).toInt = 3 := (by decide); omega) H.size) (cwV 4 hts (gw_V (fun _ h => List.mem_cons_of_mem _ h) mw_318 mw_319 mw_320 mw_47 mw_317) rfl rfl rfl (by decide +kernel) ⟨Nat.le_of_ble_eq_true rfl, Nat.le_of_ble_eq_true rfl⟩) (sg_preV (ci := 3) (C := RX3) (T := TX3) (N := 6) hA hK hP hS hZ 36 (by decide) rfl rfl) rfl rfl hl.1 rfl (lv_room (Nat.le_of_ble_eq_true rfl)) dX3_runs_214 ⟨Nat.le_refl _, Nat.le_refl _⟩) hA hS (fun r_8 f_5 L_6 Q_7 H locs hq hP hS => ?_)
  obtain ⟨⟨hI, hk_f_5, eL9, eQ9⟩, hq, p_9⟩ := hq
  rw [eL9, eQ9] at hP; clear eL9 eQ9
  have hF : sgK WkX3_runs_41_2_3_f3_f5 f f_5 := sgK.tr hF hk_f_5 (by decide)
  obtain ⟨v_10, ev_10⟩ : ∃ z : Int32, z = f_5 36 3 := ⟨_, rfl⟩
  have q_11 : 0 ≤ v_10.toInt ∧ v_10.toInt ≤ 19 := by rw [ev_10]; exact hI 36 3
  have q_12 : (f_5 36 3).toInt = v_10.toInt := (congrArg Int32.toInt (show f_5 36 3 = v_10 from ev_10.symm))
  have q_13 : (f_5 36 3).toInt = v_10.toInt := (congrArg Int32.toInt (show f_5 36 3 = v_10 from ev_10.symm))
  have k_14 : (2 : Int32).toInt = 2 := by decide
  have k_15 : (1 : Int32).toInt = 1 := by decide
  have k_16 : (3 : Int32).toInt = 3 := by decide
  have q_17 : (f_5 36 3).toInt = v_10.toInt := (congrArg Int32.toInt (show f_5 36 3 = v_10 from ev_10.symm))
  have q_18 : (f_5 36 3).toInt = v_10.toInt := (congrArg Int32.toInt (show f_5 36 3 = v_10 from ev_10.symm))
  exact hret _ _ _ _ (r_8) f_5 L Q dX3_runs_217 hP hS ⟨⟨hI, hF, rfl, rfl⟩, trivial, (by omega)⟩

abbrev WkX3_does_5_1_2_f2_f5 : List (Nat × Nat × Option Nat) := [(36, 36, some 3), (38, 38, none)]
set_option maxHeartbeats 4000000 in
set_option maxRecDepth 100000 in
theorem kX3_does_5_1_2_f2_f5 (l : Launch) (D : va_G) (ca : Nat → ClassId) (za h : Nat → Nat) (hh : sgH 52 h) (f : sg_F) (L : sg_L) (Q : sg_Q) (hI : sgI loX hiX f) (x2 : Int32) (hf_36_3 : f 36 3 = 2) (hf_36_4 : f 36 4 = 5) (p0 : 2 ≤ (f 36 3).toInt ∧ (f 36 3).toInt ≤ 2) (sz : Nat) : Met l yX3_does gwX3_does { frames := 7, cells := 0, slots := 0, locals := 174 } (sgP D vwCl (tyX ca) 52 h (eX ca h) zcX za f L Q sz [.ref (h 36), .int 5, .int 1, .int x2, .int 2]) (sgQi D vwCl 52 h (eX ca h) sz (fun r f1 L1 Q1 => ((sgI loX hiX f1 ∧ sgK WkX3_does_5_1_2_f2_f5 f f1 ∧ L1 = L ∧ Q1 = Q) ∧ True ∧ (6 ≤ (f1 36 3).toInt ∧ (f1 36 3).toInt ≤ 6)))) 0 0 (sgA 52 h sz) := by
  refine sg_ofWi (cc := cX3_does) (maxL := 7) RX3 (by decide) rfl rfl (Nat.le_of_ble_eq_true rfl) ?_
  intro p e s m below meth cd Qz ls hx hb hml hown hts hK hZ hP hS hl hret
  have hA := sgY.self (n := 52) (h := h) (sz := s.heap.size)
  have hl : lv_has ls 7 [(0, .ref (h 36)), (1, .int 5), (2, .int 1), (3, .int x2), (4, .int 2)] := hl
  obtain ⟨H, hH⟩ : ∃ z : Heap, z = s.heap := ⟨_, rfl⟩
  obtain ⟨locs, hlo⟩ : ∃ z : List Loc, z = [] := ⟨_, rfl⟩
  have hP : va_P D vwCl (sgw 52 h (eX ca h) f L Q) H := by rw [hH]; exact hP
  have hS : va_S (sgA 52 h s.heap.size) s.heap H locs := by rw [hH, hlo]; exact hS
  suffices hgo : W p l e ({ frames := 7, cells := 0, slots := 0, locals := 174 }) s m ([.ref (h 36), .int 5, .int 1, .int x2, .int 2] : List Value).toArray below meth cd H locs 0 0 Qz (F0 m 0 ls []) by rw [hH, hlo] at hgo; exact hgo
  clear hH hlo
  have o_1 : (f 36 3).toInt = 2 := (congrArg Int32.toInt (show f 36 3 = 2 from hf_36_3)).trans (by decide)
  have hF : sgK WkX3_does_5_1_2_f2_f5 f f := sgK.rf
  have blk_53 : ∀ (fp_53 : sg_F) (H : Heap) (locs : List Loc) (ls : Array Slot), 2 ≤ (fp_53 36 3).toInt ∧ (fp_53 36 3).toInt ≤ 2 → 5 ≤ (fp_53 36 4).toInt ∧ (fp_53 36 4).toInt ≤ 5 → sgI loX hiX fp_53 → sgK WkX3_does_5_1_2_f2_f5 f fp_53 → va_P D vwCl (sgw 52 h (eX ca h) fp_53 L Q) H → va_S (sgA 52 h s.heap.size) s.heap H locs → lv_has ls 7 [(0, .ref (h 36)), (3, .int x2), (4, .int 2), (5, .int 3), (6, .int 41)] → W p l e ({ frames := 7, cells := 0, slots := 0, locals := 174 }) s m ([.ref (h 36), .int 5, .int 1, .int x2, .int 2] : List Value).toArray below meth cd H locs 0 0 Qz (F0 m 53 ls []) := by
    intro fp_53 H locs ls hy0_53 hy1_53 hI hF hP hS hl
    obtain ⟨v_2, ev_2⟩ : ∃ z : Int32, z = fp_53 36 3 := ⟨_, rfl⟩
    have q_3 : 0 ≤ v_2.toInt ∧ v_2.toInt ≤ 19 := by rw [ev_2]; exact hI 36 3
    have q_4 : (fp_53 36 3).toInt = v_2.toInt := by rw [ev_2]
    obtain ⟨v_5, ev_5⟩ : ∃ z : Int32, z = fp_53 36 4 := ⟨_, rfl⟩
    have q_6 : 0 ≤ v_5.toInt ∧ v_5.toInt ≤ 7 := by rw [ev_5]; exact hI 36 4
    have q_7 : (fp_53 36 4).toInt = v_5.toInt := by rw [ev_5]
    have m_8 : fp_53 36 4 = 5 := (hF 36 4 (by decide)).trans hf_36_4
    refine lv_aload_n hx hb dX3_does_53 rfl (lv_at hl 0 rfl) ?_
    refine lv_dup hx hb dX3_does_54 rfl ?_
    refine sg_get (ci := 3) (v := .int v_2) (C := RX3) (T := TX3) (N := 6) hx hb hts (fun w h => List.mem_cons_of_mem _ (gx_3 w h)) hown hK hP 36 (by decide) rfl rfl 3 (by decide) (hts _ (List.mem_cons_of_mem _ mw_16)) (fun _ h9 => h9) (congrArg (fun z => some (Value.int z)) (show fp_53 36 3 = v_2 from ev_2.symm)) dX3_does_55 ?_
    refine lv_iconst (v := 1) hx hb dX3_does_58 (by decide) ?_
    refine lv_iadd hx hb dX3_does_59 ?_
    refine lv_topi (fun v_9 ev_9 => ?_)
    have q_10 : v_9.toInt = v_2.toInt + 1 := by rw [ev_9]; have k1 : (1 : Int32).toInt = 1 := (by decide); exact (bn_addI (by omega) (by omega)).trans (by omega)
    refine sg_put (ci := 3) (x := v_9) (ty := .int) (C := RX3) (T := TX3) (N := 6) hx hb hts (fun w h => List.mem_cons_of_mem _ (gx_3 w h)) tyX3 tyX3_ok nmX3 hown hh hA hK hP hS 36 (by decide) rfl rfl 3 (by decide) (hts _ (List.mem_cons_of_mem _ mw_16)) (fun _ h9 => h9) rfl rfl (by decide +kernel) rfl rfl (Nat.le_of_ble_eq_true rfl) dX3_does_60 (fun f_11 H locs ef_11 hP hS => ?_)
    have hI : sgI loX hiX f_11 := by rw [ef_11]; exact sgI.put hI 36 3 (show 0 ≤ (v_9 : Int32).toInt ∧ (v_9 : Int32).toInt ≤ 19 from by omega)
    have hF : sgK WkX3_does_5_1_2_f2_f5 f f_11 := sgK.put hF ef_11 (by rfl)
    refine lv_aload_n hx hb dX3_does_63 rfl (lv_at hl 0 rfl) ?_
    refine lv_iload hx hb dX3_does_64 (lv_at hl 4 rfl) ?_
    refine sg_gets hx hb hZ 2 rfl hS hown (hts _ (List.mem_cons_of_mem _ mw_174)) (fun _ h9 => h9) dX3_does_66 ?_
    refine lv_iload hx hb dX3_does_69 (lv_at hl 3 rfl) ?_
    refine sg_sald hx hb hZ 2 rfl hS (y := 3) (N := 8) (vp_in_iff.mpr (by decide)) dX3_does_71 ?_
    refine W.eq (g2 := F0 m 72 ls [.int 2, .int 41, .ref (h 36)]) (by rfl) ?_
    refine lv_iload_n hx hb dX3_does_72 rfl (lv_at hl 1 rfl) ?_
    refine lv_iload hx hb dX3_does_73 (lv_at hl 2 rfl) ?_
    refine lv_iconst (v := 1) hx hb dX3_does_75 (by decide) ?_
    refine lv_iadd hx hb dX3_does_76 ?_
    refine W.eq (g2 := F0 m 77 ls [.int 3, .int x2, .int 2, .int 41, .ref (h 36)]) (by rw [show (2 + 1 : Int32) = 3 from by decide]) ?_
    have c_12 : v_9 = 3 := Int32.toInt_inj.mp (by have k9 : (3 : Int32).toInt = 3 := (by decide); omega)
    have q_13 : (f_11 36 3).toInt = 3 := (congrArg Int32.toInt (show f_11 36 3 = 3 from (Eq.trans (by rw [ef_11, sg_up_s, sgu_s]) c_12))).trans (by decide)
    have q_14 : (f_11 36 3).toInt = 3 := (congrArg Int32.toInt (show f_11 36 3 = 3 from (Eq.trans (by rw [ef_11, sg_up_s, sgu_s]) c_12))).trans (by decide)
    refine sg_calli (va_runV (As := [.int 41, .int 2, .int x2, .int 3]) (rest := []) ⟨hx, hb, hml, hown, hts⟩ (kX3_runs_41_2_3_f3_f5 l D ca za h hh f_11 L Q hI x2 (Eq.trans (by rw [ef_11, sg_up_s, sgu_s]) c_12) (by rw [ef_11, sg_up_s, sgu_n (by decide)]; exact m_8) (by have k0 : (41 : Int32).toInt = 41 := (by decide); have k1 : (2 : Int32).toInt = 2 := (by decide); have k3 : (3 : Int32).toInt = 3 := (by decide); omega) H.size) (cwV 4 hts (gw_V (fun _ h => List.mem_cons_of_mem _ h) mw_311 mw_312 mw_313 mw_47 mw_310) rfl rfl rfl (by decide +kernel) ⟨Nat.le_of_ble_eq_true rfl, Nat.le_of_ble_eq_true rfl⟩) (sg_preV (ci := 3) (C := RX3) (T := TX3) (N := 6) hA hK hP hS hZ 36 (by decide) rfl rfl) rfl rfl hl.1 rfl (lv_room (Nat.le_of_ble_eq_true rfl)) dX3_does_77 ⟨Nat.le_refl _, Nat.le_refl _⟩) hA hS (fun r_18 f_15 L_16 Q_17 H locs hq hP hS => ?_)
    obtain ⟨⟨hI, hk_f_15, eL9, eQ9⟩, hq, p_19⟩ := hq
    rw [eL9, eQ9] at hP; clear eL9 eQ9
    have hF : sgK WkX3_does_5_1_2_f2_f5 f f_15 := sgK.tr hF hk_f_15 (by decide)
    obtain ⟨v_20, ev_20⟩ : ∃ z : Int32, z = f_15 36 3 := ⟨_, rfl⟩
    have q_21 : 0 ≤ v_20.toInt ∧ v_20.toInt ≤ 19 := by rw [ev_20]; exact hI 36 3
    have q_22 : (f_15 36 3).toInt = v_20.toInt := (congrArg Int32.toInt (show f_15 36 3 = v_20 from ev_20.symm))
    have q_23 : (f_15 36 3).toInt = v_20.toInt := (congrArg Int32.toInt (show f_15 36 3 = v_20 from ev_20.symm))
    have k_24 : (41 : Int32).toInt = 41 := by decide
    have k_25 : (2 : Int32).toInt = 2 := by decide
    have k_26 : (3 : Int32).toInt = 3 := by decide
    have q_27 : (f_15 36 3).toInt = v_20.toInt := (congrArg Int32.toInt (show f_15 36 3 = v_20 from ev_20.symm))
    have q_28 : (f_15 36 3).toInt = v_20.toInt := (congrArg Int32.toInt (show f_15 36 3 = v_20 from ev_20.symm))
    exact hret _ _ _ _ (r_18) f_15 L Q dX3_does_80 hP hS ⟨⟨hI, hF, rfl, rfl⟩, trivial, (by omega)⟩
  refine lv_iload_n hx hb dX3_does_0 rfl (lv_at hl 1 rfl) ?_
  refine lv_iload_n hx hb dX3_does_1 rfl (lv_at hl 2 rfl) ?_
  refine sg_calli (va_runS (As := [.int 5, .int 1]) (rest := []) ⟨hx, hb, hml, hown, hts⟩ (kX3_ownerOf_5_1 l D ca za h hh f L Q hI H.size) (va_cwS 2 hts (gw_S (fun _ h => List.mem_cons_of_mem _ h) mw_189 mw_190 mw_47 mw_188) rfl rfl rfl (by decide +kernel) ⟨Nat.le_of_ble_eq_true rfl, Nat.le_of_ble_eq_true rfl⟩) (sg_preS hA hK hP hS hZ) rfl rfl hl.1 rfl (lv_room (Nat.le_of_ble_eq_true rfl)) dX3_does_2 ⟨Nat.le_refl _, Nat.le_refl _⟩) hA hS (fun r_32 f_29 L_30 Q_31 H locs hq hP hS => ?_)
  obtain ⟨⟨ef9, eL9, eQ9⟩, hq⟩ := hq
  rw [ef9, eL9, eQ9] at hP; clear ef9 eL9 eQ9
  obtain rfl : r_32 = 3 := Int32.toInt_inj.mp (by have k9 : (3 : Int32).toInt = 3 := (by decide); omega)
  refine lv_istore (lv' := [(5, .int 3), (0, .ref (h 36)), (1, .int 5), (2, .int 1), (3, .int x2), (4, .int 2)]) hx hb dX3_does_5 hl (by decide) rfl (fun ls hl => ?_)
  refine lv_iload hx hb dX3_does_7 (lv_at hl 0 rfl) ?_
  refine lv_if_lt (tgt := 19) hx hb dX3_does_9 (by decide) (fun c => absurd c (by decide)) (fun c => ?_)
  refine lv_iload hx hb dX3_does_12 (lv_at hl 5 rfl) ?_
  refine lv_bipush (v := 40) hx hb dX3_does_14 (by decide) ?_
  refine lv_icmp_le (tgt := 21) hx hb dX3_does_16 (by decide) (fun c => ?_) (fun c => absurd c (by decide))
  refine sg_gets hx hb hZ 3 rfl hS hown (hts _ (List.mem_cons_of_mem _ mw_173)) (fun _ h9 => h9) dX3_does_21 ?_
  refine lv_iload hx hb dX3_does_24 (lv_at hl 0 rfl) ?_
  refine lv_iconst (v := 4) hx hb dX3_does_26 (by decide) ?_
  refine lv_imul hx hb dX3_does_27 ?_
  refine W.eq (g2 := F0 m 28 ls [.int 12, .ref (za 3)]) (by rw [show (3 * 4 : Int32) = 12 from by decide]) ?_
  refine lv_iload_n hx hb dX3_does_28 rfl (lv_at hl 3 rfl) ?_
  refine lv_iadd hx hb dX3_does_29 ?_
  refine W.eq (g2 := F0 m 30 ls [.int 13, .ref (za 3)]) (by rw [show (12 + 1 : Int32) = 13 from by decide]) ?_
  refine sg_sald hx hb hZ 3 rfl hS (y := 13) (N := 32) (vp_in_iff.mpr (by decide)) dX3_does_30 ?_
  refine W.eq (g2 := F0 m 31 ls [.int 41]) (by rfl) ?_
  refine lv_istore (lv' := [(6, .int 41), (5, .int 3), (0, .ref (h 36)), (1, .int 5), (2, .int 1), (3, .int x2), (4, .int 2)]) hx hb dX3_does_31 hl (by decide) rfl (fun ls hl => ?_)
  refine lv_aload_n hx hb dX3_does_33 rfl (lv_at hl 2 rfl) ?_
  refine sg_get (ci := 3) (v := .int 2) (C := RX3) (T := TX3) (N := 6) hx hb hts (fun w h => List.mem_cons_of_mem _ (gx_3 w h)) hown hK hP 36 (by decide) rfl rfl 3 (by decide) (hts _ (List.mem_cons_of_mem _ mw_16)) (fun _ h9 => h9) (congrArg (fun z => some (Value.int z)) (show f 36 3 = 2 from hf_36_3)) dX3_does_34 ?_
  refine lv_bipush (v := 24) hx hb dX3_does_37 (by decide) ?_
  refine lv_icmp_ge (tgt := 53) hx hb dX3_does_39 (by decide) (fun c => absurd c (by decide)) (fun c => ?_)
  refine lv_aload_n hx hb dX3_does_42 rfl (lv_at hl 2 rfl) ?_
  refine sg_get (ci := 3) (v := .ref (h 38)) (C := RX3) (T := TX3) (N := 6) hx hb hts (fun w h => List.mem_cons_of_mem _ (gx_3 w h)) hown hK hP 36 (by decide) rfl rfl 1 (by decide) (hts _ (List.mem_cons_of_mem _ mw_191)) (fun _ h9 => h9) rfl dX3_does_43 ?_
  refine lv_aload_n hx hb dX3_does_46 rfl (lv_at hl 2 rfl) ?_
  refine sg_get (ci := 3) (v := .int 2) (C := RX3) (T := TX3) (N := 6) hx hb hts (fun w h => List.mem_cons_of_mem _ (gx_3 w h)) hown hK hP 36 (by decide) rfl rfl 3 (by decide) (hts _ (List.mem_cons_of_mem _ mw_16)) (fun _ h9 => h9) (congrArg (fun z => some (Value.int z)) (show f 36 3 = 2 from hf_36_3)) dX3_does_47 ?_
  refine lv_iload hx hb dX3_does_50 (lv_at hl 0 rfl) ?_
  refine sg_iast hx hb hh hA hK hP hS 38 (by decide) 0 (fun _ => rfl) rfl (i := 2) (x := 41) (vp_in_iff.mpr (by decide)) dX3_does_52 (fun f_33 H locs ef_33 hP hS => ?_)
  have hI : sgI loX hiX f_33 := by rw [ef_33]; exact sgI.put hI 38 (Int32.toNatClampNeg 2) (show 0 ≤ (41 : Int32).toInt ∧ (41 : Int32).toInt ≤ 81 from by decide)
  have hF : sgK WkX3_does_5_1_2_f2_f5 f f_33 := sgK.put hF ef_33 (by rfl)
  exact blk_53 f_33 _ _ _ (by have zz36_3 : (f_33 36 3).toInt = 2 := (congrArg Int32.toInt (show f_33 36 3 = 2 from (by rw [ef_33, sg_up_n (by decide)]; exact hf_36_3))).trans (by decide); omega) (by have zz36_4 : (f_33 36 4).toInt = 5 := (congrArg Int32.toInt (show f_33 36 4 = 5 from (by rw [ef_33, sg_up_n (by decide)]; exact hf_36_4))).trans (by decide); omega) hI hF hP hS (lv_sub hl [2, 5, 6, 1, 0] rfl)

set_option maxHeartbeats 4000000 in
set_option maxRecDepth 100000 in
theorem kX3_runs_11_m1_4_f8_f5 (l : Launch) (D : va_G) (ca : Nat → ClassId) (za h : Nat → Nat) (hh : sgH 52 h) (f : sg_F) (L : sg_L) (Q : sg_Q) (hI : sgI loX hiX f) (x2 : Int32) (hf_36_3 : f 36 3 = 8) (hf_36_4 : f 36 4 = 5) (b2 : 1 ≤ x2.toInt ∧ x2.toInt ≤ 1) (p0 : 8 ≤ (f 36 3).toInt ∧ (f 36 3).toInt ≤ 8) (sz : Nat) : Met l yX3_runs gwX3_runs { frames := 0, cells := 0, slots := 0, locals := 0 } (sgP D vwCl (tyX ca) 52 h (eX ca h) zcX za f L Q sz [.ref (h 36), .int 11, .int (-1), .int x2, .int 4]) (sgQi D vwCl 52 h (eX ca h) sz (fun r f1 L1 Q1 => ((f1 = f ∧ L1 = L ∧ Q1 = Q) ∧ True ∧ (8 ≤ (f1 36 3).toInt ∧ (f1 36 3).toInt ≤ 8)))) 0 0 (sgA 52 h sz) := by
  refine sg_ofWi (cc := cX3_runs) (maxL := 5) RX3 (by decide) rfl rfl (Nat.le_of_ble_eq_true rfl) ?_
  intro p e s m below meth cd Qz ls hx hb hml hown hts hK hZ hP hS hl hret
  have hA := sgY.self (n := 52) (h := h) (sz := s.heap.size)
  have hl : lv_has ls 5 [(0, .ref (h 36)), (1, .int 11), (2, .int (-1)), (3, .int x2), (4, .int 4)] := hl
  obtain ⟨H, hH⟩ : ∃ z : Heap, z = s.heap := ⟨_, rfl⟩
  obtain ⟨locs, hlo⟩ : ∃ z : List Loc, z = [] := ⟨_, rfl⟩
  have hP : va_P D vwCl (sgw 52 h (eX ca h) f L Q) H := by rw [hH]; exact hP
  have hS : va_S (sgA 52 h s.heap.size) s.heap H locs := by rw [hH, hlo]; exact hS
  suffices hgo : W p l e ({ frames := 0, cells := 0, slots := 0, locals := 0 }) s m ([.ref (h 36), .int 11, .int (-1), .int x2, .int 4] : List Value).toArray below meth cd H locs 0 0 Qz (F0 m 0 ls []) by rw [hH, hlo] at hgo; exact hgo
  clear hH hlo
  have o_1 : (f 36 3).toInt = 8 := (congrArg Int32.toInt (show f 36 3 = 8 from hf_36_3)).trans (by decide)
  refine lv_iload_n hx hb dX3_runs_0 rfl (lv_at hl 1 rfl) ?_
  refine lv_lookup (x := 11) (off := 163) (tgt := 164) hx hb dX3_runs_1 (by decide) (by decide) (by decide) ?_
  refine lv_iload_n hx hb dX3_runs_164 rfl (lv_at hl 3 rfl) ?_
  refine lv_aload_n hx hb dX3_runs_165 rfl (lv_at hl 0 rfl) ?_
  refine sg_get (ci := 3) (v := .int (f 36 5)) (C := RX3) (T := TX3) (N := 6) hx hb hts (fun w h => List.mem_cons_of_mem _ (gx_3 w h)) hown hK hP 36 (by decide) rfl rfl 5 (by decide) (hts _ (List.mem_cons_of_mem _ mw_106)) (fun _ h9 => h9) rfl dX3_runs_166 ?_
  refine lv_topi (fun v_2 ev_2 => ?_)
  have q_3 : 0 ≤ v_2.toInt ∧ v_2.toInt ≤ 49 := by rw [ev_2]; exact hI 36 5
  refine lv_ixor hx hb dX3_runs_169 ?_
  refine lv_topi (fun v_4 ev_4 => ?_)
  have q_5 : (f 36 3).toInt = 8 := (congrArg Int32.toInt (show f 36 3 = 8 from hf_36_3)).trans (by decide)
  have q_6 : (f 36 3).toInt = 8 := (congrArg Int32.toInt (show f 36 3 = 8 from hf_36_3)).trans (by decide)
  exact hret _ _ _ _ (v_4) f L Q dX3_runs_170 hP hS ⟨⟨rfl, rfl, rfl⟩, trivial, (by omega)⟩

abbrev WkX3_does_2_2_3_f7_f5 : List (Nat × Nat × Option Nat) := [(36, 36, some 3), (38, 38, none)]
set_option maxHeartbeats 4000000 in
set_option maxRecDepth 100000 in
theorem kX3_does_2_2_3_f7_f5 (l : Launch) (D : va_G) (ca : Nat → ClassId) (za h : Nat → Nat) (hh : sgH 52 h) (f : sg_F) (L : sg_L) (Q : sg_Q) (hI : sgI loX hiX f) (x2 : Int32) (hf_36_3 : f 36 3 = 7) (hf_36_4 : f 36 4 = 5) (b2 : 1 ≤ x2.toInt ∧ x2.toInt ≤ 1) (p0 : 7 ≤ (f 36 3).toInt ∧ (f 36 3).toInt ≤ 7) (sz : Nat) : Met l yX3_does gwX3_does { frames := 1, cells := 0, slots := 0, locals := 24 } (sgP D vwCl (tyX ca) 52 h (eX ca h) zcX za f L Q sz [.ref (h 36), .int 2, .int 2, .int x2, .int 3]) (sgQi D vwCl 52 h (eX ca h) sz (fun r f1 L1 Q1 => ((sgI loX hiX f1 ∧ sgK WkX3_does_2_2_3_f7_f5 f f1 ∧ L1 = L ∧ Q1 = Q) ∧ True ∧ (8 ≤ (f1 36 3).toInt ∧ (f1 36 3).toInt ≤ 8)))) 0 0 (sgA 52 h sz) := by
  refine sg_ofWi (cc := cX3_does) (maxL := 7) RX3 (by decide) rfl rfl (Nat.le_of_ble_eq_true rfl) ?_
  intro p e s m below meth cd Qz ls hx hb hml hown hts hK hZ hP hS hl hret
  have hA := sgY.self (n := 52) (h := h) (sz := s.heap.size)
  have hl : lv_has ls 7 [(0, .ref (h 36)), (1, .int 2), (2, .int 2), (3, .int x2), (4, .int 3)] := hl
  obtain ⟨H, hH⟩ : ∃ z : Heap, z = s.heap := ⟨_, rfl⟩
  obtain ⟨locs, hlo⟩ : ∃ z : List Loc, z = [] := ⟨_, rfl⟩
  have hP : va_P D vwCl (sgw 52 h (eX ca h) f L Q) H := by rw [hH]; exact hP
  have hS : va_S (sgA 52 h s.heap.size) s.heap H locs := by rw [hH, hlo]; exact hS
  suffices hgo : W p l e ({ frames := 1, cells := 0, slots := 0, locals := 24 }) s m ([.ref (h 36), .int 2, .int 2, .int x2, .int 3] : List Value).toArray below meth cd H locs 0 0 Qz (F0 m 0 ls []) by rw [hH, hlo] at hgo; exact hgo
  clear hH hlo
  have o_1 : (f 36 3).toInt = 7 := (congrArg Int32.toInt (show f 36 3 = 7 from hf_36_3)).trans (by decide)
  have hF : sgK WkX3_does_2_2_3_f7_f5 f f := sgK.rf
  have blk_53 : ∀ (fp_53 : sg_F) (H : Heap) (locs : List Loc) (ls : Array Slot), 7 ≤ (fp_53 36 3).toInt ∧ (fp_53 36 3).toInt ≤ 7 → 5 ≤ (fp_53 36 4).toInt ∧ (fp_53 36 4).toInt ≤ 5 → sgI loX hiX fp_53 → sgK WkX3_does_2_2_3_f7_f5 f fp_53 → va_P D vwCl (sgw 52 h (eX ca h) fp_53 L Q) H → va_S (sgA 52 h s.heap.size) s.heap H locs → lv_has ls 7 [(0, .ref (h 36)), (3, .int x2), (4, .int 3), (5, .int 0), (6, .int 11)] → W p l e ({ frames := 1, cells := 0, slots := 0, locals := 24 }) s m ([.ref (h 36), .int 2, .int 2, .int x2, .int 3] : List Value).toArray below meth cd H locs 0 0 Qz (F0 m 53 ls []) := by
    intro fp_53 H locs ls hy0_53 hy1_53 hI hF hP hS hl
    obtain ⟨v_2, ev_2⟩ : ∃ z : Int32, z = fp_53 36 3 := ⟨_, rfl⟩
    have q_3 : 0 ≤ v_2.toInt ∧ v_2.toInt ≤ 19 := by rw [ev_2]; exact hI 36 3
    have q_4 : (fp_53 36 3).toInt = v_2.toInt := by rw [ev_2]
    obtain ⟨v_5, ev_5⟩ : ∃ z : Int32, z = fp_53 36 4 := ⟨_, rfl⟩
    have q_6 : 0 ≤ v_5.toInt ∧ v_5.toInt ≤ 7 := by rw [ev_5]; exact hI 36 4
    have q_7 : (fp_53 36 4).toInt = v_5.toInt := by rw [ev_5]
    have m_8 : fp_53 36 4 = 5 := (hF 36 4 (by decide)).trans hf_36_4
    refine lv_aload_n hx hb dX3_does_53 rfl (lv_at hl 0 rfl) ?_
    refine lv_dup hx hb dX3_does_54 rfl ?_
    refine sg_get (ci := 3) (v := .int v_2) (C := RX3) (T := TX3) (N := 6) hx hb hts (fun w h => List.mem_cons_of_mem _ (gx_3 w h)) hown hK hP 36 (by decide) rfl rfl 3 (by decide) (hts _ (List.mem_cons_of_mem _ mw_16)) (fun _ h9 => h9) (congrArg (fun z => some (Value.int z)) (show fp_53 36 3 = v_2 from ev_2.symm)) dX3_does_55 ?_
    refine lv_iconst (v := 1) hx hb dX3_does_58 (by decide) ?_
    refine lv_iadd hx hb dX3_does_59 ?_
    refine lv_topi (fun v_9 ev_9 => ?_)
    have q_10 : v_9.toInt = v_2.toInt + 1 := by rw [ev_9]; have k1 : (1 : Int32).toInt = 1 := (by decide); exact (bn_addI (by omega) (by omega)).trans (by omega)
    refine sg_put (ci := 3) (x := v_9) (ty := .int) (C := RX3) (T := TX3) (N := 6) hx hb hts (fun w h => List.mem_cons_of_mem _ (gx_3 w h)) tyX3 tyX3_ok nmX3 hown hh hA hK hP hS 36 (by decide) rfl rfl 3 (by decide) (hts _ (List.mem_cons_of_mem _ mw_16)) (fun _ h9 => h9) rfl rfl (by decide +kernel) rfl rfl (Nat.le_of_ble_eq_true rfl) dX3_does_60 (fun f_11 H locs ef_11 hP hS => ?_)
    have hI : sgI loX hiX f_11 := by rw [ef_11]; exact sgI.put hI 36 3 (show 0 ≤ (v_9 : Int32).toInt ∧ (v_9 : Int32).toInt ≤ 19 from by omega)
    have hF : sgK WkX3_does_2_2_3_f7_f5 f f_11 := sgK.put hF ef_11 (by rfl)
    refine lv_aload_n hx hb dX3_does_63 rfl (lv_at hl 0 rfl) ?_
    refine lv_iload hx hb dX3_does_64 (lv_at hl 4 rfl) ?_
    refine sg_gets hx hb hZ 2 rfl hS hown (hts _ (List.mem_cons_of_mem _ mw_174)) (fun _ h9 => h9) dX3_does_66 ?_
    refine lv_iload hx hb dX3_does_69 (lv_at hl 3 rfl) ?_
    refine sg_sald hx hb hZ 2 rfl hS (y := 0) (N := 8) (vp_in_iff.mpr (by decide)) dX3_does_71 ?_
    refine W.eq (g2 := F0 m 72 ls [.int (-1), .int 11, .ref (h 36)]) (by rfl) ?_
    refine lv_iload_n hx hb dX3_does_72 rfl (lv_at hl 1 rfl) ?_
    refine lv_iload hx hb dX3_does_73 (lv_at hl 2 rfl) ?_
    refine lv_iconst (v := 1) hx hb dX3_does_75 (by decide) ?_
    refine lv_iadd hx hb dX3_does_76 ?_
    refine W.eq (g2 := F0 m 77 ls [.int 4, .int x2, .int (-1), .int 11, .ref (h 36)]) (by rw [show (3 + 1 : Int32) = 4 from by decide]) ?_
    have c_12 : v_9 = 8 := Int32.toInt_inj.mp (by have k9 : (8 : Int32).toInt = 8 := (by decide); omega)
    have q_13 : (f_11 36 3).toInt = 8 := (congrArg Int32.toInt (show f_11 36 3 = 8 from (Eq.trans (by rw [ef_11, sg_up_s, sgu_s]) c_12))).trans (by decide)
    have q_14 : (f_11 36 3).toInt = 8 := (congrArg Int32.toInt (show f_11 36 3 = 8 from (Eq.trans (by rw [ef_11, sg_up_s, sgu_s]) c_12))).trans (by decide)
    refine sg_calli (va_runV (As := [.int 11, .int (-1), .int x2, .int 4]) (rest := []) ⟨hx, hb, hml, hown, hts⟩ (kX3_runs_11_m1_4_f8_f5 l D ca za h hh f_11 L Q hI x2 (Eq.trans (by rw [ef_11, sg_up_s, sgu_s]) c_12) (by rw [ef_11, sg_up_s, sgu_n (by decide)]; exact m_8) (by omega) (by have k0 : (11 : Int32).toInt = 11 := (by decide); have k1 : ((-1) : Int32).toInt = (-1) := (by decide); have k3 : (4 : Int32).toInt = 4 := (by decide); omega) H.size) (cwV 4 hts (gw_V (fun _ h => List.mem_cons_of_mem _ h) mw_311 mw_312 mw_313 mw_47 mw_310) rfl rfl rfl (by decide +kernel) ⟨Nat.le_of_ble_eq_true rfl, Nat.le_of_ble_eq_true rfl⟩) (sg_preV (ci := 3) (C := RX3) (T := TX3) (N := 6) hA hK hP hS hZ 36 (by decide) rfl rfl) rfl rfl hl.1 rfl (lv_room (Nat.le_of_ble_eq_true rfl)) dX3_does_77 ⟨Nat.le_refl _, Nat.le_refl _⟩) hA hS (fun r_18 f_15 L_16 Q_17 H locs hq hP hS => ?_)
    obtain ⟨⟨ef9, eL9, eQ9⟩, hq, p_19⟩ := hq
    rw [ef9, eL9, eQ9] at hP; clear ef9 eL9 eQ9
    have q_20 : (f_11 36 3).toInt = 8 := (congrArg Int32.toInt (show f_11 36 3 = 8 from (Eq.trans (by rw [ef_11, sg_up_s, sgu_s]) c_12))).trans (by decide)
    have q_21 : (f_11 36 3).toInt = 8 := (congrArg Int32.toInt (show f_11 36 3 = 8 from (Eq.trans (by rw [ef_11, sg_up_s, sgu_s]) c_12))).trans (by decide)
    have k_22 : (11 : Int32).toInt = 11 := by decide
    have k_23 : ((-1) : Int32).toInt = (-1) := by decide
    have k_24 : (4 : Int32).toInt = 4 := by decide
    have q_25 : (f_11 36 3).toInt = 8 := (congrArg Int32.toInt (show f_11 36 3 = 8 from (Eq.trans (by rw [ef_11, sg_up_s, sgu_s]) c_12))).trans (by decide)
    have q_26 : (f_11 36 3).toInt = 8 := (congrArg Int32.toInt (show f_11 36 3 = 8 from (Eq.trans (by rw [ef_11, sg_up_s, sgu_s]) c_12))).trans (by decide)
    exact hret _ _ _ _ (r_18) f_11 L Q dX3_does_80 hP hS ⟨⟨hI, hF, rfl, rfl⟩, trivial, (by omega)⟩
  refine lv_iload_n hx hb dX3_does_0 rfl (lv_at hl 1 rfl) ?_
  refine lv_iload_n hx hb dX3_does_1 rfl (lv_at hl 2 rfl) ?_
  refine sg_calli (va_runS (As := [.int 2, .int 2]) (rest := []) ⟨hx, hb, hml, hown, hts⟩ (kX3_ownerOf_2_2 l D ca za h hh f L Q hI H.size) (va_cwS 2 hts (gw_S (fun _ h => List.mem_cons_of_mem _ h) mw_189 mw_190 mw_47 mw_188) rfl rfl rfl (by decide +kernel) ⟨Nat.le_of_ble_eq_true rfl, Nat.le_of_ble_eq_true rfl⟩) (sg_preS hA hK hP hS hZ) rfl rfl hl.1 rfl (lv_room (Nat.le_of_ble_eq_true rfl)) dX3_does_2 ⟨Nat.le_refl _, Nat.le_refl _⟩) hA hS (fun r_30 f_27 L_28 Q_29 H locs hq hP hS => ?_)
  obtain ⟨⟨ef9, eL9, eQ9⟩, hq⟩ := hq
  rw [ef9, eL9, eQ9] at hP; clear ef9 eL9 eQ9
  obtain rfl : r_30 = 0 := Int32.toInt_inj.mp (by have k9 : (0 : Int32).toInt = 0 := (by decide); omega)
  refine lv_istore (lv' := [(5, .int 0), (0, .ref (h 36)), (1, .int 2), (2, .int 2), (3, .int x2), (4, .int 3)]) hx hb dX3_does_5 hl (by decide) rfl (fun ls hl => ?_)
  refine lv_iload hx hb dX3_does_7 (lv_at hl 0 rfl) ?_
  refine lv_if_lt (tgt := 19) hx hb dX3_does_9 (by decide) (fun c => absurd c (by decide)) (fun c => ?_)
  refine lv_iload hx hb dX3_does_12 (lv_at hl 5 rfl) ?_
  refine lv_bipush (v := 40) hx hb dX3_does_14 (by decide) ?_
  refine lv_icmp_le (tgt := 21) hx hb dX3_does_16 (by decide) (fun c => ?_) (fun c => absurd c (by decide))
  refine sg_gets hx hb hZ 3 rfl hS hown (hts _ (List.mem_cons_of_mem _ mw_173)) (fun _ h9 => h9) dX3_does_21 ?_
  refine lv_iload hx hb dX3_does_24 (lv_at hl 0 rfl) ?_
  refine lv_iconst (v := 4) hx hb dX3_does_26 (by decide) ?_
  refine lv_imul hx hb dX3_does_27 ?_
  refine W.eq (g2 := F0 m 28 ls [.int 0, .ref (za 3)]) (by rw [show (0 * 4 : Int32) = 0 from by decide]) ?_
  refine lv_iload_n hx hb dX3_does_28 rfl (lv_at hl 3 rfl) ?_
  refine lv_iadd hx hb dX3_does_29 ?_
  refine W.eq (g2 := F0 m 30 ls [.int 2, .ref (za 3)]) (by rw [show (0 + 2 : Int32) = 2 from by decide]) ?_
  refine sg_sald hx hb hZ 3 rfl hS (y := 2) (N := 32) (vp_in_iff.mpr (by decide)) dX3_does_30 ?_
  refine W.eq (g2 := F0 m 31 ls [.int 11]) (by rfl) ?_
  refine lv_istore (lv' := [(6, .int 11), (5, .int 0), (0, .ref (h 36)), (1, .int 2), (2, .int 2), (3, .int x2), (4, .int 3)]) hx hb dX3_does_31 hl (by decide) rfl (fun ls hl => ?_)
  refine lv_aload_n hx hb dX3_does_33 rfl (lv_at hl 2 rfl) ?_
  refine sg_get (ci := 3) (v := .int 7) (C := RX3) (T := TX3) (N := 6) hx hb hts (fun w h => List.mem_cons_of_mem _ (gx_3 w h)) hown hK hP 36 (by decide) rfl rfl 3 (by decide) (hts _ (List.mem_cons_of_mem _ mw_16)) (fun _ h9 => h9) (congrArg (fun z => some (Value.int z)) (show f 36 3 = 7 from hf_36_3)) dX3_does_34 ?_
  refine lv_bipush (v := 24) hx hb dX3_does_37 (by decide) ?_
  refine lv_icmp_ge (tgt := 53) hx hb dX3_does_39 (by decide) (fun c => absurd c (by decide)) (fun c => ?_)
  refine lv_aload_n hx hb dX3_does_42 rfl (lv_at hl 2 rfl) ?_
  refine sg_get (ci := 3) (v := .ref (h 38)) (C := RX3) (T := TX3) (N := 6) hx hb hts (fun w h => List.mem_cons_of_mem _ (gx_3 w h)) hown hK hP 36 (by decide) rfl rfl 1 (by decide) (hts _ (List.mem_cons_of_mem _ mw_191)) (fun _ h9 => h9) rfl dX3_does_43 ?_
  refine lv_aload_n hx hb dX3_does_46 rfl (lv_at hl 2 rfl) ?_
  refine sg_get (ci := 3) (v := .int 7) (C := RX3) (T := TX3) (N := 6) hx hb hts (fun w h => List.mem_cons_of_mem _ (gx_3 w h)) hown hK hP 36 (by decide) rfl rfl 3 (by decide) (hts _ (List.mem_cons_of_mem _ mw_16)) (fun _ h9 => h9) (congrArg (fun z => some (Value.int z)) (show f 36 3 = 7 from hf_36_3)) dX3_does_47 ?_
  refine lv_iload hx hb dX3_does_50 (lv_at hl 0 rfl) ?_
  refine sg_iast hx hb hh hA hK hP hS 38 (by decide) 0 (fun _ => rfl) rfl (i := 7) (x := 11) (vp_in_iff.mpr (by decide)) dX3_does_52 (fun f_31 H locs ef_31 hP hS => ?_)
  have hI : sgI loX hiX f_31 := by rw [ef_31]; exact sgI.put hI 38 (Int32.toNatClampNeg 7) (show 0 ≤ (11 : Int32).toInt ∧ (11 : Int32).toInt ≤ 81 from by decide)
  have hF : sgK WkX3_does_2_2_3_f7_f5 f f_31 := sgK.put hF ef_31 (by rfl)
  exact blk_53 f_31 _ _ _ (by have zz36_3 : (f_31 36 3).toInt = 7 := (congrArg Int32.toInt (show f_31 36 3 = 7 from (by rw [ef_31, sg_up_n (by decide)]; exact hf_36_3))).trans (by decide); omega) (by have zz36_4 : (f_31 36 4).toInt = 5 := (congrArg Int32.toInt (show f_31 36 4 = 5 from (by rw [ef_31, sg_up_n (by decide)]; exact hf_36_4))).trans (by decide); omega) hI hF hP hS (lv_sub hl [2, 5, 6, 1, 0] rfl)

abbrev WkX3_runs_40_2_3_f7_f5 : List (Nat × Nat × Option Nat) := [(36, 36, some 3), (38, 38, none)]
set_option maxHeartbeats 4000000 in
set_option maxRecDepth 100000 in
theorem kX3_runs_40_2_3_f7_f5 (l : Launch) (D : va_G) (ca : Nat → ClassId) (za h : Nat → Nat) (hh : sgH 52 h) (f : sg_F) (L : sg_L) (Q : sg_Q) (hI : sgI loX hiX f) (x2 : Int32) (hf_36_3 : f 36 3 = 7) (hf_36_4 : f 36 4 = 5) (b2 : 1 ≤ x2.toInt ∧ x2.toInt ≤ 1) (p0 : 7 ≤ (f 36 3).toInt ∧ (f 36 3).toInt ≤ 7) (sz : Nat) : Met l yX3_runs gwX3_runs { frames := 2, cells := 0, slots := 0, locals := 50 } (sgP D vwCl (tyX ca) 52 h (eX ca h) zcX za f L Q sz [.ref (h 36), .int 40, .int 2, .int x2, .int 3]) (sgQi D vwCl 52 h (eX ca h) sz (fun r f1 L1 Q1 => ((sgI loX hiX f1 ∧ sgK WkX3_runs_40_2_3_f7_f5 f f1 ∧ L1 = L ∧ Q1 = Q) ∧ True ∧ (8 ≤ (f1 36 3).toInt ∧ (f1 36 3).toInt ≤ 8)))) 0 0 (sgA 52 h sz) := by
  refine sg_ofWi (cc := cX3_runs) (maxL := 5) RX3 (by decide) rfl rfl (Nat.le_of_ble_eq_true rfl) ?_
  intro p e s m below meth cd Qz ls hx hb hml hown hts hK hZ hP hS hl hret
  have hA := sgY.self (n := 52) (h := h) (sz := s.heap.size)
  have hl : lv_has ls 5 [(0, .ref (h 36)), (1, .int 40), (2, .int 2), (3, .int x2), (4, .int 3)] := hl
  obtain ⟨H, hH⟩ : ∃ z : Heap, z = s.heap := ⟨_, rfl⟩
  obtain ⟨locs, hlo⟩ : ∃ z : List Loc, z = [] := ⟨_, rfl⟩
  have hP : va_P D vwCl (sgw 52 h (eX ca h) f L Q) H := by rw [hH]; exact hP
  have hS : va_S (sgA 52 h s.heap.size) s.heap H locs := by rw [hH, hlo]; exact hS
  suffices hgo : W p l e ({ frames := 2, cells := 0, slots := 0, locals := 50 }) s m ([.ref (h 36), .int 40, .int 2, .int x2, .int 3] : List Value).toArray below meth cd H locs 0 0 Qz (F0 m 0 ls []) by rw [hH, hlo] at hgo; exact hgo
  clear hH hlo
  have o_1 : (f 36 3).toInt = 7 := (congrArg Int32.toInt (show f 36 3 = 7 from hf_36_3)).trans (by decide)
  have hF : sgK WkX3_runs_40_2_3_f7_f5 f f := sgK.rf
  refine lv_iload_n hx hb dX3_runs_0 rfl (lv_at hl 1 rfl) ?_
  refine lv_lookup (x := 40) (off := 193) (tgt := 194) hx hb dX3_runs_1 (by decide) (by decide) (by decide) ?_
  refine lv_aload_n hx hb dX3_runs_194 rfl (lv_at hl 0 rfl) ?_
  refine lv_iload_n hx hb dX3_runs_195 rfl (lv_at hl 2 rfl) ?_
  refine lv_iconst (v := 2) hx hb dX3_runs_196 (by decide) ?_
  refine lv_iload_n hx hb dX3_runs_197 rfl (lv_at hl 3 rfl) ?_
  refine lv_iload hx hb dX3_runs_198 (lv_at hl 4 rfl) ?_
  have q_2 : (f 36 3).toInt = 7 := (congrArg Int32.toInt (show f 36 3 = 7 from hf_36_3)).trans (by decide)
  have q_3 : (f 36 3).toInt = 7 := (congrArg Int32.toInt (show f 36 3 = 7 from hf_36_3)).trans (by decide)
  refine sg_calli (va_runV (As := [.int 2, .int 2, .int x2, .int 3]) (rest := []) ⟨hx, hb, hml, hown, hts⟩ (kX3_does_2_2_3_f7_f5 l D ca za h hh f L Q hI x2 hf_36_3 hf_36_4 (by omega) (by have k0 : (2 : Int32).toInt = 2 := (by decide); have k1 : (2 : Int32).toInt = 2 := (by decide); have k3 : (3 : Int32).toInt = 3 := (by decide); omega) H.size) (cwV 4 hts (gw_V (fun _ h => List.mem_cons_of_mem _ h) mw_318 mw_319 mw_320 mw_47 mw_317) rfl rfl rfl (by decide +kernel) ⟨Nat.le_of_ble_eq_true rfl, Nat.le_of_ble_eq_true rfl⟩) (sg_preV (ci := 3) (C := RX3) (T := TX3) (N := 6) hA hK hP hS hZ 36 (by decide) rfl rfl) rfl rfl hl.1 rfl (lv_room (Nat.le_of_ble_eq_true rfl)) dX3_runs_200 ⟨Nat.le_refl _, Nat.le_refl _⟩) hA hS (fun r_7 f_4 L_5 Q_6 H locs hq hP hS => ?_)
  obtain ⟨⟨hI, hk_f_4, eL9, eQ9⟩, hq, p_8⟩ := hq
  rw [eL9, eQ9] at hP; clear eL9 eQ9
  have hF : sgK WkX3_runs_40_2_3_f7_f5 f f_4 := sgK.tr hF hk_f_4 (by decide)
  obtain ⟨v_9, ev_9⟩ : ∃ z : Int32, z = f_4 36 3 := ⟨_, rfl⟩
  have q_10 : 0 ≤ v_9.toInt ∧ v_9.toInt ≤ 19 := by rw [ev_9]; exact hI 36 3
  have q_11 : (f_4 36 3).toInt = v_9.toInt := (congrArg Int32.toInt (show f_4 36 3 = v_9 from ev_9.symm))
  have q_12 : (f_4 36 3).toInt = v_9.toInt := (congrArg Int32.toInt (show f_4 36 3 = v_9 from ev_9.symm))
  have k_13 : (2 : Int32).toInt = 2 := by decide
  have k_14 : (2 : Int32).toInt = 2 := by decide
  have k_15 : (3 : Int32).toInt = 3 := by decide
  refine lv_iconst (v := 3) hx hb dX3_runs_203 (by decide) ?_
  refine lv_imul hx hb dX3_runs_204 ?_
  refine lv_topi (fun v_16 ev_16 => ?_)
  have q_17 : (f_4 36 3).toInt = v_9.toInt := (congrArg Int32.toInt (show f_4 36 3 = v_9 from ev_9.symm))
  have q_18 : (f_4 36 3).toInt = v_9.toInt := (congrArg Int32.toInt (show f_4 36 3 = v_9 from ev_9.symm))
  exact hret _ _ _ _ (v_16) f_4 L Q dX3_runs_205 hP hS ⟨⟨hI, hF, rfl, rfl⟩, trivial, (by omega)⟩

abbrev WkX3_does_5_2_2_f6_f5 : List (Nat × Nat × Option Nat) := [(36, 36, some 3), (38, 38, none)]
set_option maxHeartbeats 4000000 in
set_option maxRecDepth 100000 in
theorem kX3_does_5_2_2_f6_f5 (l : Launch) (D : va_G) (ca : Nat → ClassId) (za h : Nat → Nat) (hh : sgH 52 h) (f : sg_F) (L : sg_L) (Q : sg_Q) (hI : sgI loX hiX f) (x2 : Int32) (hf_36_3 : f 36 3 = 6) (hf_36_4 : f 36 4 = 5) (b2 : 1 ≤ x2.toInt ∧ x2.toInt ≤ 1) (p0 : 6 ≤ (f 36 3).toInt ∧ (f 36 3).toInt ≤ 6) (sz : Nat) : Met l yX3_does gwX3_does { frames := 3, cells := 0, slots := 0, locals := 74 } (sgP D vwCl (tyX ca) 52 h (eX ca h) zcX za f L Q sz [.ref (h 36), .int 5, .int 2, .int x2, .int 2]) (sgQi D vwCl 52 h (eX ca h) sz (fun r f1 L1 Q1 => ((sgI loX hiX f1 ∧ sgK WkX3_does_5_2_2_f6_f5 f f1 ∧ L1 = L ∧ Q1 = Q) ∧ True ∧ (8 ≤ (f1 36 3).toInt ∧ (f1 36 3).toInt ≤ 8)))) 0 0 (sgA 52 h sz) := by
  refine sg_ofWi (cc := cX3_does) (maxL := 7) RX3 (by decide) rfl rfl (Nat.le_of_ble_eq_true rfl) ?_
  intro p e s m below meth cd Qz ls hx hb hml hown hts hK hZ hP hS hl hret
  have hA := sgY.self (n := 52) (h := h) (sz := s.heap.size)
  have hl : lv_has ls 7 [(0, .ref (h 36)), (1, .int 5), (2, .int 2), (3, .int x2), (4, .int 2)] := hl
  obtain ⟨H, hH⟩ : ∃ z : Heap, z = s.heap := ⟨_, rfl⟩
  obtain ⟨locs, hlo⟩ : ∃ z : List Loc, z = [] := ⟨_, rfl⟩
  have hP : va_P D vwCl (sgw 52 h (eX ca h) f L Q) H := by rw [hH]; exact hP
  have hS : va_S (sgA 52 h s.heap.size) s.heap H locs := by rw [hH, hlo]; exact hS
  suffices hgo : W p l e ({ frames := 3, cells := 0, slots := 0, locals := 74 }) s m ([.ref (h 36), .int 5, .int 2, .int x2, .int 2] : List Value).toArray below meth cd H locs 0 0 Qz (F0 m 0 ls []) by rw [hH, hlo] at hgo; exact hgo
  clear hH hlo
  have o_1 : (f 36 3).toInt = 6 := (congrArg Int32.toInt (show f 36 3 = 6 from hf_36_3)).trans (by decide)
  have hF : sgK WkX3_does_5_2_2_f6_f5 f f := sgK.rf
  have blk_53 : ∀ (fp_53 : sg_F) (H : Heap) (locs : List Loc) (ls : Array Slot), 6 ≤ (fp_53 36 3).toInt ∧ (fp_53 36 3).toInt ≤ 6 → 5 ≤ (fp_53 36 4).toInt ∧ (fp_53 36 4).toInt ≤ 5 → sgI loX hiX fp_53 → sgK WkX3_does_5_2_2_f6_f5 f fp_53 → va_P D vwCl (sgw 52 h (eX ca h) fp_53 L Q) H → va_S (sgA 52 h s.heap.size) s.heap H locs → lv_has ls 7 [(0, .ref (h 36)), (3, .int x2), (4, .int 2), (5, .int 3), (6, .int 40)] → W p l e ({ frames := 3, cells := 0, slots := 0, locals := 74 }) s m ([.ref (h 36), .int 5, .int 2, .int x2, .int 2] : List Value).toArray below meth cd H locs 0 0 Qz (F0 m 53 ls []) := by
    intro fp_53 H locs ls hy0_53 hy1_53 hI hF hP hS hl
    obtain ⟨v_2, ev_2⟩ : ∃ z : Int32, z = fp_53 36 3 := ⟨_, rfl⟩
    have q_3 : 0 ≤ v_2.toInt ∧ v_2.toInt ≤ 19 := by rw [ev_2]; exact hI 36 3
    have q_4 : (fp_53 36 3).toInt = v_2.toInt := by rw [ev_2]
    obtain ⟨v_5, ev_5⟩ : ∃ z : Int32, z = fp_53 36 4 := ⟨_, rfl⟩
    have q_6 : 0 ≤ v_5.toInt ∧ v_5.toInt ≤ 7 := by rw [ev_5]; exact hI 36 4
    have q_7 : (fp_53 36 4).toInt = v_5.toInt := by rw [ev_5]
    have m_8 : fp_53 36 4 = 5 := (hF 36 4 (by decide)).trans hf_36_4
    refine lv_aload_n hx hb dX3_does_53 rfl (lv_at hl 0 rfl) ?_
    refine lv_dup hx hb dX3_does_54 rfl ?_
    refine sg_get (ci := 3) (v := .int v_2) (C := RX3) (T := TX3) (N := 6) hx hb hts (fun w h => List.mem_cons_of_mem _ (gx_3 w h)) hown hK hP 36 (by decide) rfl rfl 3 (by decide) (hts _ (List.mem_cons_of_mem _ mw_16)) (fun _ h9 => h9) (congrArg (fun z => some (Value.int z)) (show fp_53 36 3 = v_2 from ev_2.symm)) dX3_does_55 ?_
    refine lv_iconst (v := 1) hx hb dX3_does_58 (by decide) ?_
    refine lv_iadd hx hb dX3_does_59 ?_
    refine lv_topi (fun v_9 ev_9 => ?_)
    have q_10 : v_9.toInt = v_2.toInt + 1 := by rw [ev_9]; have k1 : (1 : Int32).toInt = 1 := (by decide); exact (bn_addI (by omega) (by omega)).trans (by omega)
    refine sg_put (ci := 3) (x := v_9) (ty := .int) (C := RX3) (T := TX3) (N := 6) hx hb hts (fun w h => List.mem_cons_of_mem _ (gx_3 w h)) tyX3 tyX3_ok nmX3 hown hh hA hK hP hS 36 (by decide) rfl rfl 3 (by decide) (hts _ (List.mem_cons_of_mem _ mw_16)) (fun _ h9 => h9) rfl rfl (by decide +kernel) rfl rfl (Nat.le_of_ble_eq_true rfl) dX3_does_60 (fun f_11 H locs ef_11 hP hS => ?_)
    have hI : sgI loX hiX f_11 := by rw [ef_11]; exact sgI.put hI 36 3 (show 0 ≤ (v_9 : Int32).toInt ∧ (v_9 : Int32).toInt ≤ 19 from by omega)
    have hF : sgK WkX3_does_5_2_2_f6_f5 f f_11 := sgK.put hF ef_11 (by rfl)
    refine lv_aload_n hx hb dX3_does_63 rfl (lv_at hl 0 rfl) ?_
    refine lv_iload hx hb dX3_does_64 (lv_at hl 4 rfl) ?_
    refine sg_gets hx hb hZ 2 rfl hS hown (hts _ (List.mem_cons_of_mem _ mw_174)) (fun _ h9 => h9) dX3_does_66 ?_
    refine lv_iload hx hb dX3_does_69 (lv_at hl 3 rfl) ?_
    refine sg_sald hx hb hZ 2 rfl hS (y := 3) (N := 8) (vp_in_iff.mpr (by decide)) dX3_does_71 ?_
    refine W.eq (g2 := F0 m 72 ls [.int 2, .int 40, .ref (h 36)]) (by rfl) ?_
    refine lv_iload_n hx hb dX3_does_72 rfl (lv_at hl 1 rfl) ?_
    refine lv_iload hx hb dX3_does_73 (lv_at hl 2 rfl) ?_
    refine lv_iconst (v := 1) hx hb dX3_does_75 (by decide) ?_
    refine lv_iadd hx hb dX3_does_76 ?_
    refine W.eq (g2 := F0 m 77 ls [.int 3, .int x2, .int 2, .int 40, .ref (h 36)]) (by rw [show (2 + 1 : Int32) = 3 from by decide]) ?_
    have c_12 : v_9 = 7 := Int32.toInt_inj.mp (by have k9 : (7 : Int32).toInt = 7 := (by decide); omega)
    have q_13 : (f_11 36 3).toInt = 7 := (congrArg Int32.toInt (show f_11 36 3 = 7 from (Eq.trans (by rw [ef_11, sg_up_s, sgu_s]) c_12))).trans (by decide)
    have q_14 : (f_11 36 3).toInt = 7 := (congrArg Int32.toInt (show f_11 36 3 = 7 from (Eq.trans (by rw [ef_11, sg_up_s, sgu_s]) c_12))).trans (by decide)
    refine sg_calli (va_runV (As := [.int 40, .int 2, .int x2, .int 3]) (rest := []) ⟨hx, hb, hml, hown, hts⟩ (kX3_runs_40_2_3_f7_f5 l D ca za h hh f_11 L Q hI x2 (Eq.trans (by rw [ef_11, sg_up_s, sgu_s]) c_12) (by rw [ef_11, sg_up_s, sgu_n (by decide)]; exact m_8) (by omega) (by have k0 : (40 : Int32).toInt = 40 := (by decide); have k1 : (2 : Int32).toInt = 2 := (by decide); have k3 : (3 : Int32).toInt = 3 := (by decide); omega) H.size) (cwV 4 hts (gw_V (fun _ h => List.mem_cons_of_mem _ h) mw_311 mw_312 mw_313 mw_47 mw_310) rfl rfl rfl (by decide +kernel) ⟨Nat.le_of_ble_eq_true rfl, Nat.le_of_ble_eq_true rfl⟩) (sg_preV (ci := 3) (C := RX3) (T := TX3) (N := 6) hA hK hP hS hZ 36 (by decide) rfl rfl) rfl rfl hl.1 rfl (lv_room (Nat.le_of_ble_eq_true rfl)) dX3_does_77 ⟨Nat.le_refl _, Nat.le_refl _⟩) hA hS (fun r_18 f_15 L_16 Q_17 H locs hq hP hS => ?_)
    obtain ⟨⟨hI, hk_f_15, eL9, eQ9⟩, hq, p_19⟩ := hq
    rw [eL9, eQ9] at hP; clear eL9 eQ9
    have hF : sgK WkX3_does_5_2_2_f6_f5 f f_15 := sgK.tr hF hk_f_15 (by decide)
    obtain ⟨v_20, ev_20⟩ : ∃ z : Int32, z = f_15 36 3 := ⟨_, rfl⟩
    have q_21 : 0 ≤ v_20.toInt ∧ v_20.toInt ≤ 19 := by rw [ev_20]; exact hI 36 3
    have q_22 : (f_15 36 3).toInt = v_20.toInt := (congrArg Int32.toInt (show f_15 36 3 = v_20 from ev_20.symm))
    have q_23 : (f_15 36 3).toInt = v_20.toInt := (congrArg Int32.toInt (show f_15 36 3 = v_20 from ev_20.symm))
    have k_24 : (40 : Int32).toInt = 40 := by decide
    have k_25 : (2 : Int32).toInt = 2 := by decide
    have k_26 : (3 : Int32).toInt = 3 := by decide
    have q_27 : (f_15 36 3).toInt = v_20.toInt := (congrArg Int32.toInt (show f_15 36 3 = v_20 from ev_20.symm))
    have q_28 : (f_15 36 3).toInt = v_20.toInt := (congrArg Int32.toInt (show f_15 36 3 = v_20 from ev_20.symm))
    exact hret _ _ _ _ (r_18) f_15 L Q dX3_does_80 hP hS ⟨⟨hI, hF, rfl, rfl⟩, trivial, (by omega)⟩
  refine lv_iload_n hx hb dX3_does_0 rfl (lv_at hl 1 rfl) ?_
  refine lv_iload_n hx hb dX3_does_1 rfl (lv_at hl 2 rfl) ?_
  refine sg_calli (va_runS (As := [.int 5, .int 2]) (rest := []) ⟨hx, hb, hml, hown, hts⟩ (kX3_ownerOf_5_2 l D ca za h hh f L Q hI H.size) (va_cwS 2 hts (gw_S (fun _ h => List.mem_cons_of_mem _ h) mw_189 mw_190 mw_47 mw_188) rfl rfl rfl (by decide +kernel) ⟨Nat.le_of_ble_eq_true rfl, Nat.le_of_ble_eq_true rfl⟩) (sg_preS hA hK hP hS hZ) rfl rfl hl.1 rfl (lv_room (Nat.le_of_ble_eq_true rfl)) dX3_does_2 ⟨Nat.le_refl _, Nat.le_refl _⟩) hA hS (fun r_32 f_29 L_30 Q_31 H locs hq hP hS => ?_)
  obtain ⟨⟨ef9, eL9, eQ9⟩, hq⟩ := hq
  rw [ef9, eL9, eQ9] at hP; clear ef9 eL9 eQ9
  obtain rfl : r_32 = 3 := Int32.toInt_inj.mp (by have k9 : (3 : Int32).toInt = 3 := (by decide); omega)
  refine lv_istore (lv' := [(5, .int 3), (0, .ref (h 36)), (1, .int 5), (2, .int 2), (3, .int x2), (4, .int 2)]) hx hb dX3_does_5 hl (by decide) rfl (fun ls hl => ?_)
  refine lv_iload hx hb dX3_does_7 (lv_at hl 0 rfl) ?_
  refine lv_if_lt (tgt := 19) hx hb dX3_does_9 (by decide) (fun c => absurd c (by decide)) (fun c => ?_)
  refine lv_iload hx hb dX3_does_12 (lv_at hl 5 rfl) ?_
  refine lv_bipush (v := 40) hx hb dX3_does_14 (by decide) ?_
  refine lv_icmp_le (tgt := 21) hx hb dX3_does_16 (by decide) (fun c => ?_) (fun c => absurd c (by decide))
  refine sg_gets hx hb hZ 3 rfl hS hown (hts _ (List.mem_cons_of_mem _ mw_173)) (fun _ h9 => h9) dX3_does_21 ?_
  refine lv_iload hx hb dX3_does_24 (lv_at hl 0 rfl) ?_
  refine lv_iconst (v := 4) hx hb dX3_does_26 (by decide) ?_
  refine lv_imul hx hb dX3_does_27 ?_
  refine W.eq (g2 := F0 m 28 ls [.int 12, .ref (za 3)]) (by rw [show (3 * 4 : Int32) = 12 from by decide]) ?_
  refine lv_iload_n hx hb dX3_does_28 rfl (lv_at hl 3 rfl) ?_
  refine lv_iadd hx hb dX3_does_29 ?_
  refine W.eq (g2 := F0 m 30 ls [.int 14, .ref (za 3)]) (by rw [show (12 + 2 : Int32) = 14 from by decide]) ?_
  refine sg_sald hx hb hZ 3 rfl hS (y := 14) (N := 32) (vp_in_iff.mpr (by decide)) dX3_does_30 ?_
  refine W.eq (g2 := F0 m 31 ls [.int 40]) (by rfl) ?_
  refine lv_istore (lv' := [(6, .int 40), (5, .int 3), (0, .ref (h 36)), (1, .int 5), (2, .int 2), (3, .int x2), (4, .int 2)]) hx hb dX3_does_31 hl (by decide) rfl (fun ls hl => ?_)
  refine lv_aload_n hx hb dX3_does_33 rfl (lv_at hl 2 rfl) ?_
  refine sg_get (ci := 3) (v := .int 6) (C := RX3) (T := TX3) (N := 6) hx hb hts (fun w h => List.mem_cons_of_mem _ (gx_3 w h)) hown hK hP 36 (by decide) rfl rfl 3 (by decide) (hts _ (List.mem_cons_of_mem _ mw_16)) (fun _ h9 => h9) (congrArg (fun z => some (Value.int z)) (show f 36 3 = 6 from hf_36_3)) dX3_does_34 ?_
  refine lv_bipush (v := 24) hx hb dX3_does_37 (by decide) ?_
  refine lv_icmp_ge (tgt := 53) hx hb dX3_does_39 (by decide) (fun c => absurd c (by decide)) (fun c => ?_)
  refine lv_aload_n hx hb dX3_does_42 rfl (lv_at hl 2 rfl) ?_
  refine sg_get (ci := 3) (v := .ref (h 38)) (C := RX3) (T := TX3) (N := 6) hx hb hts (fun w h => List.mem_cons_of_mem _ (gx_3 w h)) hown hK hP 36 (by decide) rfl rfl 1 (by decide) (hts _ (List.mem_cons_of_mem _ mw_191)) (fun _ h9 => h9) rfl dX3_does_43 ?_
  refine lv_aload_n hx hb dX3_does_46 rfl (lv_at hl 2 rfl) ?_
  refine sg_get (ci := 3) (v := .int 6) (C := RX3) (T := TX3) (N := 6) hx hb hts (fun w h => List.mem_cons_of_mem _ (gx_3 w h)) hown hK hP 36 (by decide) rfl rfl 3 (by decide) (hts _ (List.mem_cons_of_mem _ mw_16)) (fun _ h9 => h9) (congrArg (fun z => some (Value.int z)) (show f 36 3 = 6 from hf_36_3)) dX3_does_47 ?_
  refine lv_iload hx hb dX3_does_50 (lv_at hl 0 rfl) ?_
  refine sg_iast hx hb hh hA hK hP hS 38 (by decide) 0 (fun _ => rfl) rfl (i := 6) (x := 40) (vp_in_iff.mpr (by decide)) dX3_does_52 (fun f_33 H locs ef_33 hP hS => ?_)
  have hI : sgI loX hiX f_33 := by rw [ef_33]; exact sgI.put hI 38 (Int32.toNatClampNeg 6) (show 0 ≤ (40 : Int32).toInt ∧ (40 : Int32).toInt ≤ 81 from by decide)
  have hF : sgK WkX3_does_5_2_2_f6_f5 f f_33 := sgK.put hF ef_33 (by rfl)
  exact blk_53 f_33 _ _ _ (by have zz36_3 : (f_33 36 3).toInt = 6 := (congrArg Int32.toInt (show f_33 36 3 = 6 from (by rw [ef_33, sg_up_n (by decide)]; exact hf_36_3))).trans (by decide); omega) (by have zz36_4 : (f_33 36 4).toInt = 5 := (congrArg Int32.toInt (show f_33 36 4 = 5 from (by rw [ef_33, sg_up_n (by decide)]; exact hf_36_4))).trans (by decide); omega) hI hF hP hS (lv_sub hl [2, 5, 6, 1, 0] rfl)

abbrev WkX3_runs_2_m1_2_f2_f5 : List (Nat × Nat × Option Nat) := [(36, 36, some 3), (38, 38, none)]
set_option maxHeartbeats 4000000 in
set_option maxRecDepth 100000 in
theorem kX3_runs_2_m1_2_f2_f5 (l : Launch) (D : va_G) (ca : Nat → ClassId) (za h : Nat → Nat) (hh : sgH 52 h) (f : sg_F) (L : sg_L) (Q : sg_Q) (hI : sgI loX hiX f) (x2 : Int32) (hf_36_3 : f 36 3 = 2) (hf_36_4 : f 36 4 = 5) (p0 : 2 ≤ (f 36 3).toInt ∧ (f 36 3).toInt ≤ 2) (sz : Nat) : Met l yX3_runs gwX3_runs { frames := 8, cells := 0, slots := 0, locals := 200 } (sgP D vwCl (tyX ca) 52 h (eX ca h) zcX za f L Q sz [.ref (h 36), .int 2, .int (-1), .int x2, .int 2]) (sgQi D vwCl 52 h (eX ca h) sz (fun r f1 L1 Q1 => ((sgI loX hiX f1 ∧ sgK WkX3_runs_2_m1_2_f2_f5 f f1 ∧ L1 = L ∧ Q1 = Q) ∧ True ∧ (8 ≤ (f1 36 3).toInt ∧ (f1 36 3).toInt ≤ 8)))) 0 0 (sgA 52 h sz) := by
  refine sg_ofWi (cc := cX3_runs) (maxL := 5) RX3 (by decide) rfl rfl (Nat.le_of_ble_eq_true rfl) ?_
  intro p e s m below meth cd Qz ls hx hb hml hown hts hK hZ hP hS hl hret
  have hA := sgY.self (n := 52) (h := h) (sz := s.heap.size)
  have hl : lv_has ls 5 [(0, .ref (h 36)), (1, .int 2), (2, .int (-1)), (3, .int x2), (4, .int 2)] := hl
  obtain ⟨H, hH⟩ : ∃ z : Heap, z = s.heap := ⟨_, rfl⟩
  obtain ⟨locs, hlo⟩ : ∃ z : List Loc, z = [] := ⟨_, rfl⟩
  have hP : va_P D vwCl (sgw 52 h (eX ca h) f L Q) H := by rw [hH]; exact hP
  have hS : va_S (sgA 52 h s.heap.size) s.heap H locs := by rw [hH, hlo]; exact hS
  suffices hgo : W p l e ({ frames := 8, cells := 0, slots := 0, locals := 200 }) s m ([.ref (h 36), .int 2, .int (-1), .int x2, .int 2] : List Value).toArray below meth cd H locs 0 0 Qz (F0 m 0 ls []) by rw [hH, hlo] at hgo; exact hgo
  clear hH hlo
  have o_1 : (f 36 3).toInt = 2 := (congrArg Int32.toInt (show f 36 3 = 2 from hf_36_3)).trans (by decide)
  have hF : sgK WkX3_runs_2_m1_2_f2_f5 f f := sgK.rf
  refine lv_iload_n hx hb dX3_runs_0 rfl (lv_at hl 1 rfl) ?_
  refine lv_lookup (x := 2) (off := 122) (tgt := 123) hx hb dX3_runs_1 (by decide) (by decide) (by decide) ?_
  refine lv_aload_n hx hb dX3_runs_123 rfl (lv_at hl 0 rfl) ?_
  refine lv_aload_n hx hb dX3_runs_124 rfl (lv_at hl 0 rfl) ?_
  refine sg_get (ci := 3) (v := .int 5) (C := RX3) (T := TX3) (N := 6) hx hb hts (fun w h => List.mem_cons_of_mem _ (gx_3 w h)) hown hK hP 36 (by decide) rfl rfl 4 (by decide) (hts _ (List.mem_cons_of_mem _ mw_105)) (fun _ h9 => h9) (congrArg (fun z => some (Value.int z)) (show f 36 4 = 5 from hf_36_4)) dX3_runs_125 ?_
  refine lv_iconst (v := 1) hx hb dX3_runs_128 (by decide) ?_
  refine lv_iload_n hx hb dX3_runs_129 rfl (lv_at hl 3 rfl) ?_
  refine lv_iload hx hb dX3_runs_130 (lv_at hl 4 rfl) ?_
  have q_2 : (f 36 3).toInt = 2 := (congrArg Int32.toInt (show f 36 3 = 2 from hf_36_3)).trans (by decide)
  have q_3 : (f 36 3).toInt = 2 := (congrArg Int32.toInt (show f 36 3 = 2 from hf_36_3)).trans (by decide)
  refine sg_calli (va_runV (As := [.int 5, .int 1, .int x2, .int 2]) (rest := []) ⟨hx, hb, hml, hown, hts⟩ (kX3_does_5_1_2_f2_f5 l D ca za h hh f L Q hI x2 hf_36_3 hf_36_4 (by have k0 : (5 : Int32).toInt = 5 := (by decide); have k1 : (1 : Int32).toInt = 1 := (by decide); have k3 : (2 : Int32).toInt = 2 := (by decide); omega) H.size) (cwV 4 hts (gw_V (fun _ h => List.mem_cons_of_mem _ h) mw_318 mw_319 mw_320 mw_47 mw_317) rfl rfl rfl (by decide +kernel) ⟨Nat.le_of_ble_eq_true rfl, Nat.le_of_ble_eq_true rfl⟩) (sg_preV (ci := 3) (C := RX3) (T := TX3) (N := 6) hA hK hP hS hZ 36 (by decide) rfl rfl) rfl rfl hl.1 rfl (lv_room (Nat.le_of_ble_eq_true rfl)) dX3_runs_132 ⟨Nat.le_refl _, Nat.le_refl _⟩) hA hS (fun r_7 f_4 L_5 Q_6 H locs hq hP hS => ?_)
  obtain ⟨⟨hI, hk_f_4, eL9, eQ9⟩, hq, p_8⟩ := hq
  rw [eL9, eQ9] at hP; clear eL9 eQ9
  have hF : sgK WkX3_runs_2_m1_2_f2_f5 f f_4 := sgK.tr hF hk_f_4 (by decide)
  obtain ⟨v_9, ev_9⟩ : ∃ z : Int32, z = f_4 36 3 := ⟨_, rfl⟩
  have q_10 : 0 ≤ v_9.toInt ∧ v_9.toInt ≤ 19 := by rw [ev_9]; exact hI 36 3
  have q_11 : (f_4 36 3).toInt = v_9.toInt := (congrArg Int32.toInt (show f_4 36 3 = v_9 from ev_9.symm))
  have q_12 : (f_4 36 3).toInt = v_9.toInt := (congrArg Int32.toInt (show f_4 36 3 = v_9 from ev_9.symm))
  have k_13 : (5 : Int32).toInt = 5 := by decide
  have k_14 : (1 : Int32).toInt = 1 := by decide
  have k_15 : (2 : Int32).toInt = 2 := by decide
  refine lv_aload_n hx hb dX3_runs_135 rfl (lv_at hl 0 rfl) ?_
  refine lv_aload_n hx hb dX3_runs_136 rfl (lv_at hl 0 rfl) ?_
  refine sg_get (ci := 3) (v := .int 5) (C := RX3) (T := TX3) (N := 6) hx hb hts (fun w h => List.mem_cons_of_mem _ (gx_3 w h)) hown hK hP 36 (by decide) rfl rfl 4 (by decide) (hts _ (List.mem_cons_of_mem _ mw_105)) (fun _ h9 => h9) (congrArg (fun z => some (Value.int z)) (show f_4 36 4 = 5 from ((hk_f_4 36 4 (by decide)).trans hf_36_4))) dX3_runs_137 ?_
  refine lv_iconst (v := 2) hx hb dX3_runs_140 (by decide) ?_
  refine lv_iconst (v := 1) hx hb dX3_runs_141 (by decide) ?_
  refine lv_iload hx hb dX3_runs_142 (lv_at hl 4 rfl) ?_
  have c_16 : v_9 = 6 := Int32.toInt_inj.mp (by have k9 : (6 : Int32).toInt = 6 := (by decide); omega)
  have q_17 : (f_4 36 3).toInt = 6 := (congrArg Int32.toInt (show f_4 36 3 = 6 from (Eq.trans ev_9.symm c_16))).trans (by decide)
  have q_18 : (f_4 36 3).toInt = 6 := (congrArg Int32.toInt (show f_4 36 3 = 6 from (Eq.trans ev_9.symm c_16))).trans (by decide)
  refine sg_calli (va_runV (As := [.int 5, .int 2, .int 1, .int 2]) (rest := [.int r_7]) ⟨hx, hb, hml, hown, hts⟩ (kX3_does_5_2_2_f6_f5 l D ca za h hh f_4 L Q hI 1 (Eq.trans ev_9.symm c_16) ((hk_f_4 36 4 (by decide)).trans hf_36_4) (by decide) (by have k0 : (5 : Int32).toInt = 5 := (by decide); have k1 : (2 : Int32).toInt = 2 := (by decide); have k2 : (1 : Int32).toInt = 1 := (by decide); have k3 : (2 : Int32).toInt = 2 := (by decide); omega) H.size) (cwV 4 hts (gw_V (fun _ h => List.mem_cons_of_mem _ h) mw_318 mw_319 mw_320 mw_47 mw_317) rfl rfl rfl (by decide +kernel) ⟨Nat.le_of_ble_eq_true rfl, Nat.le_of_ble_eq_true rfl⟩) (sg_preV (ci := 3) (C := RX3) (T := TX3) (N := 6) hA hK hP hS hZ 36 (by decide) rfl rfl) rfl rfl hl.1 rfl (lv_room (Nat.le_of_ble_eq_true rfl)) dX3_runs_144 ⟨Nat.le_refl _, Nat.le_refl _⟩) hA hS (fun r_22 f_19 L_20 Q_21 H locs hq hP hS => ?_)
  obtain ⟨⟨hI, hk_f_19, eL9, eQ9⟩, hq, p_23⟩ := hq
  rw [eL9, eQ9] at hP; clear eL9 eQ9
  have hF : sgK WkX3_runs_2_m1_2_f2_f5 f f_19 := sgK.tr hF hk_f_19 (by decide)
  obtain ⟨v_24, ev_24⟩ : ∃ z : Int32, z = f_19 36 3 := ⟨_, rfl⟩
  have q_25 : 0 ≤ v_24.toInt ∧ v_24.toInt ≤ 19 := by rw [ev_24]; exact hI 36 3
  have q_26 : (f_19 36 3).toInt = v_24.toInt := (congrArg Int32.toInt (show f_19 36 3 = v_24 from ev_24.symm))
  have q_27 : (f_19 36 3).toInt = v_24.toInt := (congrArg Int32.toInt (show f_19 36 3 = v_24 from ev_24.symm))
  have k_28 : (5 : Int32).toInt = 5 := by decide
  have k_29 : (2 : Int32).toInt = 2 := by decide
  have k_30 : (1 : Int32).toInt = 1 := by decide
  have k_31 : (2 : Int32).toInt = 2 := by decide
  refine lv_isub hx hb dX3_runs_147 ?_
  refine lv_topi (fun v_32 ev_32 => ?_)
  have q_33 : (f_19 36 3).toInt = v_24.toInt := (congrArg Int32.toInt (show f_19 36 3 = v_24 from ev_24.symm))
  have q_34 : (f_19 36 3).toInt = v_24.toInt := (congrArg Int32.toInt (show f_19 36 3 = v_24 from ev_24.symm))
  exact hret _ _ _ _ (v_32) f_19 L Q dX3_runs_148 hP hS ⟨⟨hI, hF, rfl, rfl⟩, trivial, (by omega)⟩

abbrev WkX3_does_3_3_1_f1_f5 : List (Nat × Nat × Option Nat) := [(36, 36, some 3), (38, 38, none)]
set_option maxHeartbeats 4000000 in
set_option maxRecDepth 100000 in
theorem kX3_does_3_3_1_f1_f5 (l : Launch) (D : va_G) (ca : Nat → ClassId) (za h : Nat → Nat) (hh : sgH 52 h) (f : sg_F) (L : sg_L) (Q : sg_Q) (hI : sgI loX hiX f) (x2 : Int32) (hf_36_3 : f 36 3 = 1) (hf_36_4 : f 36 4 = 5) (p0 : 1 ≤ (f 36 3).toInt ∧ (f 36 3).toInt ≤ 1) (sz : Nat) : Met l yX3_does gwX3_does { frames := 9, cells := 0, slots := 0, locals := 224 } (sgP D vwCl (tyX ca) 52 h (eX ca h) zcX za f L Q sz [.ref (h 36), .int 3, .int 3, .int x2, .int 1]) (sgQi D vwCl 52 h (eX ca h) sz (fun r f1 L1 Q1 => ((sgI loX hiX f1 ∧ sgK WkX3_does_3_3_1_f1_f5 f f1 ∧ L1 = L ∧ Q1 = Q) ∧ True ∧ (8 ≤ (f1 36 3).toInt ∧ (f1 36 3).toInt ≤ 8)))) 0 0 (sgA 52 h sz) := by
  refine sg_ofWi (cc := cX3_does) (maxL := 7) RX3 (by decide) rfl rfl (Nat.le_of_ble_eq_true rfl) ?_
  intro p e s m below meth cd Qz ls hx hb hml hown hts hK hZ hP hS hl hret
  have hA := sgY.self (n := 52) (h := h) (sz := s.heap.size)
  have hl : lv_has ls 7 [(0, .ref (h 36)), (1, .int 3), (2, .int 3), (3, .int x2), (4, .int 1)] := hl
  obtain ⟨H, hH⟩ : ∃ z : Heap, z = s.heap := ⟨_, rfl⟩
  obtain ⟨locs, hlo⟩ : ∃ z : List Loc, z = [] := ⟨_, rfl⟩
  have hP : va_P D vwCl (sgw 52 h (eX ca h) f L Q) H := by rw [hH]; exact hP
  have hS : va_S (sgA 52 h s.heap.size) s.heap H locs := by rw [hH, hlo]; exact hS
  suffices hgo : W p l e ({ frames := 9, cells := 0, slots := 0, locals := 224 }) s m ([.ref (h 36), .int 3, .int 3, .int x2, .int 1] : List Value).toArray below meth cd H locs 0 0 Qz (F0 m 0 ls []) by rw [hH, hlo] at hgo; exact hgo
  clear hH hlo
  have o_1 : (f 36 3).toInt = 1 := (congrArg Int32.toInt (show f 36 3 = 1 from hf_36_3)).trans (by decide)
  have hF : sgK WkX3_does_3_3_1_f1_f5 f f := sgK.rf
  have blk_53 : ∀ (fp_53 : sg_F) (H : Heap) (locs : List Loc) (ls : Array Slot), 1 ≤ (fp_53 36 3).toInt ∧ (fp_53 36 3).toInt ≤ 1 → 5 ≤ (fp_53 36 4).toInt ∧ (fp_53 36 4).toInt ≤ 5 → sgI loX hiX fp_53 → sgK WkX3_does_3_3_1_f1_f5 f fp_53 → va_P D vwCl (sgw 52 h (eX ca h) fp_53 L Q) H → va_S (sgA 52 h s.heap.size) s.heap H locs → lv_has ls 7 [(0, .ref (h 36)), (3, .int x2), (4, .int 1), (5, .int 0), (6, .int 2)] → W p l e ({ frames := 9, cells := 0, slots := 0, locals := 224 }) s m ([.ref (h 36), .int 3, .int 3, .int x2, .int 1] : List Value).toArray below meth cd H locs 0 0 Qz (F0 m 53 ls []) := by
    intro fp_53 H locs ls hy0_53 hy1_53 hI hF hP hS hl
    obtain ⟨v_2, ev_2⟩ : ∃ z : Int32, z = fp_53 36 3 := ⟨_, rfl⟩
    have q_3 : 0 ≤ v_2.toInt ∧ v_2.toInt ≤ 19 := by rw [ev_2]; exact hI 36 3
    have q_4 : (fp_53 36 3).toInt = v_2.toInt := by rw [ev_2]
    obtain ⟨v_5, ev_5⟩ : ∃ z : Int32, z = fp_53 36 4 := ⟨_, rfl⟩
    have q_6 : 0 ≤ v_5.toInt ∧ v_5.toInt ≤ 7 := by rw [ev_5]; exact hI 36 4
    have q_7 : (fp_53 36 4).toInt = v_5.toInt := by rw [ev_5]
    have m_8 : fp_53 36 4 = 5 := (hF 36 4 (by decide)).trans hf_36_4
    refine lv_aload_n hx hb dX3_does_53 rfl (lv_at hl 0 rfl) ?_
    refine lv_dup hx hb dX3_does_54 rfl ?_
    refine sg_get (ci := 3) (v := .int v_2) (C := RX3) (T := TX3) (N := 6) hx hb hts (fun w h => List.mem_cons_of_mem _ (gx_3 w h)) hown hK hP 36 (by decide) rfl rfl 3 (by decide) (hts _ (List.mem_cons_of_mem _ mw_16)) (fun _ h9 => h9) (congrArg (fun z => some (Value.int z)) (show fp_53 36 3 = v_2 from ev_2.symm)) dX3_does_55 ?_
    refine lv_iconst (v := 1) hx hb dX3_does_58 (by decide) ?_
    refine lv_iadd hx hb dX3_does_59 ?_
    refine lv_topi (fun v_9 ev_9 => ?_)
    have q_10 : v_9.toInt = v_2.toInt + 1 := by rw [ev_9]; have k1 : (1 : Int32).toInt = 1 := (by decide); exact (bn_addI (by omega) (by omega)).trans (by omega)
    refine sg_put (ci := 3) (x := v_9) (ty := .int) (C := RX3) (T := TX3) (N := 6) hx hb hts (fun w h => List.mem_cons_of_mem _ (gx_3 w h)) tyX3 tyX3_ok nmX3 hown hh hA hK hP hS 36 (by decide) rfl rfl 3 (by decide) (hts _ (List.mem_cons_of_mem _ mw_16)) (fun _ h9 => h9) rfl rfl (by decide +kernel) rfl rfl (Nat.le_of_ble_eq_true rfl) dX3_does_60 (fun f_11 H locs ef_11 hP hS => ?_)
    have hI : sgI loX hiX f_11 := by rw [ef_11]; exact sgI.put hI 36 3 (show 0 ≤ (v_9 : Int32).toInt ∧ (v_9 : Int32).toInt ≤ 19 from by omega)
    have hF : sgK WkX3_does_3_3_1_f1_f5 f f_11 := sgK.put hF ef_11 (by rfl)
    refine lv_aload_n hx hb dX3_does_63 rfl (lv_at hl 0 rfl) ?_
    refine lv_iload hx hb dX3_does_64 (lv_at hl 4 rfl) ?_
    refine sg_gets hx hb hZ 2 rfl hS hown (hts _ (List.mem_cons_of_mem _ mw_174)) (fun _ h9 => h9) dX3_does_66 ?_
    refine lv_iload hx hb dX3_does_69 (lv_at hl 3 rfl) ?_
    refine sg_sald hx hb hZ 2 rfl hS (y := 0) (N := 8) (vp_in_iff.mpr (by decide)) dX3_does_71 ?_
    refine W.eq (g2 := F0 m 72 ls [.int (-1), .int 2, .ref (h 36)]) (by rfl) ?_
    refine lv_iload_n hx hb dX3_does_72 rfl (lv_at hl 1 rfl) ?_
    refine lv_iload hx hb dX3_does_73 (lv_at hl 2 rfl) ?_
    refine lv_iconst (v := 1) hx hb dX3_does_75 (by decide) ?_
    refine lv_iadd hx hb dX3_does_76 ?_
    refine W.eq (g2 := F0 m 77 ls [.int 2, .int x2, .int (-1), .int 2, .ref (h 36)]) (by rw [show (1 + 1 : Int32) = 2 from by decide]) ?_
    have c_12 : v_9 = 2 := Int32.toInt_inj.mp (by have k9 : (2 : Int32).toInt = 2 := (by decide); omega)
    have q_13 : (f_11 36 3).toInt = 2 := (congrArg Int32.toInt (show f_11 36 3 = 2 from (Eq.trans (by rw [ef_11, sg_up_s, sgu_s]) c_12))).trans (by decide)
    have q_14 : (f_11 36 3).toInt = 2 := (congrArg Int32.toInt (show f_11 36 3 = 2 from (Eq.trans (by rw [ef_11, sg_up_s, sgu_s]) c_12))).trans (by decide)
    refine sg_calli (va_runV (As := [.int 2, .int (-1), .int x2, .int 2]) (rest := []) ⟨hx, hb, hml, hown, hts⟩ (kX3_runs_2_m1_2_f2_f5 l D ca za h hh f_11 L Q hI x2 (Eq.trans (by rw [ef_11, sg_up_s, sgu_s]) c_12) (by rw [ef_11, sg_up_s, sgu_n (by decide)]; exact m_8) (by have k0 : (2 : Int32).toInt = 2 := (by decide); have k1 : ((-1) : Int32).toInt = (-1) := (by decide); have k3 : (2 : Int32).toInt = 2 := (by decide); omega) H.size) (cwV 4 hts (gw_V (fun _ h => List.mem_cons_of_mem _ h) mw_311 mw_312 mw_313 mw_47 mw_310) rfl rfl rfl (by decide +kernel) ⟨Nat.le_of_ble_eq_true rfl, Nat.le_of_ble_eq_true rfl⟩) (sg_preV (ci := 3) (C := RX3) (T := TX3) (N := 6) hA hK hP hS hZ 36 (by decide) rfl rfl) rfl rfl hl.1 rfl (lv_room (Nat.le_of_ble_eq_true rfl)) dX3_does_77 ⟨Nat.le_refl _, Nat.le_refl _⟩) hA hS (fun r_18 f_15 L_16 Q_17 H locs hq hP hS => ?_)
    obtain ⟨⟨hI, hk_f_15, eL9, eQ9⟩, hq, p_19⟩ := hq
    rw [eL9, eQ9] at hP; clear eL9 eQ9
    have hF : sgK WkX3_does_3_3_1_f1_f5 f f_15 := sgK.tr hF hk_f_15 (by decide)
    obtain ⟨v_20, ev_20⟩ : ∃ z : Int32, z = f_15 36 3 := ⟨_, rfl⟩
    have q_21 : 0 ≤ v_20.toInt ∧ v_20.toInt ≤ 19 := by rw [ev_20]; exact hI 36 3
    have q_22 : (f_15 36 3).toInt = v_20.toInt := (congrArg Int32.toInt (show f_15 36 3 = v_20 from ev_20.symm))
    have q_23 : (f_15 36 3).toInt = v_20.toInt := (congrArg Int32.toInt (show f_15 36 3 = v_20 from ev_20.symm))
    have k_24 : (2 : Int32).toInt = 2 := by decide
    have k_25 : ((-1) : Int32).toInt = (-1) := by decide
    have k_26 : (2 : Int32).toInt = 2 := by decide
    have q_27 : (f_15 36 3).toInt = v_20.toInt := (congrArg Int32.toInt (show f_15 36 3 = v_20 from ev_20.symm))
    have q_28 : (f_15 36 3).toInt = v_20.toInt := (congrArg Int32.toInt (show f_15 36 3 = v_20 from ev_20.symm))
    exact hret _ _ _ _ (r_18) f_15 L Q dX3_does_80 hP hS ⟨⟨hI, hF, rfl, rfl⟩, trivial, (by omega)⟩
  refine lv_iload_n hx hb dX3_does_0 rfl (lv_at hl 1 rfl) ?_
  refine lv_iload_n hx hb dX3_does_1 rfl (lv_at hl 2 rfl) ?_
  refine sg_calli (va_runS (As := [.int 3, .int 3]) (rest := []) ⟨hx, hb, hml, hown, hts⟩ (kX3_ownerOf_3_3 l D ca za h hh f L Q hI H.size) (va_cwS 2 hts (gw_S (fun _ h => List.mem_cons_of_mem _ h) mw_189 mw_190 mw_47 mw_188) rfl rfl rfl (by decide +kernel) ⟨Nat.le_of_ble_eq_true rfl, Nat.le_of_ble_eq_true rfl⟩) (sg_preS hA hK hP hS hZ) rfl rfl hl.1 rfl (lv_room (Nat.le_of_ble_eq_true rfl)) dX3_does_2 ⟨Nat.le_refl _, Nat.le_refl _⟩) hA hS (fun r_32 f_29 L_30 Q_31 H locs hq hP hS => ?_)
  obtain ⟨⟨ef9, eL9, eQ9⟩, hq⟩ := hq
  rw [ef9, eL9, eQ9] at hP; clear ef9 eL9 eQ9
  obtain rfl : r_32 = 0 := Int32.toInt_inj.mp (by have k9 : (0 : Int32).toInt = 0 := (by decide); omega)
  refine lv_istore (lv' := [(5, .int 0), (0, .ref (h 36)), (1, .int 3), (2, .int 3), (3, .int x2), (4, .int 1)]) hx hb dX3_does_5 hl (by decide) rfl (fun ls hl => ?_)
  refine lv_iload hx hb dX3_does_7 (lv_at hl 0 rfl) ?_
  refine lv_if_lt (tgt := 19) hx hb dX3_does_9 (by decide) (fun c => absurd c (by decide)) (fun c => ?_)
  refine lv_iload hx hb dX3_does_12 (lv_at hl 5 rfl) ?_
  refine lv_bipush (v := 40) hx hb dX3_does_14 (by decide) ?_
  refine lv_icmp_le (tgt := 21) hx hb dX3_does_16 (by decide) (fun c => ?_) (fun c => absurd c (by decide))
  refine sg_gets hx hb hZ 3 rfl hS hown (hts _ (List.mem_cons_of_mem _ mw_173)) (fun _ h9 => h9) dX3_does_21 ?_
  refine lv_iload hx hb dX3_does_24 (lv_at hl 0 rfl) ?_
  refine lv_iconst (v := 4) hx hb dX3_does_26 (by decide) ?_
  refine lv_imul hx hb dX3_does_27 ?_
  refine W.eq (g2 := F0 m 28 ls [.int 0, .ref (za 3)]) (by rw [show (0 * 4 : Int32) = 0 from by decide]) ?_
  refine lv_iload_n hx hb dX3_does_28 rfl (lv_at hl 3 rfl) ?_
  refine lv_iadd hx hb dX3_does_29 ?_
  refine W.eq (g2 := F0 m 30 ls [.int 3, .ref (za 3)]) (by rw [show (0 + 3 : Int32) = 3 from by decide]) ?_
  refine sg_sald hx hb hZ 3 rfl hS (y := 3) (N := 32) (vp_in_iff.mpr (by decide)) dX3_does_30 ?_
  refine W.eq (g2 := F0 m 31 ls [.int 2]) (by rfl) ?_
  refine lv_istore (lv' := [(6, .int 2), (5, .int 0), (0, .ref (h 36)), (1, .int 3), (2, .int 3), (3, .int x2), (4, .int 1)]) hx hb dX3_does_31 hl (by decide) rfl (fun ls hl => ?_)
  refine lv_aload_n hx hb dX3_does_33 rfl (lv_at hl 2 rfl) ?_
  refine sg_get (ci := 3) (v := .int 1) (C := RX3) (T := TX3) (N := 6) hx hb hts (fun w h => List.mem_cons_of_mem _ (gx_3 w h)) hown hK hP 36 (by decide) rfl rfl 3 (by decide) (hts _ (List.mem_cons_of_mem _ mw_16)) (fun _ h9 => h9) (congrArg (fun z => some (Value.int z)) (show f 36 3 = 1 from hf_36_3)) dX3_does_34 ?_
  refine lv_bipush (v := 24) hx hb dX3_does_37 (by decide) ?_
  refine lv_icmp_ge (tgt := 53) hx hb dX3_does_39 (by decide) (fun c => absurd c (by decide)) (fun c => ?_)
  refine lv_aload_n hx hb dX3_does_42 rfl (lv_at hl 2 rfl) ?_
  refine sg_get (ci := 3) (v := .ref (h 38)) (C := RX3) (T := TX3) (N := 6) hx hb hts (fun w h => List.mem_cons_of_mem _ (gx_3 w h)) hown hK hP 36 (by decide) rfl rfl 1 (by decide) (hts _ (List.mem_cons_of_mem _ mw_191)) (fun _ h9 => h9) rfl dX3_does_43 ?_
  refine lv_aload_n hx hb dX3_does_46 rfl (lv_at hl 2 rfl) ?_
  refine sg_get (ci := 3) (v := .int 1) (C := RX3) (T := TX3) (N := 6) hx hb hts (fun w h => List.mem_cons_of_mem _ (gx_3 w h)) hown hK hP 36 (by decide) rfl rfl 3 (by decide) (hts _ (List.mem_cons_of_mem _ mw_16)) (fun _ h9 => h9) (congrArg (fun z => some (Value.int z)) (show f 36 3 = 1 from hf_36_3)) dX3_does_47 ?_
  refine lv_iload hx hb dX3_does_50 (lv_at hl 0 rfl) ?_
  refine sg_iast hx hb hh hA hK hP hS 38 (by decide) 0 (fun _ => rfl) rfl (i := 1) (x := 2) (vp_in_iff.mpr (by decide)) dX3_does_52 (fun f_33 H locs ef_33 hP hS => ?_)
  have hI : sgI loX hiX f_33 := by rw [ef_33]; exact sgI.put hI 38 (Int32.toNatClampNeg 1) (show 0 ≤ (2 : Int32).toInt ∧ (2 : Int32).toInt ≤ 81 from by decide)
  have hF : sgK WkX3_does_3_3_1_f1_f5 f f_33 := sgK.put hF ef_33 (by rfl)
  exact blk_53 f_33 _ _ _ (by have zz36_3 : (f_33 36 3).toInt = 1 := (congrArg Int32.toInt (show f_33 36 3 = 1 from (by rw [ef_33, sg_up_n (by decide)]; exact hf_36_3))).trans (by decide); omega) (by have zz36_4 : (f_33 36 4).toInt = 5 := (congrArg Int32.toInt (show f_33 36 4 = 5 from (by rw [ef_33, sg_up_n (by decide)]; exact hf_36_4))).trans (by decide); omega) hI hF hP hS (lv_sub hl [2, 5, 6, 1, 0] rfl)

abbrev WkX3_runs_60_3_1_f1_f5 : List (Nat × Nat × Option Nat) := [(36, 36, some 3), (38, 38, none)]
set_option maxHeartbeats 4000000 in
set_option maxRecDepth 100000 in
theorem kX3_runs_60_3_1_f1_f5 (l : Launch) (D : va_G) (ca : Nat → ClassId) (za h : Nat → Nat) (hh : sgH 52 h) (f : sg_F) (L : sg_L) (Q : sg_Q) (hI : sgI loX hiX f) (x2 : Int32) (hf_36_3 : f 36 3 = 1) (hf_36_4 : f 36 4 = 5) (p0 : 1 ≤ (f 36 3).toInt ∧ (f 36 3).toInt ≤ 1) (sz : Nat) : Met l yX3_runs gwX3_runs { frames := 10, cells := 0, slots := 0, locals := 250 } (sgP D vwCl (tyX ca) 52 h (eX ca h) zcX za f L Q sz [.ref (h 36), .int 60, .int 3, .int x2, .int 1]) (sgQi D vwCl 52 h (eX ca h) sz (fun r f1 L1 Q1 => ((sgI loX hiX f1 ∧ sgK WkX3_runs_60_3_1_f1_f5 f f1 ∧ L1 = L ∧ Q1 = Q) ∧ True ∧ (8 ≤ (f1 36 3).toInt ∧ (f1 36 3).toInt ≤ 8)))) 0 0 (sgA 52 h sz) := by
  refine sg_ofWi (cc := cX3_runs) (maxL := 5) RX3 (by decide) rfl rfl (Nat.le_of_ble_eq_true rfl) ?_
  intro p e s m below meth cd Qz ls hx hb hml hown hts hK hZ hP hS hl hret
  have hA := sgY.self (n := 52) (h := h) (sz := s.heap.size)
  have hl : lv_has ls 5 [(0, .ref (h 36)), (1, .int 60), (2, .int 3), (3, .int x2), (4, .int 1)] := hl
  obtain ⟨H, hH⟩ : ∃ z : Heap, z = s.heap := ⟨_, rfl⟩
  obtain ⟨locs, hlo⟩ : ∃ z : List Loc, z = [] := ⟨_, rfl⟩
  have hP : va_P D vwCl (sgw 52 h (eX ca h) f L Q) H := by rw [hH]; exact hP
  have hS : va_S (sgA 52 h s.heap.size) s.heap H locs := by rw [hH, hlo]; exact hS
  suffices hgo : W p l e ({ frames := 10, cells := 0, slots := 0, locals := 250 }) s m ([.ref (h 36), .int 60, .int 3, .int x2, .int 1] : List Value).toArray below meth cd H locs 0 0 Qz (F0 m 0 ls []) by rw [hH, hlo] at hgo; exact hgo
  clear hH hlo
  have o_1 : (f 36 3).toInt = 1 := (congrArg Int32.toInt (show f 36 3 = 1 from hf_36_3)).trans (by decide)
  have hF : sgK WkX3_runs_60_3_1_f1_f5 f f := sgK.rf
  refine lv_iload_n hx hb dX3_runs_0 rfl (lv_at hl 1 rfl) ?_
  refine lv_lookup (x := 60) (off := 240) (tgt := 241) hx hb dX3_runs_1 (by decide) (by decide) (by decide) ?_
  refine lv_aload_n hx hb dX3_runs_241 rfl (lv_at hl 0 rfl) ?_
  refine lv_iload_n hx hb dX3_runs_242 rfl (lv_at hl 2 rfl) ?_
  refine lv_iconst (v := 3) hx hb dX3_runs_243 (by decide) ?_
  refine lv_iload_n hx hb dX3_runs_244 rfl (lv_at hl 3 rfl) ?_
  refine lv_iload hx hb dX3_runs_245 (lv_at hl 4 rfl) ?_
  have q_2 : (f 36 3).toInt = 1 := (congrArg Int32.toInt (show f 36 3 = 1 from hf_36_3)).trans (by decide)
  have q_3 : (f 36 3).toInt = 1 := (congrArg Int32.toInt (show f 36 3 = 1 from hf_36_3)).trans (by decide)
  refine sg_calli (va_runV (As := [.int 3, .int 3, .int x2, .int 1]) (rest := []) ⟨hx, hb, hml, hown, hts⟩ (kX3_does_3_3_1_f1_f5 l D ca za h hh f L Q hI x2 hf_36_3 hf_36_4 (by have k0 : (3 : Int32).toInt = 3 := (by decide); have k1 : (3 : Int32).toInt = 3 := (by decide); have k3 : (1 : Int32).toInt = 1 := (by decide); omega) H.size) (cwV 4 hts (gw_V (fun _ h => List.mem_cons_of_mem _ h) mw_318 mw_319 mw_320 mw_47 mw_317) rfl rfl rfl (by decide +kernel) ⟨Nat.le_of_ble_eq_true rfl, Nat.le_of_ble_eq_true rfl⟩) (sg_preV (ci := 3) (C := RX3) (T := TX3) (N := 6) hA hK hP hS hZ 36 (by decide) rfl rfl) rfl rfl hl.1 rfl (lv_room (Nat.le_of_ble_eq_true rfl)) dX3_runs_247 ⟨Nat.le_refl _, Nat.le_refl _⟩) hA hS (fun r_7 f_4 L_5 Q_6 H locs hq hP hS => ?_)
  obtain ⟨⟨hI, hk_f_4, eL9, eQ9⟩, hq, p_8⟩ := hq
  rw [eL9, eQ9] at hP; clear eL9 eQ9
  have hF : sgK WkX3_runs_60_3_1_f1_f5 f f_4 := sgK.tr hF hk_f_4 (by decide)
  obtain ⟨v_9, ev_9⟩ : ∃ z : Int32, z = f_4 36 3 := ⟨_, rfl⟩
  have q_10 : 0 ≤ v_9.toInt ∧ v_9.toInt ≤ 19 := by rw [ev_9]; exact hI 36 3
  have q_11 : (f_4 36 3).toInt = v_9.toInt := (congrArg Int32.toInt (show f_4 36 3 = v_9 from ev_9.symm))
  have q_12 : (f_4 36 3).toInt = v_9.toInt := (congrArg Int32.toInt (show f_4 36 3 = v_9 from ev_9.symm))
  have k_13 : (3 : Int32).toInt = 3 := by decide
  have k_14 : (3 : Int32).toInt = 3 := by decide
  have k_15 : (1 : Int32).toInt = 1 := by decide
  refine lv_iconst (v := 5) hx hb dX3_runs_250 (by decide) ?_
  refine lv_ixor hx hb dX3_runs_251 ?_
  refine lv_topi (fun v_16 ev_16 => ?_)
  have q_17 : (f_4 36 3).toInt = v_9.toInt := (congrArg Int32.toInt (show f_4 36 3 = v_9 from ev_9.symm))
  have q_18 : (f_4 36 3).toInt = v_9.toInt := (congrArg Int32.toInt (show f_4 36 3 = v_9 from ev_9.symm))
  exact hret _ _ _ _ (v_16) f_4 L Q dX3_runs_252 hP hS ⟨⟨hI, hF, rfl, rfl⟩, trivial, (by omega)⟩

abbrev WkX3_does_5_3_0_f0_f5 : List (Nat × Nat × Option Nat) := [(36, 36, some 3), (38, 38, none)]
set_option maxHeartbeats 4000000 in
set_option maxRecDepth 100000 in
theorem kX3_does_5_3_0_f0_f5 (l : Launch) (D : va_G) (ca : Nat → ClassId) (za h : Nat → Nat) (hh : sgH 52 h) (f : sg_F) (L : sg_L) (Q : sg_Q) (hI : sgI loX hiX f) (x2 : Int32) (hf_36_3 : f 36 3 = 0) (hf_36_4 : f 36 4 = 5) (p0 : 0 ≤ (f 36 3).toInt ∧ (f 36 3).toInt ≤ 0) (sz : Nat) : Met l yX3_does gwX3_does { frames := 11, cells := 0, slots := 0, locals := 274 } (sgP D vwCl (tyX ca) 52 h (eX ca h) zcX za f L Q sz [.ref (h 36), .int 5, .int 3, .int x2, .int 0]) (sgQi D vwCl 52 h (eX ca h) sz (fun r f1 L1 Q1 => ((sgI loX hiX f1 ∧ sgK WkX3_does_5_3_0_f0_f5 f f1 ∧ L1 = L ∧ Q1 = Q) ∧ True ∧ (8 ≤ (f1 36 3).toInt ∧ (f1 36 3).toInt ≤ 8)))) 0 0 (sgA 52 h sz) := by
  refine sg_ofWi (cc := cX3_does) (maxL := 7) RX3 (by decide) rfl rfl (Nat.le_of_ble_eq_true rfl) ?_
  intro p e s m below meth cd Qz ls hx hb hml hown hts hK hZ hP hS hl hret
  have hA := sgY.self (n := 52) (h := h) (sz := s.heap.size)
  have hl : lv_has ls 7 [(0, .ref (h 36)), (1, .int 5), (2, .int 3), (3, .int x2), (4, .int 0)] := hl
  obtain ⟨H, hH⟩ : ∃ z : Heap, z = s.heap := ⟨_, rfl⟩
  obtain ⟨locs, hlo⟩ : ∃ z : List Loc, z = [] := ⟨_, rfl⟩
  have hP : va_P D vwCl (sgw 52 h (eX ca h) f L Q) H := by rw [hH]; exact hP
  have hS : va_S (sgA 52 h s.heap.size) s.heap H locs := by rw [hH, hlo]; exact hS
  suffices hgo : W p l e ({ frames := 11, cells := 0, slots := 0, locals := 274 }) s m ([.ref (h 36), .int 5, .int 3, .int x2, .int 0] : List Value).toArray below meth cd H locs 0 0 Qz (F0 m 0 ls []) by rw [hH, hlo] at hgo; exact hgo
  clear hH hlo
  have o_1 : (f 36 3).toInt = 0 := (congrArg Int32.toInt (show f 36 3 = 0 from hf_36_3)).trans (by decide)
  have hF : sgK WkX3_does_5_3_0_f0_f5 f f := sgK.rf
  have blk_53 : ∀ (fp_53 : sg_F) (H : Heap) (locs : List Loc) (ls : Array Slot), 0 ≤ (fp_53 36 3).toInt ∧ (fp_53 36 3).toInt ≤ 0 → 5 ≤ (fp_53 36 4).toInt ∧ (fp_53 36 4).toInt ≤ 5 → sgI loX hiX fp_53 → sgK WkX3_does_5_3_0_f0_f5 f fp_53 → va_P D vwCl (sgw 52 h (eX ca h) fp_53 L Q) H → va_S (sgA 52 h s.heap.size) s.heap H locs → lv_has ls 7 [(0, .ref (h 36)), (3, .int x2), (4, .int 0), (5, .int 5), (6, .int 60)] → W p l e ({ frames := 11, cells := 0, slots := 0, locals := 274 }) s m ([.ref (h 36), .int 5, .int 3, .int x2, .int 0] : List Value).toArray below meth cd H locs 0 0 Qz (F0 m 53 ls []) := by
    intro fp_53 H locs ls hy0_53 hy1_53 hI hF hP hS hl
    obtain ⟨v_2, ev_2⟩ : ∃ z : Int32, z = fp_53 36 3 := ⟨_, rfl⟩
    have q_3 : 0 ≤ v_2.toInt ∧ v_2.toInt ≤ 19 := by rw [ev_2]; exact hI 36 3
    have q_4 : (fp_53 36 3).toInt = v_2.toInt := by rw [ev_2]
    obtain ⟨v_5, ev_5⟩ : ∃ z : Int32, z = fp_53 36 4 := ⟨_, rfl⟩
    have q_6 : 0 ≤ v_5.toInt ∧ v_5.toInt ≤ 7 := by rw [ev_5]; exact hI 36 4
    have q_7 : (fp_53 36 4).toInt = v_5.toInt := by rw [ev_5]
    have m_8 : fp_53 36 4 = 5 := (hF 36 4 (by decide)).trans hf_36_4
    refine lv_aload_n hx hb dX3_does_53 rfl (lv_at hl 0 rfl) ?_
    refine lv_dup hx hb dX3_does_54 rfl ?_
    refine sg_get (ci := 3) (v := .int v_2) (C := RX3) (T := TX3) (N := 6) hx hb hts (fun w h => List.mem_cons_of_mem _ (gx_3 w h)) hown hK hP 36 (by decide) rfl rfl 3 (by decide) (hts _ (List.mem_cons_of_mem _ mw_16)) (fun _ h9 => h9) (congrArg (fun z => some (Value.int z)) (show fp_53 36 3 = v_2 from ev_2.symm)) dX3_does_55 ?_
    refine lv_iconst (v := 1) hx hb dX3_does_58 (by decide) ?_
    refine lv_iadd hx hb dX3_does_59 ?_
    refine lv_topi (fun v_9 ev_9 => ?_)
    have q_10 : v_9.toInt = v_2.toInt + 1 := by rw [ev_9]; have k1 : (1 : Int32).toInt = 1 := (by decide); exact (bn_addI (by omega) (by omega)).trans (by omega)
    refine sg_put (ci := 3) (x := v_9) (ty := .int) (C := RX3) (T := TX3) (N := 6) hx hb hts (fun w h => List.mem_cons_of_mem _ (gx_3 w h)) tyX3 tyX3_ok nmX3 hown hh hA hK hP hS 36 (by decide) rfl rfl 3 (by decide) (hts _ (List.mem_cons_of_mem _ mw_16)) (fun _ h9 => h9) rfl rfl (by decide +kernel) rfl rfl (Nat.le_of_ble_eq_true rfl) dX3_does_60 (fun f_11 H locs ef_11 hP hS => ?_)
    have hI : sgI loX hiX f_11 := by rw [ef_11]; exact sgI.put hI 36 3 (show 0 ≤ (v_9 : Int32).toInt ∧ (v_9 : Int32).toInt ≤ 19 from by omega)
    have hF : sgK WkX3_does_5_3_0_f0_f5 f f_11 := sgK.put hF ef_11 (by rfl)
    refine lv_aload_n hx hb dX3_does_63 rfl (lv_at hl 0 rfl) ?_
    refine lv_iload hx hb dX3_does_64 (lv_at hl 4 rfl) ?_
    refine sg_gets hx hb hZ 2 rfl hS hown (hts _ (List.mem_cons_of_mem _ mw_174)) (fun _ h9 => h9) dX3_does_66 ?_
    refine lv_iload hx hb dX3_does_69 (lv_at hl 3 rfl) ?_
    refine sg_sald hx hb hZ 2 rfl hS (y := 5) (N := 8) (vp_in_iff.mpr (by decide)) dX3_does_71 ?_
    refine W.eq (g2 := F0 m 72 ls [.int 3, .int 60, .ref (h 36)]) (by rfl) ?_
    refine lv_iload_n hx hb dX3_does_72 rfl (lv_at hl 1 rfl) ?_
    refine lv_iload hx hb dX3_does_73 (lv_at hl 2 rfl) ?_
    refine lv_iconst (v := 1) hx hb dX3_does_75 (by decide) ?_
    refine lv_iadd hx hb dX3_does_76 ?_
    refine W.eq (g2 := F0 m 77 ls [.int 1, .int x2, .int 3, .int 60, .ref (h 36)]) (by rw [show (0 + 1 : Int32) = 1 from by decide]) ?_
    have c_12 : v_9 = 1 := Int32.toInt_inj.mp (by have k9 : (1 : Int32).toInt = 1 := (by decide); omega)
    have q_13 : (f_11 36 3).toInt = 1 := (congrArg Int32.toInt (show f_11 36 3 = 1 from (Eq.trans (by rw [ef_11, sg_up_s, sgu_s]) c_12))).trans (by decide)
    have q_14 : (f_11 36 3).toInt = 1 := (congrArg Int32.toInt (show f_11 36 3 = 1 from (Eq.trans (by rw [ef_11, sg_up_s, sgu_s]) c_12))).trans (by decide)
    refine sg_calli (va_runV (As := [.int 60, .int 3, .int x2, .int 1]) (rest := []) ⟨hx, hb, hml, hown, hts⟩ (kX3_runs_60_3_1_f1_f5 l D ca za h hh f_11 L Q hI x2 (Eq.trans (by rw [ef_11, sg_up_s, sgu_s]) c_12) (by rw [ef_11, sg_up_s, sgu_n (by decide)]; exact m_8) (by have k0 : (60 : Int32).toInt = 60 := (by decide); have k1 : (3 : Int32).toInt = 3 := (by decide); have k3 : (1 : Int32).toInt = 1 := (by decide); omega) H.size) (cwV 4 hts (gw_V (fun _ h => List.mem_cons_of_mem _ h) mw_311 mw_312 mw_313 mw_47 mw_310) rfl rfl rfl (by decide +kernel) ⟨Nat.le_of_ble_eq_true rfl, Nat.le_of_ble_eq_true rfl⟩) (sg_preV (ci := 3) (C := RX3) (T := TX3) (N := 6) hA hK hP hS hZ 36 (by decide) rfl rfl) rfl rfl hl.1 rfl (lv_room (Nat.le_of_ble_eq_true rfl)) dX3_does_77 ⟨Nat.le_refl _, Nat.le_refl _⟩) hA hS (fun r_18 f_15 L_16 Q_17 H locs hq hP hS => ?_)
    obtain ⟨⟨hI, hk_f_15, eL9, eQ9⟩, hq, p_19⟩ := hq
    rw [eL9, eQ9] at hP; clear eL9 eQ9
    have hF : sgK WkX3_does_5_3_0_f0_f5 f f_15 := sgK.tr hF hk_f_15 (by decide)
    obtain ⟨v_20, ev_20⟩ : ∃ z : Int32, z = f_15 36 3 := ⟨_, rfl⟩
    have q_21 : 0 ≤ v_20.toInt ∧ v_20.toInt ≤ 19 := by rw [ev_20]; exact hI 36 3
    have q_22 : (f_15 36 3).toInt = v_20.toInt := (congrArg Int32.toInt (show f_15 36 3 = v_20 from ev_20.symm))
    have q_23 : (f_15 36 3).toInt = v_20.toInt := (congrArg Int32.toInt (show f_15 36 3 = v_20 from ev_20.symm))
    have k_24 : (60 : Int32).toInt = 60 := by decide
    have k_25 : (3 : Int32).toInt = 3 := by decide
    have k_26 : (1 : Int32).toInt = 1 := by decide
    have q_27 : (f_15 36 3).toInt = v_20.toInt := (congrArg Int32.toInt (show f_15 36 3 = v_20 from ev_20.symm))
    have q_28 : (f_15 36 3).toInt = v_20.toInt := (congrArg Int32.toInt (show f_15 36 3 = v_20 from ev_20.symm))
    exact hret _ _ _ _ (r_18) f_15 L Q dX3_does_80 hP hS ⟨⟨hI, hF, rfl, rfl⟩, trivial, (by omega)⟩
  refine lv_iload_n hx hb dX3_does_0 rfl (lv_at hl 1 rfl) ?_
  refine lv_iload_n hx hb dX3_does_1 rfl (lv_at hl 2 rfl) ?_
  refine sg_calli (va_runS (As := [.int 5, .int 3]) (rest := []) ⟨hx, hb, hml, hown, hts⟩ (kX3_ownerOf_5_3 l D ca za h hh f L Q hI H.size) (va_cwS 2 hts (gw_S (fun _ h => List.mem_cons_of_mem _ h) mw_189 mw_190 mw_47 mw_188) rfl rfl rfl (by decide +kernel) ⟨Nat.le_of_ble_eq_true rfl, Nat.le_of_ble_eq_true rfl⟩) (sg_preS hA hK hP hS hZ) rfl rfl hl.1 rfl (lv_room (Nat.le_of_ble_eq_true rfl)) dX3_does_2 ⟨Nat.le_refl _, Nat.le_refl _⟩) hA hS (fun r_32 f_29 L_30 Q_31 H locs hq hP hS => ?_)
  obtain ⟨⟨ef9, eL9, eQ9⟩, hq⟩ := hq
  rw [ef9, eL9, eQ9] at hP; clear ef9 eL9 eQ9
  obtain rfl : r_32 = 5 := Int32.toInt_inj.mp (by have k9 : (5 : Int32).toInt = 5 := (by decide); omega)
  refine lv_istore (lv' := [(5, .int 5), (0, .ref (h 36)), (1, .int 5), (2, .int 3), (3, .int x2), (4, .int 0)]) hx hb dX3_does_5 hl (by decide) rfl (fun ls hl => ?_)
  refine lv_iload hx hb dX3_does_7 (lv_at hl 0 rfl) ?_
  refine lv_if_lt (tgt := 19) hx hb dX3_does_9 (by decide) (fun c => absurd c (by decide)) (fun c => ?_)
  refine lv_iload hx hb dX3_does_12 (lv_at hl 5 rfl) ?_
  refine lv_bipush (v := 40) hx hb dX3_does_14 (by decide) ?_
  refine lv_icmp_le (tgt := 21) hx hb dX3_does_16 (by decide) (fun c => ?_) (fun c => absurd c (by decide))
  refine sg_gets hx hb hZ 3 rfl hS hown (hts _ (List.mem_cons_of_mem _ mw_173)) (fun _ h9 => h9) dX3_does_21 ?_
  refine lv_iload hx hb dX3_does_24 (lv_at hl 0 rfl) ?_
  refine lv_iconst (v := 4) hx hb dX3_does_26 (by decide) ?_
  refine lv_imul hx hb dX3_does_27 ?_
  refine W.eq (g2 := F0 m 28 ls [.int 20, .ref (za 3)]) (by rw [show (5 * 4 : Int32) = 20 from by decide]) ?_
  refine lv_iload_n hx hb dX3_does_28 rfl (lv_at hl 3 rfl) ?_
  refine lv_iadd hx hb dX3_does_29 ?_
  refine W.eq (g2 := F0 m 30 ls [.int 23, .ref (za 3)]) (by rw [show (20 + 3 : Int32) = 23 from by decide]) ?_
  refine sg_sald hx hb hZ 3 rfl hS (y := 23) (N := 32) (vp_in_iff.mpr (by decide)) dX3_does_30 ?_
  refine W.eq (g2 := F0 m 31 ls [.int 60]) (by rfl) ?_
  refine lv_istore (lv' := [(6, .int 60), (5, .int 5), (0, .ref (h 36)), (1, .int 5), (2, .int 3), (3, .int x2), (4, .int 0)]) hx hb dX3_does_31 hl (by decide) rfl (fun ls hl => ?_)
  refine lv_aload_n hx hb dX3_does_33 rfl (lv_at hl 2 rfl) ?_
  refine sg_get (ci := 3) (v := .int 0) (C := RX3) (T := TX3) (N := 6) hx hb hts (fun w h => List.mem_cons_of_mem _ (gx_3 w h)) hown hK hP 36 (by decide) rfl rfl 3 (by decide) (hts _ (List.mem_cons_of_mem _ mw_16)) (fun _ h9 => h9) (congrArg (fun z => some (Value.int z)) (show f 36 3 = 0 from hf_36_3)) dX3_does_34 ?_
  refine lv_bipush (v := 24) hx hb dX3_does_37 (by decide) ?_
  refine lv_icmp_ge (tgt := 53) hx hb dX3_does_39 (by decide) (fun c => absurd c (by decide)) (fun c => ?_)
  refine lv_aload_n hx hb dX3_does_42 rfl (lv_at hl 2 rfl) ?_
  refine sg_get (ci := 3) (v := .ref (h 38)) (C := RX3) (T := TX3) (N := 6) hx hb hts (fun w h => List.mem_cons_of_mem _ (gx_3 w h)) hown hK hP 36 (by decide) rfl rfl 1 (by decide) (hts _ (List.mem_cons_of_mem _ mw_191)) (fun _ h9 => h9) rfl dX3_does_43 ?_
  refine lv_aload_n hx hb dX3_does_46 rfl (lv_at hl 2 rfl) ?_
  refine sg_get (ci := 3) (v := .int 0) (C := RX3) (T := TX3) (N := 6) hx hb hts (fun w h => List.mem_cons_of_mem _ (gx_3 w h)) hown hK hP 36 (by decide) rfl rfl 3 (by decide) (hts _ (List.mem_cons_of_mem _ mw_16)) (fun _ h9 => h9) (congrArg (fun z => some (Value.int z)) (show f 36 3 = 0 from hf_36_3)) dX3_does_47 ?_
  refine lv_iload hx hb dX3_does_50 (lv_at hl 0 rfl) ?_
  refine sg_iast hx hb hh hA hK hP hS 38 (by decide) 0 (fun _ => rfl) rfl (i := 0) (x := 60) (vp_in_iff.mpr (by decide)) dX3_does_52 (fun f_33 H locs ef_33 hP hS => ?_)
  have hI : sgI loX hiX f_33 := by rw [ef_33]; exact sgI.put hI 38 (Int32.toNatClampNeg 0) (show 0 ≤ (60 : Int32).toInt ∧ (60 : Int32).toInt ≤ 81 from by decide)
  have hF : sgK WkX3_does_5_3_0_f0_f5 f f_33 := sgK.put hF ef_33 (by rfl)
  exact blk_53 f_33 _ _ _ (by have zz36_3 : (f_33 36 3).toInt = 0 := (congrArg Int32.toInt (show f_33 36 3 = 0 from (by rw [ef_33, sg_up_n (by decide)]; exact hf_36_3))).trans (by decide); omega) (by have zz36_4 : (f_33 36 4).toInt = 5 := (congrArg Int32.toInt (show f_33 36 4 = 5 from (by rw [ef_33, sg_up_n (by decide)]; exact hf_36_4))).trans (by decide); omega) hI hF hP hS (lv_sub hl [2, 5, 6, 1, 0] rfl)

set_option maxHeartbeats 4000000 in
set_option maxRecDepth 100000 in
theorem kX3_ownerOf_6_3 (l : Launch) (D : va_G) (ca : Nat → ClassId) (za h : Nat → Nat) (hh : sgH 52 h) (f : sg_F) (L : sg_L) (Q : sg_Q) (hI : sgI loX hiX f) (sz : Nat) : Met l yX3_ownerOf gwX3_ownerOf { frames := 0, cells := 0, slots := 0, locals := 0 } (sgP D vwCl (tyX ca) 52 h (eX ca h) zcX za f L Q sz [.int 6, .int 3]) (sgQi D vwCl 52 h (eX ca h) sz (fun r f1 L1 Q1 => ((f1 = f ∧ L1 = L ∧ Q1 = Q) ∧ (0 ≤ r.toInt ∧ r.toInt ≤ 0)))) 0 0 (sgA 52 h sz) := by
  refine sg_ofWi (cc := cX3_ownerOf) (maxL := 4) RX3 (by decide) rfl rfl (Nat.le_of_ble_eq_true rfl) ?_
  intro p e s m below meth cd Qz ls hx hb hml hown hts hK hZ hP hS hl hret
  have hA := sgY.self (n := 52) (h := h) (sz := s.heap.size)
  have hl : lv_has ls 4 [(0, .int 6), (1, .int 3)] := hl
  obtain ⟨H, hH⟩ : ∃ z : Heap, z = s.heap := ⟨_, rfl⟩
  obtain ⟨locs, hlo⟩ : ∃ z : List Loc, z = [] := ⟨_, rfl⟩
  have hP : va_P D vwCl (sgw 52 h (eX ca h) f L Q) H := by rw [hH]; exact hP
  have hS : va_S (sgA 52 h s.heap.size) s.heap H locs := by rw [hH, hlo]; exact hS
  suffices hgo : W p l e ({ frames := 0, cells := 0, slots := 0, locals := 0 }) s m ([.int 6, .int 3] : List Value).toArray below meth cd H locs 0 0 Qz (F0 m 0 ls []) by rw [hH, hlo] at hgo; exact hgo
  clear hH hlo
  refine lv_iload_n hx hb dX3_ownerOf_0 rfl (lv_at hl 0 rfl) ?_
  refine lv_istore_n (lv' := [(2, .int 6), (0, .int 6), (1, .int 3)]) hx hb dX3_ownerOf_1 rfl hl (by decide) rfl (fun ls hl => ?_)
  refine lv_iconst (v := 0) hx hb dX3_ownerOf_2 (by decide) ?_
  refine lv_istore_n (lv' := [(3, .int 0), (2, .int 6), (0, .int 6), (1, .int 3)]) hx hb dX3_ownerOf_3 rfl hl (by decide) rfl (fun ls hl => ?_)
  refine lv_iload_n hx hb dX3_ownerOf_4 rfl (lv_at hl 0 rfl) ?_
  refine lv_bipush (v := 8) hx hb dX3_ownerOf_5 (by decide) ?_
  refine lv_icmp_ge (tgt := 40) hx hb dX3_ownerOf_7 (by decide) (fun c => absurd c (by decide)) (fun c => ?_)
  refine lv_iload_n hx hb dX3_ownerOf_10 rfl (lv_at hl 1 rfl) ?_
  refine lv_if_lt (tgt := 40) hx hb dX3_ownerOf_11 (by decide) (fun c => absurd c (by decide)) (fun c => ?_)
  refine sg_gets hx hb hZ 3 rfl hS hown (hts _ (List.mem_cons_of_mem _ mw_173)) (fun _ h9 => h9) dX3_ownerOf_14 ?_
  refine lv_iload_n hx hb dX3_ownerOf_17 rfl (lv_at hl 1 rfl) ?_
  refine lv_iconst (v := 4) hx hb dX3_ownerOf_18 (by decide) ?_
  refine lv_imul hx hb dX3_ownerOf_19 ?_
  refine W.eq (g2 := F0 m 20 ls [.int 24, .ref (za 3)]) (by rw [show (6 * 4 : Int32) = 24 from by decide]) ?_
  refine lv_iload_n hx hb dX3_ownerOf_20 rfl (lv_at hl 3 rfl) ?_
  refine lv_iadd hx hb dX3_ownerOf_21 ?_
  refine W.eq (g2 := F0 m 22 ls [.int 27, .ref (za 3)]) (by rw [show (24 + 3 : Int32) = 27 from by decide]) ?_
  refine sg_sald hx hb hZ 3 rfl hS (y := 27) (N := 32) (vp_in_iff.mpr (by decide)) dX3_ownerOf_22 ?_
  refine W.eq (g2 := F0 m 23 ls [.int 0]) (by rfl) ?_
  refine lv_if_eq (tgt := 28) hx hb dX3_ownerOf_23 (by decide) (fun c => ?_) (fun c => absurd c (by decide))
  refine sg_gets hx hb hZ 2 rfl hS hown (hts _ (List.mem_cons_of_mem _ mw_174)) (fun _ h9 => h9) dX3_ownerOf_28 ?_
  refine lv_iload_n hx hb dX3_ownerOf_31 rfl (lv_at hl 1 rfl) ?_
  refine sg_sald hx hb hZ 2 rfl hS (y := 6) (N := 8) (vp_in_iff.mpr (by decide)) dX3_ownerOf_32 ?_
  refine W.eq (g2 := F0 m 33 ls [.int 0]) (by rfl) ?_
  refine lv_istore_n (lv' := [(2, .int 0), (3, .int 0), (0, .int 6), (1, .int 3)]) hx hb dX3_ownerOf_33 rfl hl (by decide) rfl (fun ls hl => ?_)
  refine lv_iinc (v := 1) (lv' := [(3, .int 1), (2, .int 0), (0, .int 6), (1, .int 3)]) hx hb dX3_ownerOf_34 hl (k := 1) rfl (by decide) (by decide) rfl (fun ls hl => ?_)
  refine lv_goto (tgt := 4) hx hb dX3_ownerOf_37 (by decide) ?_
  refine lv_iload_n hx hb dX3_ownerOf_4 rfl (lv_at hl 0 rfl) ?_
  refine lv_bipush (v := 8) hx hb dX3_ownerOf_5 (by decide) ?_
  refine lv_icmp_ge (tgt := 40) hx hb dX3_ownerOf_7 (by decide) (fun c => absurd c (by decide)) (fun c => ?_)
  refine lv_iload_n hx hb dX3_ownerOf_10 rfl (lv_at hl 1 rfl) ?_
  refine lv_if_lt (tgt := 40) hx hb dX3_ownerOf_11 (by decide) (fun c => absurd c (by decide)) (fun c => ?_)
  refine sg_gets hx hb hZ 3 rfl hS hown (hts _ (List.mem_cons_of_mem _ mw_173)) (fun _ h9 => h9) dX3_ownerOf_14 ?_
  refine lv_iload_n hx hb dX3_ownerOf_17 rfl (lv_at hl 1 rfl) ?_
  refine lv_iconst (v := 4) hx hb dX3_ownerOf_18 (by decide) ?_
  refine lv_imul hx hb dX3_ownerOf_19 ?_
  refine W.eq (g2 := F0 m 20 ls [.int 0, .ref (za 3)]) (by rw [show (0 * 4 : Int32) = 0 from by decide]) ?_
  refine lv_iload_n hx hb dX3_ownerOf_20 rfl (lv_at hl 3 rfl) ?_
  refine lv_iadd hx hb dX3_ownerOf_21 ?_
  refine W.eq (g2 := F0 m 22 ls [.int 3, .ref (za 3)]) (by rw [show (0 + 3 : Int32) = 3 from by decide]) ?_
  refine sg_sald hx hb hZ 3 rfl hS (y := 3) (N := 32) (vp_in_iff.mpr (by decide)) dX3_ownerOf_22 ?_
  refine W.eq (g2 := F0 m 23 ls [.int 2]) (by rfl) ?_
  refine lv_if_eq (tgt := 28) hx hb dX3_ownerOf_23 (by decide) (fun c => absurd c (by decide)) (fun c => ?_)
  refine lv_iload_n hx hb dX3_ownerOf_26 rfl (lv_at hl 1 rfl) ?_
  have k99 : (0 : Int32).toInt = 0 := (by decide)
  exact hret _ _ _ _ (0) f L Q dX3_ownerOf_27 hP hS ⟨⟨rfl, rfl, rfl⟩, (by decide)⟩

set_option maxHeartbeats 4000000 in
set_option maxRecDepth 100000 in
theorem kX3_runs_1_m1_4_f4_f6 (l : Launch) (D : va_G) (ca : Nat → ClassId) (za h : Nat → Nat) (hh : sgH 52 h) (f : sg_F) (L : sg_L) (Q : sg_Q) (hI : sgI loX hiX f) (x2 : Int32) (hf_36_3 : f 36 3 = 4) (hf_36_4 : f 36 4 = 6) (p0 : 4 ≤ (f 36 3).toInt ∧ (f 36 3).toInt ≤ 4) (sz : Nat) : Met l yX3_runs gwX3_runs { frames := 0, cells := 0, slots := 0, locals := 0 } (sgP D vwCl (tyX ca) 52 h (eX ca h) zcX za f L Q sz [.ref (h 36), .int 1, .int (-1), .int x2, .int 4]) (sgQi D vwCl 52 h (eX ca h) sz (fun r f1 L1 Q1 => ((f1 = f ∧ L1 = L ∧ Q1 = Q) ∧ True ∧ (4 ≤ (f1 36 3).toInt ∧ (f1 36 3).toInt ≤ 4)))) 0 0 (sgA 52 h sz) := by
  refine sg_ofWi (cc := cX3_runs) (maxL := 5) RX3 (by decide) rfl rfl (Nat.le_of_ble_eq_true rfl) ?_
  intro p e s m below meth cd Qz ls hx hb hml hown hts hK hZ hP hS hl hret
  have hA := sgY.self (n := 52) (h := h) (sz := s.heap.size)
  have hl : lv_has ls 5 [(0, .ref (h 36)), (1, .int 1), (2, .int (-1)), (3, .int x2), (4, .int 4)] := hl
  obtain ⟨H, hH⟩ : ∃ z : Heap, z = s.heap := ⟨_, rfl⟩
  obtain ⟨locs, hlo⟩ : ∃ z : List Loc, z = [] := ⟨_, rfl⟩
  have hP : va_P D vwCl (sgw 52 h (eX ca h) f L Q) H := by rw [hH]; exact hP
  have hS : va_S (sgA 52 h s.heap.size) s.heap H locs := by rw [hH, hlo]; exact hS
  suffices hgo : W p l e ({ frames := 0, cells := 0, slots := 0, locals := 0 }) s m ([.ref (h 36), .int 1, .int (-1), .int x2, .int 4] : List Value).toArray below meth cd H locs 0 0 Qz (F0 m 0 ls []) by rw [hH, hlo] at hgo; exact hgo
  clear hH hlo
  have o_1 : (f 36 3).toInt = 4 := (congrArg Int32.toInt (show f 36 3 = 4 from hf_36_3)).trans (by decide)
  refine lv_iload_n hx hb dX3_runs_0 rfl (lv_at hl 1 rfl) ?_
  refine lv_lookup (x := 1) (off := 115) (tgt := 116) hx hb dX3_runs_1 (by decide) (by decide) (by decide) ?_
  refine lv_iload_n hx hb dX3_runs_116 rfl (lv_at hl 3 rfl) ?_
  refine lv_aload_n hx hb dX3_runs_117 rfl (lv_at hl 0 rfl) ?_
  refine sg_get (ci := 3) (v := .int (f 36 5)) (C := RX3) (T := TX3) (N := 6) hx hb hts (fun w h => List.mem_cons_of_mem _ (gx_3 w h)) hown hK hP 36 (by decide) rfl rfl 5 (by decide) (hts _ (List.mem_cons_of_mem _ mw_106)) (fun _ h9 => h9) rfl dX3_runs_118 ?_
  refine lv_topi (fun v_2 ev_2 => ?_)
  have q_3 : 0 ≤ v_2.toInt ∧ v_2.toInt ≤ 49 := by rw [ev_2]; exact hI 36 5
  refine lv_iadd hx hb dX3_runs_121 ?_
  refine lv_topi (fun v_4 ev_4 => ?_)
  have q_5 : (f 36 3).toInt = 4 := (congrArg Int32.toInt (show f 36 3 = 4 from hf_36_3)).trans (by decide)
  have q_6 : (f 36 3).toInt = 4 := (congrArg Int32.toInt (show f 36 3 = 4 from hf_36_3)).trans (by decide)
  exact hret _ _ _ _ (v_4) f L Q dX3_runs_122 hP hS ⟨⟨rfl, rfl, rfl⟩, trivial, (by omega)⟩

abbrev WkX3_does_0_0_3_f3_f6 : List (Nat × Nat × Option Nat) := [(36, 36, some 3), (38, 38, none)]
set_option maxHeartbeats 4000000 in
set_option maxRecDepth 100000 in
theorem kX3_does_0_0_3_f3_f6 (l : Launch) (D : va_G) (ca : Nat → ClassId) (za h : Nat → Nat) (hh : sgH 52 h) (f : sg_F) (L : sg_L) (Q : sg_Q) (hI : sgI loX hiX f) (x2 : Int32) (hf_36_3 : f 36 3 = 3) (hf_36_4 : f 36 4 = 6) (p0 : 3 ≤ (f 36 3).toInt ∧ (f 36 3).toInt ≤ 3) (sz : Nat) : Met l yX3_does gwX3_does { frames := 1, cells := 0, slots := 0, locals := 24 } (sgP D vwCl (tyX ca) 52 h (eX ca h) zcX za f L Q sz [.ref (h 36), .int 0, .int 0, .int x2, .int 3]) (sgQi D vwCl 52 h (eX ca h) sz (fun r f1 L1 Q1 => ((sgI loX hiX f1 ∧ sgK WkX3_does_0_0_3_f3_f6 f f1 ∧ L1 = L ∧ Q1 = Q) ∧ True ∧ (4 ≤ (f1 36 3).toInt ∧ (f1 36 3).toInt ≤ 4)))) 0 0 (sgA 52 h sz) := by
  refine sg_ofWi (cc := cX3_does) (maxL := 7) RX3 (by decide) rfl rfl (Nat.le_of_ble_eq_true rfl) ?_
  intro p e s m below meth cd Qz ls hx hb hml hown hts hK hZ hP hS hl hret
  have hA := sgY.self (n := 52) (h := h) (sz := s.heap.size)
  have hl : lv_has ls 7 [(0, .ref (h 36)), (1, .int 0), (2, .int 0), (3, .int x2), (4, .int 3)] := hl
  obtain ⟨H, hH⟩ : ∃ z : Heap, z = s.heap := ⟨_, rfl⟩
  obtain ⟨locs, hlo⟩ : ∃ z : List Loc, z = [] := ⟨_, rfl⟩
  have hP : va_P D vwCl (sgw 52 h (eX ca h) f L Q) H := by rw [hH]; exact hP
  have hS : va_S (sgA 52 h s.heap.size) s.heap H locs := by rw [hH, hlo]; exact hS
  suffices hgo : W p l e ({ frames := 1, cells := 0, slots := 0, locals := 24 }) s m ([.ref (h 36), .int 0, .int 0, .int x2, .int 3] : List Value).toArray below meth cd H locs 0 0 Qz (F0 m 0 ls []) by rw [hH, hlo] at hgo; exact hgo
  clear hH hlo
  have o_1 : (f 36 3).toInt = 3 := (congrArg Int32.toInt (show f 36 3 = 3 from hf_36_3)).trans (by decide)
  have hF : sgK WkX3_does_0_0_3_f3_f6 f f := sgK.rf
  have blk_53 : ∀ (fp_53 : sg_F) (H : Heap) (locs : List Loc) (ls : Array Slot), 3 ≤ (fp_53 36 3).toInt ∧ (fp_53 36 3).toInt ≤ 3 → 6 ≤ (fp_53 36 4).toInt ∧ (fp_53 36 4).toInt ≤ 6 → sgI loX hiX fp_53 → sgK WkX3_does_0_0_3_f3_f6 f fp_53 → va_P D vwCl (sgw 52 h (eX ca h) fp_53 L Q) H → va_S (sgA 52 h s.heap.size) s.heap H locs → lv_has ls 7 [(0, .ref (h 36)), (3, .int x2), (4, .int 3), (5, .int 0), (6, .int 1)] → W p l e ({ frames := 1, cells := 0, slots := 0, locals := 24 }) s m ([.ref (h 36), .int 0, .int 0, .int x2, .int 3] : List Value).toArray below meth cd H locs 0 0 Qz (F0 m 53 ls []) := by
    intro fp_53 H locs ls hy0_53 hy1_53 hI hF hP hS hl
    obtain ⟨v_2, ev_2⟩ : ∃ z : Int32, z = fp_53 36 3 := ⟨_, rfl⟩
    have q_3 : 0 ≤ v_2.toInt ∧ v_2.toInt ≤ 19 := by rw [ev_2]; exact hI 36 3
    have q_4 : (fp_53 36 3).toInt = v_2.toInt := by rw [ev_2]
    obtain ⟨v_5, ev_5⟩ : ∃ z : Int32, z = fp_53 36 4 := ⟨_, rfl⟩
    have q_6 : 0 ≤ v_5.toInt ∧ v_5.toInt ≤ 7 := by rw [ev_5]; exact hI 36 4
    have q_7 : (fp_53 36 4).toInt = v_5.toInt := by rw [ev_5]
    have m_8 : fp_53 36 4 = 6 := (hF 36 4 (by decide)).trans hf_36_4
    refine lv_aload_n hx hb dX3_does_53 rfl (lv_at hl 0 rfl) ?_
    refine lv_dup hx hb dX3_does_54 rfl ?_
    refine sg_get (ci := 3) (v := .int v_2) (C := RX3) (T := TX3) (N := 6) hx hb hts (fun w h => List.mem_cons_of_mem _ (gx_3 w h)) hown hK hP 36 (by decide) rfl rfl 3 (by decide) (hts _ (List.mem_cons_of_mem _ mw_16)) (fun _ h9 => h9) (congrArg (fun z => some (Value.int z)) (show fp_53 36 3 = v_2 from ev_2.symm)) dX3_does_55 ?_
    refine lv_iconst (v := 1) hx hb dX3_does_58 (by decide) ?_
    refine lv_iadd hx hb dX3_does_59 ?_
    refine lv_topi (fun v_9 ev_9 => ?_)
    have q_10 : v_9.toInt = v_2.toInt + 1 := by rw [ev_9]; have k1 : (1 : Int32).toInt = 1 := (by decide); exact (bn_addI (by omega) (by omega)).trans (by omega)
    refine sg_put (ci := 3) (x := v_9) (ty := .int) (C := RX3) (T := TX3) (N := 6) hx hb hts (fun w h => List.mem_cons_of_mem _ (gx_3 w h)) tyX3 tyX3_ok nmX3 hown hh hA hK hP hS 36 (by decide) rfl rfl 3 (by decide) (hts _ (List.mem_cons_of_mem _ mw_16)) (fun _ h9 => h9) rfl rfl (by decide +kernel) rfl rfl (Nat.le_of_ble_eq_true rfl) dX3_does_60 (fun f_11 H locs ef_11 hP hS => ?_)
    have hI : sgI loX hiX f_11 := by rw [ef_11]; exact sgI.put hI 36 3 (show 0 ≤ (v_9 : Int32).toInt ∧ (v_9 : Int32).toInt ≤ 19 from by omega)
    have hF : sgK WkX3_does_0_0_3_f3_f6 f f_11 := sgK.put hF ef_11 (by rfl)
    refine lv_aload_n hx hb dX3_does_63 rfl (lv_at hl 0 rfl) ?_
    refine lv_iload hx hb dX3_does_64 (lv_at hl 4 rfl) ?_
    refine sg_gets hx hb hZ 2 rfl hS hown (hts _ (List.mem_cons_of_mem _ mw_174)) (fun _ h9 => h9) dX3_does_66 ?_
    refine lv_iload hx hb dX3_does_69 (lv_at hl 3 rfl) ?_
    refine sg_sald hx hb hZ 2 rfl hS (y := 0) (N := 8) (vp_in_iff.mpr (by decide)) dX3_does_71 ?_
    refine W.eq (g2 := F0 m 72 ls [.int (-1), .int 1, .ref (h 36)]) (by rfl) ?_
    refine lv_iload_n hx hb dX3_does_72 rfl (lv_at hl 1 rfl) ?_
    refine lv_iload hx hb dX3_does_73 (lv_at hl 2 rfl) ?_
    refine lv_iconst (v := 1) hx hb dX3_does_75 (by decide) ?_
    refine lv_iadd hx hb dX3_does_76 ?_
    refine W.eq (g2 := F0 m 77 ls [.int 4, .int x2, .int (-1), .int 1, .ref (h 36)]) (by rw [show (3 + 1 : Int32) = 4 from by decide]) ?_
    have c_12 : v_9 = 4 := Int32.toInt_inj.mp (by have k9 : (4 : Int32).toInt = 4 := (by decide); omega)
    have q_13 : (f_11 36 3).toInt = 4 := (congrArg Int32.toInt (show f_11 36 3 = 4 from (Eq.trans (by rw [ef_11, sg_up_s, sgu_s]) c_12))).trans (by decide)
    have q_14 : (f_11 36 3).toInt = 4 := (congrArg Int32.toInt (show f_11 36 3 = 4 from (Eq.trans (by rw [ef_11, sg_up_s, sgu_s]) c_12))).trans (by decide)
    refine sg_calli (va_runV (As := [.int 1, .int (-1), .int x2, .int 4]) (rest := []) ⟨hx, hb, hml, hown, hts⟩ (kX3_runs_1_m1_4_f4_f6 l D ca za h hh f_11 L Q hI x2 (Eq.trans (by rw [ef_11, sg_up_s, sgu_s]) c_12) (by rw [ef_11, sg_up_s, sgu_n (by decide)]; exact m_8) (by have k0 : (1 : Int32).toInt = 1 := (by decide); have k1 : ((-1) : Int32).toInt = (-1) := (by decide); have k3 : (4 : Int32).toInt = 4 := (by decide); omega) H.size) (cwV 4 hts (gw_V (fun _ h => List.mem_cons_of_mem _ h) mw_311 mw_312 mw_313 mw_47 mw_310) rfl rfl rfl (by decide +kernel) ⟨Nat.le_of_ble_eq_true rfl, Nat.le_of_ble_eq_true rfl⟩) (sg_preV (ci := 3) (C := RX3) (T := TX3) (N := 6) hA hK hP hS hZ 36 (by decide) rfl rfl) rfl rfl hl.1 rfl (lv_room (Nat.le_of_ble_eq_true rfl)) dX3_does_77 ⟨Nat.le_refl _, Nat.le_refl _⟩) hA hS (fun r_18 f_15 L_16 Q_17 H locs hq hP hS => ?_)
    obtain ⟨⟨ef9, eL9, eQ9⟩, hq, p_19⟩ := hq
    rw [ef9, eL9, eQ9] at hP; clear ef9 eL9 eQ9
    have q_20 : (f_11 36 3).toInt = 4 := (congrArg Int32.toInt (show f_11 36 3 = 4 from (Eq.trans (by rw [ef_11, sg_up_s, sgu_s]) c_12))).trans (by decide)
    have q_21 : (f_11 36 3).toInt = 4 := (congrArg Int32.toInt (show f_11 36 3 = 4 from (Eq.trans (by rw [ef_11, sg_up_s, sgu_s]) c_12))).trans (by decide)
    have k_22 : (1 : Int32).toInt = 1 := by decide
    have k_23 : ((-1) : Int32).toInt = (-1) := by decide
    have k_24 : (4 : Int32).toInt = 4 := by decide
    have q_25 : (f_11 36 3).toInt = 4 := (congrArg Int32.toInt (show f_11 36 3 = 4 from (Eq.trans (by rw [ef_11, sg_up_s, sgu_s]) c_12))).trans (by decide)
    have q_26 : (f_11 36 3).toInt = 4 := (congrArg Int32.toInt (show f_11 36 3 = 4 from (Eq.trans (by rw [ef_11, sg_up_s, sgu_s]) c_12))).trans (by decide)
    exact hret _ _ _ _ (r_18) f_11 L Q dX3_does_80 hP hS ⟨⟨hI, hF, rfl, rfl⟩, trivial, (by omega)⟩
  refine lv_iload_n hx hb dX3_does_0 rfl (lv_at hl 1 rfl) ?_
  refine lv_iload_n hx hb dX3_does_1 rfl (lv_at hl 2 rfl) ?_
  refine sg_calli (va_runS (As := [.int 0, .int 0]) (rest := []) ⟨hx, hb, hml, hown, hts⟩ (kX3_ownerOf_0_0 l D ca za h hh f L Q hI H.size) (va_cwS 2 hts (gw_S (fun _ h => List.mem_cons_of_mem _ h) mw_189 mw_190 mw_47 mw_188) rfl rfl rfl (by decide +kernel) ⟨Nat.le_of_ble_eq_true rfl, Nat.le_of_ble_eq_true rfl⟩) (sg_preS hA hK hP hS hZ) rfl rfl hl.1 rfl (lv_room (Nat.le_of_ble_eq_true rfl)) dX3_does_2 ⟨Nat.le_refl _, Nat.le_refl _⟩) hA hS (fun r_30 f_27 L_28 Q_29 H locs hq hP hS => ?_)
  obtain ⟨⟨ef9, eL9, eQ9⟩, hq⟩ := hq
  rw [ef9, eL9, eQ9] at hP; clear ef9 eL9 eQ9
  obtain rfl : r_30 = 0 := Int32.toInt_inj.mp (by have k9 : (0 : Int32).toInt = 0 := (by decide); omega)
  refine lv_istore (lv' := [(5, .int 0), (0, .ref (h 36)), (1, .int 0), (2, .int 0), (3, .int x2), (4, .int 3)]) hx hb dX3_does_5 hl (by decide) rfl (fun ls hl => ?_)
  refine lv_iload hx hb dX3_does_7 (lv_at hl 0 rfl) ?_
  refine lv_if_lt (tgt := 19) hx hb dX3_does_9 (by decide) (fun c => absurd c (by decide)) (fun c => ?_)
  refine lv_iload hx hb dX3_does_12 (lv_at hl 5 rfl) ?_
  refine lv_bipush (v := 40) hx hb dX3_does_14 (by decide) ?_
  refine lv_icmp_le (tgt := 21) hx hb dX3_does_16 (by decide) (fun c => ?_) (fun c => absurd c (by decide))
  refine sg_gets hx hb hZ 3 rfl hS hown (hts _ (List.mem_cons_of_mem _ mw_173)) (fun _ h9 => h9) dX3_does_21 ?_
  refine lv_iload hx hb dX3_does_24 (lv_at hl 0 rfl) ?_
  refine lv_iconst (v := 4) hx hb dX3_does_26 (by decide) ?_
  refine lv_imul hx hb dX3_does_27 ?_
  refine W.eq (g2 := F0 m 28 ls [.int 0, .ref (za 3)]) (by rw [show (0 * 4 : Int32) = 0 from by decide]) ?_
  refine lv_iload_n hx hb dX3_does_28 rfl (lv_at hl 3 rfl) ?_
  refine lv_iadd hx hb dX3_does_29 ?_
  refine W.eq (g2 := F0 m 30 ls [.int 0, .ref (za 3)]) (by rw [show (0 + 0 : Int32) = 0 from by decide]) ?_
  refine sg_sald hx hb hZ 3 rfl hS (y := 0) (N := 32) (vp_in_iff.mpr (by decide)) dX3_does_30 ?_
  refine W.eq (g2 := F0 m 31 ls [.int 1]) (by rfl) ?_
  refine lv_istore (lv' := [(6, .int 1), (5, .int 0), (0, .ref (h 36)), (1, .int 0), (2, .int 0), (3, .int x2), (4, .int 3)]) hx hb dX3_does_31 hl (by decide) rfl (fun ls hl => ?_)
  refine lv_aload_n hx hb dX3_does_33 rfl (lv_at hl 2 rfl) ?_
  refine sg_get (ci := 3) (v := .int 3) (C := RX3) (T := TX3) (N := 6) hx hb hts (fun w h => List.mem_cons_of_mem _ (gx_3 w h)) hown hK hP 36 (by decide) rfl rfl 3 (by decide) (hts _ (List.mem_cons_of_mem _ mw_16)) (fun _ h9 => h9) (congrArg (fun z => some (Value.int z)) (show f 36 3 = 3 from hf_36_3)) dX3_does_34 ?_
  refine lv_bipush (v := 24) hx hb dX3_does_37 (by decide) ?_
  refine lv_icmp_ge (tgt := 53) hx hb dX3_does_39 (by decide) (fun c => absurd c (by decide)) (fun c => ?_)
  refine lv_aload_n hx hb dX3_does_42 rfl (lv_at hl 2 rfl) ?_
  refine sg_get (ci := 3) (v := .ref (h 38)) (C := RX3) (T := TX3) (N := 6) hx hb hts (fun w h => List.mem_cons_of_mem _ (gx_3 w h)) hown hK hP 36 (by decide) rfl rfl 1 (by decide) (hts _ (List.mem_cons_of_mem _ mw_191)) (fun _ h9 => h9) rfl dX3_does_43 ?_
  refine lv_aload_n hx hb dX3_does_46 rfl (lv_at hl 2 rfl) ?_
  refine sg_get (ci := 3) (v := .int 3) (C := RX3) (T := TX3) (N := 6) hx hb hts (fun w h => List.mem_cons_of_mem _ (gx_3 w h)) hown hK hP 36 (by decide) rfl rfl 3 (by decide) (hts _ (List.mem_cons_of_mem _ mw_16)) (fun _ h9 => h9) (congrArg (fun z => some (Value.int z)) (show f 36 3 = 3 from hf_36_3)) dX3_does_47 ?_
  refine lv_iload hx hb dX3_does_50 (lv_at hl 0 rfl) ?_
  refine sg_iast hx hb hh hA hK hP hS 38 (by decide) 0 (fun _ => rfl) rfl (i := 3) (x := 1) (vp_in_iff.mpr (by decide)) dX3_does_52 (fun f_31 H locs ef_31 hP hS => ?_)
  have hI : sgI loX hiX f_31 := by rw [ef_31]; exact sgI.put hI 38 (Int32.toNatClampNeg 3) (show 0 ≤ (1 : Int32).toInt ∧ (1 : Int32).toInt ≤ 81 from by decide)
  have hF : sgK WkX3_does_0_0_3_f3_f6 f f_31 := sgK.put hF ef_31 (by rfl)
  exact blk_53 f_31 _ _ _ (by have zz36_3 : (f_31 36 3).toInt = 3 := (congrArg Int32.toInt (show f_31 36 3 = 3 from (by rw [ef_31, sg_up_n (by decide)]; exact hf_36_3))).trans (by decide); omega) (by have zz36_4 : (f_31 36 4).toInt = 6 := (congrArg Int32.toInt (show f_31 36 4 = 6 from (by rw [ef_31, sg_up_n (by decide)]; exact hf_36_4))).trans (by decide); omega) hI hF hP hS (lv_sub hl [2, 5, 6, 1, 0] rfl)

abbrev WkX3_runs_70_0_3_f3_f6 : List (Nat × Nat × Option Nat) := [(36, 36, some 3), (38, 38, none)]
set_option maxHeartbeats 4000000 in
set_option maxRecDepth 100000 in
theorem kX3_runs_70_0_3_f3_f6 (l : Launch) (D : va_G) (ca : Nat → ClassId) (za h : Nat → Nat) (hh : sgH 52 h) (f : sg_F) (L : sg_L) (Q : sg_Q) (hI : sgI loX hiX f) (x2 : Int32) (hf_36_3 : f 36 3 = 3) (hf_36_4 : f 36 4 = 6) (p0 : 3 ≤ (f 36 3).toInt ∧ (f 36 3).toInt ≤ 3) (sz : Nat) : Met l yX3_runs gwX3_runs { frames := 2, cells := 0, slots := 0, locals := 50 } (sgP D vwCl (tyX ca) 52 h (eX ca h) zcX za f L Q sz [.ref (h 36), .int 70, .int 0, .int x2, .int 3]) (sgQi D vwCl 52 h (eX ca h) sz (fun r f1 L1 Q1 => ((sgI loX hiX f1 ∧ sgK WkX3_runs_70_0_3_f3_f6 f f1 ∧ L1 = L ∧ Q1 = Q) ∧ True ∧ (4 ≤ (f1 36 3).toInt ∧ (f1 36 3).toInt ≤ 4)))) 0 0 (sgA 52 h sz) := by
  refine sg_ofWi (cc := cX3_runs) (maxL := 5) RX3 (by decide) rfl rfl (Nat.le_of_ble_eq_true rfl) ?_
  intro p e s m below meth cd Qz ls hx hb hml hown hts hK hZ hP hS hl hret
  have hA := sgY.self (n := 52) (h := h) (sz := s.heap.size)
  have hl : lv_has ls 5 [(0, .ref (h 36)), (1, .int 70), (2, .int 0), (3, .int x2), (4, .int 3)] := hl
  obtain ⟨H, hH⟩ : ∃ z : Heap, z = s.heap := ⟨_, rfl⟩
  obtain ⟨locs, hlo⟩ : ∃ z : List Loc, z = [] := ⟨_, rfl⟩
  have hP : va_P D vwCl (sgw 52 h (eX ca h) f L Q) H := by rw [hH]; exact hP
  have hS : va_S (sgA 52 h s.heap.size) s.heap H locs := by rw [hH, hlo]; exact hS
  suffices hgo : W p l e ({ frames := 2, cells := 0, slots := 0, locals := 50 }) s m ([.ref (h 36), .int 70, .int 0, .int x2, .int 3] : List Value).toArray below meth cd H locs 0 0 Qz (F0 m 0 ls []) by rw [hH, hlo] at hgo; exact hgo
  clear hH hlo
  have o_1 : (f 36 3).toInt = 3 := (congrArg Int32.toInt (show f 36 3 = 3 from hf_36_3)).trans (by decide)
  have hF : sgK WkX3_runs_70_0_3_f3_f6 f f := sgK.rf
  refine lv_iload_n hx hb dX3_runs_0 rfl (lv_at hl 1 rfl) ?_
  refine lv_lookup (x := 70) (off := 252) (tgt := 253) hx hb dX3_runs_1 (by decide) (by decide) (by decide) ?_
  refine lv_aload_n hx hb dX3_runs_253 rfl (lv_at hl 0 rfl) ?_
  refine lv_iload_n hx hb dX3_runs_254 rfl (lv_at hl 2 rfl) ?_
  refine lv_iconst (v := 0) hx hb dX3_runs_255 (by decide) ?_
  refine lv_iload_n hx hb dX3_runs_256 rfl (lv_at hl 3 rfl) ?_
  refine lv_iload hx hb dX3_runs_257 (lv_at hl 4 rfl) ?_
  have q_2 : (f 36 3).toInt = 3 := (congrArg Int32.toInt (show f 36 3 = 3 from hf_36_3)).trans (by decide)
  have q_3 : (f 36 3).toInt = 3 := (congrArg Int32.toInt (show f 36 3 = 3 from hf_36_3)).trans (by decide)
  refine sg_calli (va_runV (As := [.int 0, .int 0, .int x2, .int 3]) (rest := []) ⟨hx, hb, hml, hown, hts⟩ (kX3_does_0_0_3_f3_f6 l D ca za h hh f L Q hI x2 hf_36_3 hf_36_4 (by have k0 : (0 : Int32).toInt = 0 := (by decide); have k1 : (0 : Int32).toInt = 0 := (by decide); have k3 : (3 : Int32).toInt = 3 := (by decide); omega) H.size) (cwV 4 hts (gw_V (fun _ h => List.mem_cons_of_mem _ h) mw_318 mw_319 mw_320 mw_47 mw_317) rfl rfl rfl (by decide +kernel) ⟨Nat.le_of_ble_eq_true rfl, Nat.le_of_ble_eq_true rfl⟩) (sg_preV (ci := 3) (C := RX3) (T := TX3) (N := 6) hA hK hP hS hZ 36 (by decide) rfl rfl) rfl rfl hl.1 rfl (lv_room (Nat.le_of_ble_eq_true rfl)) dX3_runs_259 ⟨Nat.le_refl _, Nat.le_refl _⟩) hA hS (fun r_7 f_4 L_5 Q_6 H locs hq hP hS => ?_)
  obtain ⟨⟨hI, hk_f_4, eL9, eQ9⟩, hq, p_8⟩ := hq
  rw [eL9, eQ9] at hP; clear eL9 eQ9
  have hF : sgK WkX3_runs_70_0_3_f3_f6 f f_4 := sgK.tr hF hk_f_4 (by decide)
  obtain ⟨v_9, ev_9⟩ : ∃ z : Int32, z = f_4 36 3 := ⟨_, rfl⟩
  have q_10 : 0 ≤ v_9.toInt ∧ v_9.toInt ≤ 19 := by rw [ev_9]; exact hI 36 3
  have q_11 : (f_4 36 3).toInt = v_9.toInt := (congrArg Int32.toInt (show f_4 36 3 = v_9 from ev_9.symm))
  have q_12 : (f_4 36 3).toInt = v_9.toInt := (congrArg Int32.toInt (show f_4 36 3 = v_9 from ev_9.symm))
  have k_13 : (0 : Int32).toInt = 0 := by decide
  have k_14 : (0 : Int32).toInt = 0 := by decide
  have k_15 : (3 : Int32).toInt = 3 := by decide
  refine lv_iconst (v := 2) hx hb dX3_runs_262 (by decide) ?_
  refine lv_imul hx hb dX3_runs_263 ?_
  refine lv_topi (fun v_16 ev_16 => ?_)
  have q_17 : (f_4 36 3).toInt = v_9.toInt := (congrArg Int32.toInt (show f_4 36 3 = v_9 from ev_9.symm))
  have q_18 : (f_4 36 3).toInt = v_9.toInt := (congrArg Int32.toInt (show f_4 36 3 = v_9 from ev_9.symm))
  exact hret _ _ _ _ (v_16) f_4 L Q dX3_runs_264 hP hS ⟨⟨hI, hF, rfl, rfl⟩, trivial, (by omega)⟩

abbrev WkX3_does_6_0_2_f2_f6 : List (Nat × Nat × Option Nat) := [(36, 36, some 3), (38, 38, none)]
set_option maxHeartbeats 4000000 in
set_option maxRecDepth 100000 in
theorem kX3_does_6_0_2_f2_f6 (l : Launch) (D : va_G) (ca : Nat → ClassId) (za h : Nat → Nat) (hh : sgH 52 h) (f : sg_F) (L : sg_L) (Q : sg_Q) (hI : sgI loX hiX f) (x2 : Int32) (hf_36_3 : f 36 3 = 2) (hf_36_4 : f 36 4 = 6) (p0 : 2 ≤ (f 36 3).toInt ∧ (f 36 3).toInt ≤ 2) (sz : Nat) : Met l yX3_does gwX3_does { frames := 3, cells := 0, slots := 0, locals := 74 } (sgP D vwCl (tyX ca) 52 h (eX ca h) zcX za f L Q sz [.ref (h 36), .int 6, .int 0, .int x2, .int 2]) (sgQi D vwCl 52 h (eX ca h) sz (fun r f1 L1 Q1 => ((sgI loX hiX f1 ∧ sgK WkX3_does_6_0_2_f2_f6 f f1 ∧ L1 = L ∧ Q1 = Q) ∧ True ∧ (4 ≤ (f1 36 3).toInt ∧ (f1 36 3).toInt ≤ 4)))) 0 0 (sgA 52 h sz) := by
  refine sg_ofWi (cc := cX3_does) (maxL := 7) RX3 (by decide) rfl rfl (Nat.le_of_ble_eq_true rfl) ?_
  intro p e s m below meth cd Qz ls hx hb hml hown hts hK hZ hP hS hl hret
  have hA := sgY.self (n := 52) (h := h) (sz := s.heap.size)
  have hl : lv_has ls 7 [(0, .ref (h 36)), (1, .int 6), (2, .int 0), (3, .int x2), (4, .int 2)] := hl
  obtain ⟨H, hH⟩ : ∃ z : Heap, z = s.heap := ⟨_, rfl⟩
  obtain ⟨locs, hlo⟩ : ∃ z : List Loc, z = [] := ⟨_, rfl⟩
  have hP : va_P D vwCl (sgw 52 h (eX ca h) f L Q) H := by rw [hH]; exact hP
  have hS : va_S (sgA 52 h s.heap.size) s.heap H locs := by rw [hH, hlo]; exact hS
  suffices hgo : W p l e ({ frames := 3, cells := 0, slots := 0, locals := 74 }) s m ([.ref (h 36), .int 6, .int 0, .int x2, .int 2] : List Value).toArray below meth cd H locs 0 0 Qz (F0 m 0 ls []) by rw [hH, hlo] at hgo; exact hgo
  clear hH hlo
  have o_1 : (f 36 3).toInt = 2 := (congrArg Int32.toInt (show f 36 3 = 2 from hf_36_3)).trans (by decide)
  have hF : sgK WkX3_does_6_0_2_f2_f6 f f := sgK.rf
  have blk_53 : ∀ (fp_53 : sg_F) (H : Heap) (locs : List Loc) (ls : Array Slot), 2 ≤ (fp_53 36 3).toInt ∧ (fp_53 36 3).toInt ≤ 2 → 6 ≤ (fp_53 36 4).toInt ∧ (fp_53 36 4).toInt ≤ 6 → sgI loX hiX fp_53 → sgK WkX3_does_6_0_2_f2_f6 f fp_53 → va_P D vwCl (sgw 52 h (eX ca h) fp_53 L Q) H → va_S (sgA 52 h s.heap.size) s.heap H locs → lv_has ls 7 [(0, .ref (h 36)), (3, .int x2), (4, .int 2), (5, .int 6), (6, .int 70)] → W p l e ({ frames := 3, cells := 0, slots := 0, locals := 74 }) s m ([.ref (h 36), .int 6, .int 0, .int x2, .int 2] : List Value).toArray below meth cd H locs 0 0 Qz (F0 m 53 ls []) := by
    intro fp_53 H locs ls hy0_53 hy1_53 hI hF hP hS hl
    obtain ⟨v_2, ev_2⟩ : ∃ z : Int32, z = fp_53 36 3 := ⟨_, rfl⟩
    have q_3 : 0 ≤ v_2.toInt ∧ v_2.toInt ≤ 19 := by rw [ev_2]; exact hI 36 3
    have q_4 : (fp_53 36 3).toInt = v_2.toInt := by rw [ev_2]
    obtain ⟨v_5, ev_5⟩ : ∃ z : Int32, z = fp_53 36 4 := ⟨_, rfl⟩
    have q_6 : 0 ≤ v_5.toInt ∧ v_5.toInt ≤ 7 := by rw [ev_5]; exact hI 36 4
    have q_7 : (fp_53 36 4).toInt = v_5.toInt := by rw [ev_5]
    have m_8 : fp_53 36 4 = 6 := (hF 36 4 (by decide)).trans hf_36_4
    refine lv_aload_n hx hb dX3_does_53 rfl (lv_at hl 0 rfl) ?_
    refine lv_dup hx hb dX3_does_54 rfl ?_
    refine sg_get (ci := 3) (v := .int v_2) (C := RX3) (T := TX3) (N := 6) hx hb hts (fun w h => List.mem_cons_of_mem _ (gx_3 w h)) hown hK hP 36 (by decide) rfl rfl 3 (by decide) (hts _ (List.mem_cons_of_mem _ mw_16)) (fun _ h9 => h9) (congrArg (fun z => some (Value.int z)) (show fp_53 36 3 = v_2 from ev_2.symm)) dX3_does_55 ?_
    refine lv_iconst (v := 1) hx hb dX3_does_58 (by decide) ?_
    refine lv_iadd hx hb dX3_does_59 ?_
    refine lv_topi (fun v_9 ev_9 => ?_)
    have q_10 : v_9.toInt = v_2.toInt + 1 := by rw [ev_9]; have k1 : (1 : Int32).toInt = 1 := (by decide); exact (bn_addI (by omega) (by omega)).trans (by omega)
    refine sg_put (ci := 3) (x := v_9) (ty := .int) (C := RX3) (T := TX3) (N := 6) hx hb hts (fun w h => List.mem_cons_of_mem _ (gx_3 w h)) tyX3 tyX3_ok nmX3 hown hh hA hK hP hS 36 (by decide) rfl rfl 3 (by decide) (hts _ (List.mem_cons_of_mem _ mw_16)) (fun _ h9 => h9) rfl rfl (by decide +kernel) rfl rfl (Nat.le_of_ble_eq_true rfl) dX3_does_60 (fun f_11 H locs ef_11 hP hS => ?_)
    have hI : sgI loX hiX f_11 := by rw [ef_11]; exact sgI.put hI 36 3 (show 0 ≤ (v_9 : Int32).toInt ∧ (v_9 : Int32).toInt ≤ 19 from by omega)
    have hF : sgK WkX3_does_6_0_2_f2_f6 f f_11 := sgK.put hF ef_11 (by rfl)
    refine lv_aload_n hx hb dX3_does_63 rfl (lv_at hl 0 rfl) ?_
    refine lv_iload hx hb dX3_does_64 (lv_at hl 4 rfl) ?_
    refine sg_gets hx hb hZ 2 rfl hS hown (hts _ (List.mem_cons_of_mem _ mw_174)) (fun _ h9 => h9) dX3_does_66 ?_
    refine lv_iload hx hb dX3_does_69 (lv_at hl 3 rfl) ?_
    refine sg_sald hx hb hZ 2 rfl hS (y := 6) (N := 8) (vp_in_iff.mpr (by decide)) dX3_does_71 ?_
    refine W.eq (g2 := F0 m 72 ls [.int 0, .int 70, .ref (h 36)]) (by rfl) ?_
    refine lv_iload_n hx hb dX3_does_72 rfl (lv_at hl 1 rfl) ?_
    refine lv_iload hx hb dX3_does_73 (lv_at hl 2 rfl) ?_
    refine lv_iconst (v := 1) hx hb dX3_does_75 (by decide) ?_
    refine lv_iadd hx hb dX3_does_76 ?_
    refine W.eq (g2 := F0 m 77 ls [.int 3, .int x2, .int 0, .int 70, .ref (h 36)]) (by rw [show (2 + 1 : Int32) = 3 from by decide]) ?_
    have c_12 : v_9 = 3 := Int32.toInt_inj.mp (by have k9 : (3 : Int32).toInt = 3 := (by decide); omega)
    have q_13 : (f_11 36 3).toInt = 3 := (congrArg Int32.toInt (show f_11 36 3 = 3 from (Eq.trans (by rw [ef_11, sg_up_s, sgu_s]) c_12))).trans (by decide)
    have q_14 : (f_11 36 3).toInt = 3 := (congrArg Int32.toInt (show f_11 36 3 = 3 from (Eq.trans (by rw [ef_11, sg_up_s, sgu_s]) c_12))).trans (by decide)
    refine sg_calli (va_runV (As := [.int 70, .int 0, .int x2, .int 3]) (rest := []) ⟨hx, hb, hml, hown, hts⟩ (kX3_runs_70_0_3_f3_f6 l D ca za h hh f_11 L Q hI x2 (Eq.trans (by rw [ef_11, sg_up_s, sgu_s]) c_12) (by rw [ef_11, sg_up_s, sgu_n (by decide)]; exact m_8) (by have k0 : (70 : Int32).toInt = 70 := (by decide); have k1 : (0 : Int32).toInt = 0 := (by decide); have k3 : (3 : Int32).toInt = 3 := (by decide); omega) H.size) (cwV 4 hts (gw_V (fun _ h => List.mem_cons_of_mem _ h) mw_311 mw_312 mw_313 mw_47 mw_310) rfl rfl rfl (by decide +kernel) ⟨Nat.le_of_ble_eq_true rfl, Nat.le_of_ble_eq_true rfl⟩) (sg_preV (ci := 3) (C := RX3) (T := TX3) (N := 6) hA hK hP hS hZ 36 (by decide) rfl rfl) rfl rfl hl.1 rfl (lv_room (Nat.le_of_ble_eq_true rfl)) dX3_does_77 ⟨Nat.le_refl _, Nat.le_refl _⟩) hA hS (fun r_18 f_15 L_16 Q_17 H locs hq hP hS => ?_)
    obtain ⟨⟨hI, hk_f_15, eL9, eQ9⟩, hq, p_19⟩ := hq
    rw [eL9, eQ9] at hP; clear eL9 eQ9
    have hF : sgK WkX3_does_6_0_2_f2_f6 f f_15 := sgK.tr hF hk_f_15 (by decide)
    obtain ⟨v_20, ev_20⟩ : ∃ z : Int32, z = f_15 36 3 := ⟨_, rfl⟩
    have q_21 : 0 ≤ v_20.toInt ∧ v_20.toInt ≤ 19 := by rw [ev_20]; exact hI 36 3
    have q_22 : (f_15 36 3).toInt = v_20.toInt := (congrArg Int32.toInt (show f_15 36 3 = v_20 from ev_20.symm))
    have q_23 : (f_15 36 3).toInt = v_20.toInt := (congrArg Int32.toInt (show f_15 36 3 = v_20 from ev_20.symm))
    have k_24 : (70 : Int32).toInt = 70 := by decide
    have k_25 : (0 : Int32).toInt = 0 := by decide
    have k_26 : (3 : Int32).toInt = 3 := by decide
    have q_27 : (f_15 36 3).toInt = v_20.toInt := (congrArg Int32.toInt (show f_15 36 3 = v_20 from ev_20.symm))
    have q_28 : (f_15 36 3).toInt = v_20.toInt := (congrArg Int32.toInt (show f_15 36 3 = v_20 from ev_20.symm))
    exact hret _ _ _ _ (r_18) f_15 L Q dX3_does_80 hP hS ⟨⟨hI, hF, rfl, rfl⟩, trivial, (by omega)⟩
  refine lv_iload_n hx hb dX3_does_0 rfl (lv_at hl 1 rfl) ?_
  refine lv_iload_n hx hb dX3_does_1 rfl (lv_at hl 2 rfl) ?_
  refine sg_calli (va_runS (As := [.int 6, .int 0]) (rest := []) ⟨hx, hb, hml, hown, hts⟩ (kX3_ownerOf_6_0 l D ca za h hh f L Q hI H.size) (va_cwS 2 hts (gw_S (fun _ h => List.mem_cons_of_mem _ h) mw_189 mw_190 mw_47 mw_188) rfl rfl rfl (by decide +kernel) ⟨Nat.le_of_ble_eq_true rfl, Nat.le_of_ble_eq_true rfl⟩) (sg_preS hA hK hP hS hZ) rfl rfl hl.1 rfl (lv_room (Nat.le_of_ble_eq_true rfl)) dX3_does_2 ⟨Nat.le_refl _, Nat.le_refl _⟩) hA hS (fun r_32 f_29 L_30 Q_31 H locs hq hP hS => ?_)
  obtain ⟨⟨ef9, eL9, eQ9⟩, hq⟩ := hq
  rw [ef9, eL9, eQ9] at hP; clear ef9 eL9 eQ9
  obtain rfl : r_32 = 6 := Int32.toInt_inj.mp (by have k9 : (6 : Int32).toInt = 6 := (by decide); omega)
  refine lv_istore (lv' := [(5, .int 6), (0, .ref (h 36)), (1, .int 6), (2, .int 0), (3, .int x2), (4, .int 2)]) hx hb dX3_does_5 hl (by decide) rfl (fun ls hl => ?_)
  refine lv_iload hx hb dX3_does_7 (lv_at hl 0 rfl) ?_
  refine lv_if_lt (tgt := 19) hx hb dX3_does_9 (by decide) (fun c => absurd c (by decide)) (fun c => ?_)
  refine lv_iload hx hb dX3_does_12 (lv_at hl 5 rfl) ?_
  refine lv_bipush (v := 40) hx hb dX3_does_14 (by decide) ?_
  refine lv_icmp_le (tgt := 21) hx hb dX3_does_16 (by decide) (fun c => ?_) (fun c => absurd c (by decide))
  refine sg_gets hx hb hZ 3 rfl hS hown (hts _ (List.mem_cons_of_mem _ mw_173)) (fun _ h9 => h9) dX3_does_21 ?_
  refine lv_iload hx hb dX3_does_24 (lv_at hl 0 rfl) ?_
  refine lv_iconst (v := 4) hx hb dX3_does_26 (by decide) ?_
  refine lv_imul hx hb dX3_does_27 ?_
  refine W.eq (g2 := F0 m 28 ls [.int 24, .ref (za 3)]) (by rw [show (6 * 4 : Int32) = 24 from by decide]) ?_
  refine lv_iload_n hx hb dX3_does_28 rfl (lv_at hl 3 rfl) ?_
  refine lv_iadd hx hb dX3_does_29 ?_
  refine W.eq (g2 := F0 m 30 ls [.int 24, .ref (za 3)]) (by rw [show (24 + 0 : Int32) = 24 from by decide]) ?_
  refine sg_sald hx hb hZ 3 rfl hS (y := 24) (N := 32) (vp_in_iff.mpr (by decide)) dX3_does_30 ?_
  refine W.eq (g2 := F0 m 31 ls [.int 70]) (by rfl) ?_
  refine lv_istore (lv' := [(6, .int 70), (5, .int 6), (0, .ref (h 36)), (1, .int 6), (2, .int 0), (3, .int x2), (4, .int 2)]) hx hb dX3_does_31 hl (by decide) rfl (fun ls hl => ?_)
  refine lv_aload_n hx hb dX3_does_33 rfl (lv_at hl 2 rfl) ?_
  refine sg_get (ci := 3) (v := .int 2) (C := RX3) (T := TX3) (N := 6) hx hb hts (fun w h => List.mem_cons_of_mem _ (gx_3 w h)) hown hK hP 36 (by decide) rfl rfl 3 (by decide) (hts _ (List.mem_cons_of_mem _ mw_16)) (fun _ h9 => h9) (congrArg (fun z => some (Value.int z)) (show f 36 3 = 2 from hf_36_3)) dX3_does_34 ?_
  refine lv_bipush (v := 24) hx hb dX3_does_37 (by decide) ?_
  refine lv_icmp_ge (tgt := 53) hx hb dX3_does_39 (by decide) (fun c => absurd c (by decide)) (fun c => ?_)
  refine lv_aload_n hx hb dX3_does_42 rfl (lv_at hl 2 rfl) ?_
  refine sg_get (ci := 3) (v := .ref (h 38)) (C := RX3) (T := TX3) (N := 6) hx hb hts (fun w h => List.mem_cons_of_mem _ (gx_3 w h)) hown hK hP 36 (by decide) rfl rfl 1 (by decide) (hts _ (List.mem_cons_of_mem _ mw_191)) (fun _ h9 => h9) rfl dX3_does_43 ?_
  refine lv_aload_n hx hb dX3_does_46 rfl (lv_at hl 2 rfl) ?_
  refine sg_get (ci := 3) (v := .int 2) (C := RX3) (T := TX3) (N := 6) hx hb hts (fun w h => List.mem_cons_of_mem _ (gx_3 w h)) hown hK hP 36 (by decide) rfl rfl 3 (by decide) (hts _ (List.mem_cons_of_mem _ mw_16)) (fun _ h9 => h9) (congrArg (fun z => some (Value.int z)) (show f 36 3 = 2 from hf_36_3)) dX3_does_47 ?_
  refine lv_iload hx hb dX3_does_50 (lv_at hl 0 rfl) ?_
  refine sg_iast hx hb hh hA hK hP hS 38 (by decide) 0 (fun _ => rfl) rfl (i := 2) (x := 70) (vp_in_iff.mpr (by decide)) dX3_does_52 (fun f_33 H locs ef_33 hP hS => ?_)
  have hI : sgI loX hiX f_33 := by rw [ef_33]; exact sgI.put hI 38 (Int32.toNatClampNeg 2) (show 0 ≤ (70 : Int32).toInt ∧ (70 : Int32).toInt ≤ 81 from by decide)
  have hF : sgK WkX3_does_6_0_2_f2_f6 f f_33 := sgK.put hF ef_33 (by rfl)
  exact blk_53 f_33 _ _ _ (by have zz36_3 : (f_33 36 3).toInt = 2 := (congrArg Int32.toInt (show f_33 36 3 = 2 from (by rw [ef_33, sg_up_n (by decide)]; exact hf_36_3))).trans (by decide); omega) (by have zz36_4 : (f_33 36 4).toInt = 6 := (congrArg Int32.toInt (show f_33 36 4 = 6 from (by rw [ef_33, sg_up_n (by decide)]; exact hf_36_4))).trans (by decide); omega) hI hF hP hS (lv_sub hl [2, 5, 6, 1, 0] rfl)

abbrev WkX3_runs_10_m1_2_f2_f6 : List (Nat × Nat × Option Nat) := [(36, 36, some 3), (38, 38, none)]
set_option maxHeartbeats 4000000 in
set_option maxRecDepth 100000 in
theorem kX3_runs_10_m1_2_f2_f6 (l : Launch) (D : va_G) (ca : Nat → ClassId) (za h : Nat → Nat) (hh : sgH 52 h) (f : sg_F) (L : sg_L) (Q : sg_Q) (hI : sgI loX hiX f) (x2 : Int32) (hf_36_3 : f 36 3 = 2) (hf_36_4 : f 36 4 = 6) (p0 : 2 ≤ (f 36 3).toInt ∧ (f 36 3).toInt ≤ 2) (sz : Nat) : Met l yX3_runs gwX3_runs { frames := 4, cells := 0, slots := 0, locals := 100 } (sgP D vwCl (tyX ca) 52 h (eX ca h) zcX za f L Q sz [.ref (h 36), .int 10, .int (-1), .int x2, .int 2]) (sgQi D vwCl 52 h (eX ca h) sz (fun r f1 L1 Q1 => ((sgI loX hiX f1 ∧ sgK WkX3_runs_10_m1_2_f2_f6 f f1 ∧ L1 = L ∧ Q1 = Q) ∧ True ∧ (4 ≤ (f1 36 3).toInt ∧ (f1 36 3).toInt ≤ 4)))) 0 0 (sgA 52 h sz) := by
  refine sg_ofWi (cc := cX3_runs) (maxL := 5) RX3 (by decide) rfl rfl (Nat.le_of_ble_eq_true rfl) ?_
  intro p e s m below meth cd Qz ls hx hb hml hown hts hK hZ hP hS hl hret
  have hA := sgY.self (n := 52) (h := h) (sz := s.heap.size)
  have hl : lv_has ls 5 [(0, .ref (h 36)), (1, .int 10), (2, .int (-1)), (3, .int x2), (4, .int 2)] := hl
  obtain ⟨H, hH⟩ : ∃ z : Heap, z = s.heap := ⟨_, rfl⟩
  obtain ⟨locs, hlo⟩ : ∃ z : List Loc, z = [] := ⟨_, rfl⟩
  have hP : va_P D vwCl (sgw 52 h (eX ca h) f L Q) H := by rw [hH]; exact hP
  have hS : va_S (sgA 52 h s.heap.size) s.heap H locs := by rw [hH, hlo]; exact hS
  suffices hgo : W p l e ({ frames := 4, cells := 0, slots := 0, locals := 100 }) s m ([.ref (h 36), .int 10, .int (-1), .int x2, .int 2] : List Value).toArray below meth cd H locs 0 0 Qz (F0 m 0 ls []) by rw [hH, hlo] at hgo; exact hgo
  clear hH hlo
  have o_1 : (f 36 3).toInt = 2 := (congrArg Int32.toInt (show f 36 3 = 2 from hf_36_3)).trans (by decide)
  have hF : sgK WkX3_runs_10_m1_2_f2_f6 f f := sgK.rf
  refine lv_iload_n hx hb dX3_runs_0 rfl (lv_at hl 1 rfl) ?_
  refine lv_lookup (x := 10) (off := 148) (tgt := 149) hx hb dX3_runs_1 (by decide) (by decide) (by decide) ?_
  refine lv_aload_n hx hb dX3_runs_149 rfl (lv_at hl 0 rfl) ?_
  refine lv_aload_n hx hb dX3_runs_150 rfl (lv_at hl 0 rfl) ?_
  refine sg_get (ci := 3) (v := .int 6) (C := RX3) (T := TX3) (N := 6) hx hb hts (fun w h => List.mem_cons_of_mem _ (gx_3 w h)) hown hK hP 36 (by decide) rfl rfl 4 (by decide) (hts _ (List.mem_cons_of_mem _ mw_105)) (fun _ h9 => h9) (congrArg (fun z => some (Value.int z)) (show f 36 4 = 6 from hf_36_4)) dX3_runs_151 ?_
  refine lv_iconst (v := 0) hx hb dX3_runs_154 (by decide) ?_
  refine lv_iload_n hx hb dX3_runs_155 rfl (lv_at hl 3 rfl) ?_
  refine lv_iload hx hb dX3_runs_156 (lv_at hl 4 rfl) ?_
  have q_2 : (f 36 3).toInt = 2 := (congrArg Int32.toInt (show f 36 3 = 2 from hf_36_3)).trans (by decide)
  have q_3 : (f 36 3).toInt = 2 := (congrArg Int32.toInt (show f 36 3 = 2 from hf_36_3)).trans (by decide)
  refine sg_calli (va_runV (As := [.int 6, .int 0, .int x2, .int 2]) (rest := []) ⟨hx, hb, hml, hown, hts⟩ (kX3_does_6_0_2_f2_f6 l D ca za h hh f L Q hI x2 hf_36_3 hf_36_4 (by have k0 : (6 : Int32).toInt = 6 := (by decide); have k1 : (0 : Int32).toInt = 0 := (by decide); have k3 : (2 : Int32).toInt = 2 := (by decide); omega) H.size) (cwV 4 hts (gw_V (fun _ h => List.mem_cons_of_mem _ h) mw_318 mw_319 mw_320 mw_47 mw_317) rfl rfl rfl (by decide +kernel) ⟨Nat.le_of_ble_eq_true rfl, Nat.le_of_ble_eq_true rfl⟩) (sg_preV (ci := 3) (C := RX3) (T := TX3) (N := 6) hA hK hP hS hZ 36 (by decide) rfl rfl) rfl rfl hl.1 rfl (lv_room (Nat.le_of_ble_eq_true rfl)) dX3_runs_158 ⟨Nat.le_refl _, Nat.le_refl _⟩) hA hS (fun r_7 f_4 L_5 Q_6 H locs hq hP hS => ?_)
  obtain ⟨⟨hI, hk_f_4, eL9, eQ9⟩, hq, p_8⟩ := hq
  rw [eL9, eQ9] at hP; clear eL9 eQ9
  have hF : sgK WkX3_runs_10_m1_2_f2_f6 f f_4 := sgK.tr hF hk_f_4 (by decide)
  obtain ⟨v_9, ev_9⟩ : ∃ z : Int32, z = f_4 36 3 := ⟨_, rfl⟩
  have q_10 : 0 ≤ v_9.toInt ∧ v_9.toInt ≤ 19 := by rw [ev_9]; exact hI 36 3
  have q_11 : (f_4 36 3).toInt = v_9.toInt := (congrArg Int32.toInt (show f_4 36 3 = v_9 from ev_9.symm))
  have q_12 : (f_4 36 3).toInt = v_9.toInt := (congrArg Int32.toInt (show f_4 36 3 = v_9 from ev_9.symm))
  have k_13 : (6 : Int32).toInt = 6 := by decide
  have k_14 : (0 : Int32).toInt = 0 := by decide
  have k_15 : (2 : Int32).toInt = 2 := by decide
  refine lv_iconst (v := 2) hx hb dX3_runs_161 (by decide) ?_
  refine lv_imul hx hb dX3_runs_162 ?_
  refine lv_topi (fun v_16 ev_16 => ?_)
  have q_17 : (f_4 36 3).toInt = v_9.toInt := (congrArg Int32.toInt (show f_4 36 3 = v_9 from ev_9.symm))
  have q_18 : (f_4 36 3).toInt = v_9.toInt := (congrArg Int32.toInt (show f_4 36 3 = v_9 from ev_9.symm))
  exact hret _ _ _ _ (v_16) f_4 L Q dX3_runs_163 hP hS ⟨⟨hI, hF, rfl, rfl⟩, trivial, (by omega)⟩

abbrev WkX3_does_6_1_1_f1_f6 : List (Nat × Nat × Option Nat) := [(36, 36, some 3), (38, 38, none)]
set_option maxHeartbeats 4000000 in
set_option maxRecDepth 100000 in
theorem kX3_does_6_1_1_f1_f6 (l : Launch) (D : va_G) (ca : Nat → ClassId) (za h : Nat → Nat) (hh : sgH 52 h) (f : sg_F) (L : sg_L) (Q : sg_Q) (hI : sgI loX hiX f) (x2 : Int32) (hf_36_3 : f 36 3 = 1) (hf_36_4 : f 36 4 = 6) (p0 : 1 ≤ (f 36 3).toInt ∧ (f 36 3).toInt ≤ 1) (sz : Nat) : Met l yX3_does gwX3_does { frames := 5, cells := 0, slots := 0, locals := 124 } (sgP D vwCl (tyX ca) 52 h (eX ca h) zcX za f L Q sz [.ref (h 36), .int 6, .int 1, .int x2, .int 1]) (sgQi D vwCl 52 h (eX ca h) sz (fun r f1 L1 Q1 => ((sgI loX hiX f1 ∧ sgK WkX3_does_6_1_1_f1_f6 f f1 ∧ L1 = L ∧ Q1 = Q) ∧ True ∧ (4 ≤ (f1 36 3).toInt ∧ (f1 36 3).toInt ≤ 4)))) 0 0 (sgA 52 h sz) := by
  refine sg_ofWi (cc := cX3_does) (maxL := 7) RX3 (by decide) rfl rfl (Nat.le_of_ble_eq_true rfl) ?_
  intro p e s m below meth cd Qz ls hx hb hml hown hts hK hZ hP hS hl hret
  have hA := sgY.self (n := 52) (h := h) (sz := s.heap.size)
  have hl : lv_has ls 7 [(0, .ref (h 36)), (1, .int 6), (2, .int 1), (3, .int x2), (4, .int 1)] := hl
  obtain ⟨H, hH⟩ : ∃ z : Heap, z = s.heap := ⟨_, rfl⟩
  obtain ⟨locs, hlo⟩ : ∃ z : List Loc, z = [] := ⟨_, rfl⟩
  have hP : va_P D vwCl (sgw 52 h (eX ca h) f L Q) H := by rw [hH]; exact hP
  have hS : va_S (sgA 52 h s.heap.size) s.heap H locs := by rw [hH, hlo]; exact hS
  suffices hgo : W p l e ({ frames := 5, cells := 0, slots := 0, locals := 124 }) s m ([.ref (h 36), .int 6, .int 1, .int x2, .int 1] : List Value).toArray below meth cd H locs 0 0 Qz (F0 m 0 ls []) by rw [hH, hlo] at hgo; exact hgo
  clear hH hlo
  have o_1 : (f 36 3).toInt = 1 := (congrArg Int32.toInt (show f 36 3 = 1 from hf_36_3)).trans (by decide)
  have hF : sgK WkX3_does_6_1_1_f1_f6 f f := sgK.rf
  have blk_53 : ∀ (fp_53 : sg_F) (H : Heap) (locs : List Loc) (ls : Array Slot), 1 ≤ (fp_53 36 3).toInt ∧ (fp_53 36 3).toInt ≤ 1 → 6 ≤ (fp_53 36 4).toInt ∧ (fp_53 36 4).toInt ≤ 6 → sgI loX hiX fp_53 → sgK WkX3_does_6_1_1_f1_f6 f fp_53 → va_P D vwCl (sgw 52 h (eX ca h) fp_53 L Q) H → va_S (sgA 52 h s.heap.size) s.heap H locs → lv_has ls 7 [(0, .ref (h 36)), (3, .int x2), (4, .int 1), (5, .int 0), (6, .int 10)] → W p l e ({ frames := 5, cells := 0, slots := 0, locals := 124 }) s m ([.ref (h 36), .int 6, .int 1, .int x2, .int 1] : List Value).toArray below meth cd H locs 0 0 Qz (F0 m 53 ls []) := by
    intro fp_53 H locs ls hy0_53 hy1_53 hI hF hP hS hl
    obtain ⟨v_2, ev_2⟩ : ∃ z : Int32, z = fp_53 36 3 := ⟨_, rfl⟩
    have q_3 : 0 ≤ v_2.toInt ∧ v_2.toInt ≤ 19 := by rw [ev_2]; exact hI 36 3
    have q_4 : (fp_53 36 3).toInt = v_2.toInt := by rw [ev_2]
    obtain ⟨v_5, ev_5⟩ : ∃ z : Int32, z = fp_53 36 4 := ⟨_, rfl⟩
    have q_6 : 0 ≤ v_5.toInt ∧ v_5.toInt ≤ 7 := by rw [ev_5]; exact hI 36 4
    have q_7 : (fp_53 36 4).toInt = v_5.toInt := by rw [ev_5]
    have m_8 : fp_53 36 4 = 6 := (hF 36 4 (by decide)).trans hf_36_4
    refine lv_aload_n hx hb dX3_does_53 rfl (lv_at hl 0 rfl) ?_
    refine lv_dup hx hb dX3_does_54 rfl ?_
    refine sg_get (ci := 3) (v := .int v_2) (C := RX3) (T := TX3) (N := 6) hx hb hts (fun w h => List.mem_cons_of_mem _ (gx_3 w h)) hown hK hP 36 (by decide) rfl rfl 3 (by decide) (hts _ (List.mem_cons_of_mem _ mw_16)) (fun _ h9 => h9) (congrArg (fun z => some (Value.int z)) (show fp_53 36 3 = v_2 from ev_2.symm)) dX3_does_55 ?_
    refine lv_iconst (v := 1) hx hb dX3_does_58 (by decide) ?_
    refine lv_iadd hx hb dX3_does_59 ?_
    refine lv_topi (fun v_9 ev_9 => ?_)
    have q_10 : v_9.toInt = v_2.toInt + 1 := by rw [ev_9]; have k1 : (1 : Int32).toInt = 1 := (by decide); exact (bn_addI (by omega) (by omega)).trans (by omega)
    refine sg_put (ci := 3) (x := v_9) (ty := .int) (C := RX3) (T := TX3) (N := 6) hx hb hts (fun w h => List.mem_cons_of_mem _ (gx_3 w h)) tyX3 tyX3_ok nmX3 hown hh hA hK hP hS 36 (by decide) rfl rfl 3 (by decide) (hts _ (List.mem_cons_of_mem _ mw_16)) (fun _ h9 => h9) rfl rfl (by decide +kernel) rfl rfl (Nat.le_of_ble_eq_true rfl) dX3_does_60 (fun f_11 H locs ef_11 hP hS => ?_)
    have hI : sgI loX hiX f_11 := by rw [ef_11]; exact sgI.put hI 36 3 (show 0 ≤ (v_9 : Int32).toInt ∧ (v_9 : Int32).toInt ≤ 19 from by omega)
    have hF : sgK WkX3_does_6_1_1_f1_f6 f f_11 := sgK.put hF ef_11 (by rfl)
    refine lv_aload_n hx hb dX3_does_63 rfl (lv_at hl 0 rfl) ?_
    refine lv_iload hx hb dX3_does_64 (lv_at hl 4 rfl) ?_
    refine sg_gets hx hb hZ 2 rfl hS hown (hts _ (List.mem_cons_of_mem _ mw_174)) (fun _ h9 => h9) dX3_does_66 ?_
    refine lv_iload hx hb dX3_does_69 (lv_at hl 3 rfl) ?_
    refine sg_sald hx hb hZ 2 rfl hS (y := 0) (N := 8) (vp_in_iff.mpr (by decide)) dX3_does_71 ?_
    refine W.eq (g2 := F0 m 72 ls [.int (-1), .int 10, .ref (h 36)]) (by rfl) ?_
    refine lv_iload_n hx hb dX3_does_72 rfl (lv_at hl 1 rfl) ?_
    refine lv_iload hx hb dX3_does_73 (lv_at hl 2 rfl) ?_
    refine lv_iconst (v := 1) hx hb dX3_does_75 (by decide) ?_
    refine lv_iadd hx hb dX3_does_76 ?_
    refine W.eq (g2 := F0 m 77 ls [.int 2, .int x2, .int (-1), .int 10, .ref (h 36)]) (by rw [show (1 + 1 : Int32) = 2 from by decide]) ?_
    have c_12 : v_9 = 2 := Int32.toInt_inj.mp (by have k9 : (2 : Int32).toInt = 2 := (by decide); omega)
    have q_13 : (f_11 36 3).toInt = 2 := (congrArg Int32.toInt (show f_11 36 3 = 2 from (Eq.trans (by rw [ef_11, sg_up_s, sgu_s]) c_12))).trans (by decide)
    have q_14 : (f_11 36 3).toInt = 2 := (congrArg Int32.toInt (show f_11 36 3 = 2 from (Eq.trans (by rw [ef_11, sg_up_s, sgu_s]) c_12))).trans (by decide)
    refine sg_calli (va_runV (As := [.int 10, .int (-1), .int x2, .int 2]) (rest := []) ⟨hx, hb, hml, hown, hts⟩ (kX3_runs_10_m1_2_f2_f6 l D ca za h hh f_11 L Q hI x2 (Eq.trans (by rw [ef_11, sg_up_s, sgu_s]) c_12) (by rw [ef_11, sg_up_s, sgu_n (by decide)]; exact m_8) (by have k0 : (10 : Int32).toInt = 10 := (by decide); have k1 : ((-1) : Int32).toInt = (-1) := (by decide); have k3 : (2 : Int32).toInt = 2 := (by decide); omega) H.size) (cwV 4 hts (gw_V (fun _ h => List.mem_cons_of_mem _ h) mw_311 mw_312 mw_313 mw_47 mw_310) rfl rfl rfl (by decide +kernel) ⟨Nat.le_of_ble_eq_true rfl, Nat.le_of_ble_eq_true rfl⟩) (sg_preV (ci := 3) (C := RX3) (T := TX3) (N := 6) hA hK hP hS hZ 36 (by decide) rfl rfl) rfl rfl hl.1 rfl (lv_room (Nat.le_of_ble_eq_true rfl)) dX3_does_77 ⟨Nat.le_refl _, Nat.le_refl _⟩) hA hS (fun r_18 f_15 L_16 Q_17 H locs hq hP hS => ?_)
    obtain ⟨⟨hI, hk_f_15, eL9, eQ9⟩, hq, p_19⟩ := hq
    rw [eL9, eQ9] at hP; clear eL9 eQ9
    have hF : sgK WkX3_does_6_1_1_f1_f6 f f_15 := sgK.tr hF hk_f_15 (by decide)
    obtain ⟨v_20, ev_20⟩ : ∃ z : Int32, z = f_15 36 3 := ⟨_, rfl⟩
    have q_21 : 0 ≤ v_20.toInt ∧ v_20.toInt ≤ 19 := by rw [ev_20]; exact hI 36 3
    have q_22 : (f_15 36 3).toInt = v_20.toInt := (congrArg Int32.toInt (show f_15 36 3 = v_20 from ev_20.symm))
    have q_23 : (f_15 36 3).toInt = v_20.toInt := (congrArg Int32.toInt (show f_15 36 3 = v_20 from ev_20.symm))
    have k_24 : (10 : Int32).toInt = 10 := by decide
    have k_25 : ((-1) : Int32).toInt = (-1) := by decide
    have k_26 : (2 : Int32).toInt = 2 := by decide
    have q_27 : (f_15 36 3).toInt = v_20.toInt := (congrArg Int32.toInt (show f_15 36 3 = v_20 from ev_20.symm))
    have q_28 : (f_15 36 3).toInt = v_20.toInt := (congrArg Int32.toInt (show f_15 36 3 = v_20 from ev_20.symm))
    exact hret _ _ _ _ (r_18) f_15 L Q dX3_does_80 hP hS ⟨⟨hI, hF, rfl, rfl⟩, trivial, (by omega)⟩
  refine lv_iload_n hx hb dX3_does_0 rfl (lv_at hl 1 rfl) ?_
  refine lv_iload_n hx hb dX3_does_1 rfl (lv_at hl 2 rfl) ?_
  refine sg_calli (va_runS (As := [.int 6, .int 1]) (rest := []) ⟨hx, hb, hml, hown, hts⟩ (kX3_ownerOf_6_1 l D ca za h hh f L Q hI H.size) (va_cwS 2 hts (gw_S (fun _ h => List.mem_cons_of_mem _ h) mw_189 mw_190 mw_47 mw_188) rfl rfl rfl (by decide +kernel) ⟨Nat.le_of_ble_eq_true rfl, Nat.le_of_ble_eq_true rfl⟩) (sg_preS hA hK hP hS hZ) rfl rfl hl.1 rfl (lv_room (Nat.le_of_ble_eq_true rfl)) dX3_does_2 ⟨Nat.le_refl _, Nat.le_refl _⟩) hA hS (fun r_32 f_29 L_30 Q_31 H locs hq hP hS => ?_)
  obtain ⟨⟨ef9, eL9, eQ9⟩, hq⟩ := hq
  rw [ef9, eL9, eQ9] at hP; clear ef9 eL9 eQ9
  obtain rfl : r_32 = 0 := Int32.toInt_inj.mp (by have k9 : (0 : Int32).toInt = 0 := (by decide); omega)
  refine lv_istore (lv' := [(5, .int 0), (0, .ref (h 36)), (1, .int 6), (2, .int 1), (3, .int x2), (4, .int 1)]) hx hb dX3_does_5 hl (by decide) rfl (fun ls hl => ?_)
  refine lv_iload hx hb dX3_does_7 (lv_at hl 0 rfl) ?_
  refine lv_if_lt (tgt := 19) hx hb dX3_does_9 (by decide) (fun c => absurd c (by decide)) (fun c => ?_)
  refine lv_iload hx hb dX3_does_12 (lv_at hl 5 rfl) ?_
  refine lv_bipush (v := 40) hx hb dX3_does_14 (by decide) ?_
  refine lv_icmp_le (tgt := 21) hx hb dX3_does_16 (by decide) (fun c => ?_) (fun c => absurd c (by decide))
  refine sg_gets hx hb hZ 3 rfl hS hown (hts _ (List.mem_cons_of_mem _ mw_173)) (fun _ h9 => h9) dX3_does_21 ?_
  refine lv_iload hx hb dX3_does_24 (lv_at hl 0 rfl) ?_
  refine lv_iconst (v := 4) hx hb dX3_does_26 (by decide) ?_
  refine lv_imul hx hb dX3_does_27 ?_
  refine W.eq (g2 := F0 m 28 ls [.int 0, .ref (za 3)]) (by rw [show (0 * 4 : Int32) = 0 from by decide]) ?_
  refine lv_iload_n hx hb dX3_does_28 rfl (lv_at hl 3 rfl) ?_
  refine lv_iadd hx hb dX3_does_29 ?_
  refine W.eq (g2 := F0 m 30 ls [.int 1, .ref (za 3)]) (by rw [show (0 + 1 : Int32) = 1 from by decide]) ?_
  refine sg_sald hx hb hZ 3 rfl hS (y := 1) (N := 32) (vp_in_iff.mpr (by decide)) dX3_does_30 ?_
  refine W.eq (g2 := F0 m 31 ls [.int 10]) (by rfl) ?_
  refine lv_istore (lv' := [(6, .int 10), (5, .int 0), (0, .ref (h 36)), (1, .int 6), (2, .int 1), (3, .int x2), (4, .int 1)]) hx hb dX3_does_31 hl (by decide) rfl (fun ls hl => ?_)
  refine lv_aload_n hx hb dX3_does_33 rfl (lv_at hl 2 rfl) ?_
  refine sg_get (ci := 3) (v := .int 1) (C := RX3) (T := TX3) (N := 6) hx hb hts (fun w h => List.mem_cons_of_mem _ (gx_3 w h)) hown hK hP 36 (by decide) rfl rfl 3 (by decide) (hts _ (List.mem_cons_of_mem _ mw_16)) (fun _ h9 => h9) (congrArg (fun z => some (Value.int z)) (show f 36 3 = 1 from hf_36_3)) dX3_does_34 ?_
  refine lv_bipush (v := 24) hx hb dX3_does_37 (by decide) ?_
  refine lv_icmp_ge (tgt := 53) hx hb dX3_does_39 (by decide) (fun c => absurd c (by decide)) (fun c => ?_)
  refine lv_aload_n hx hb dX3_does_42 rfl (lv_at hl 2 rfl) ?_
  refine sg_get (ci := 3) (v := .ref (h 38)) (C := RX3) (T := TX3) (N := 6) hx hb hts (fun w h => List.mem_cons_of_mem _ (gx_3 w h)) hown hK hP 36 (by decide) rfl rfl 1 (by decide) (hts _ (List.mem_cons_of_mem _ mw_191)) (fun _ h9 => h9) rfl dX3_does_43 ?_
  refine lv_aload_n hx hb dX3_does_46 rfl (lv_at hl 2 rfl) ?_
  refine sg_get (ci := 3) (v := .int 1) (C := RX3) (T := TX3) (N := 6) hx hb hts (fun w h => List.mem_cons_of_mem _ (gx_3 w h)) hown hK hP 36 (by decide) rfl rfl 3 (by decide) (hts _ (List.mem_cons_of_mem _ mw_16)) (fun _ h9 => h9) (congrArg (fun z => some (Value.int z)) (show f 36 3 = 1 from hf_36_3)) dX3_does_47 ?_
  refine lv_iload hx hb dX3_does_50 (lv_at hl 0 rfl) ?_
  refine sg_iast hx hb hh hA hK hP hS 38 (by decide) 0 (fun _ => rfl) rfl (i := 1) (x := 10) (vp_in_iff.mpr (by decide)) dX3_does_52 (fun f_33 H locs ef_33 hP hS => ?_)
  have hI : sgI loX hiX f_33 := by rw [ef_33]; exact sgI.put hI 38 (Int32.toNatClampNeg 1) (show 0 ≤ (10 : Int32).toInt ∧ (10 : Int32).toInt ≤ 81 from by decide)
  have hF : sgK WkX3_does_6_1_1_f1_f6 f f_33 := sgK.put hF ef_33 (by rfl)
  exact blk_53 f_33 _ _ _ (by have zz36_3 : (f_33 36 3).toInt = 1 := (congrArg Int32.toInt (show f_33 36 3 = 1 from (by rw [ef_33, sg_up_n (by decide)]; exact hf_36_3))).trans (by decide); omega) (by have zz36_4 : (f_33 36 4).toInt = 6 := (congrArg Int32.toInt (show f_33 36 4 = 6 from (by rw [ef_33, sg_up_n (by decide)]; exact hf_36_4))).trans (by decide); omega) hI hF hP hS (lv_sub hl [2, 5, 6, 1, 0] rfl)

set_option maxHeartbeats 4000000 in
set_option maxRecDepth 100000 in
theorem kX3_runs_11_m1_2_f5_f6 (l : Launch) (D : va_G) (ca : Nat → ClassId) (za h : Nat → Nat) (hh : sgH 52 h) (f : sg_F) (L : sg_L) (Q : sg_Q) (hI : sgI loX hiX f) (x2 : Int32) (hf_36_3 : f 36 3 = 5) (hf_36_4 : f 36 4 = 6) (b2 : 1 ≤ x2.toInt ∧ x2.toInt ≤ 1) (p0 : 5 ≤ (f 36 3).toInt ∧ (f 36 3).toInt ≤ 5) (sz : Nat) : Met l yX3_runs gwX3_runs { frames := 0, cells := 0, slots := 0, locals := 0 } (sgP D vwCl (tyX ca) 52 h (eX ca h) zcX za f L Q sz [.ref (h 36), .int 11, .int (-1), .int x2, .int 2]) (sgQi D vwCl 52 h (eX ca h) sz (fun r f1 L1 Q1 => ((f1 = f ∧ L1 = L ∧ Q1 = Q) ∧ True ∧ (5 ≤ (f1 36 3).toInt ∧ (f1 36 3).toInt ≤ 5)))) 0 0 (sgA 52 h sz) := by
  refine sg_ofWi (cc := cX3_runs) (maxL := 5) RX3 (by decide) rfl rfl (Nat.le_of_ble_eq_true rfl) ?_
  intro p e s m below meth cd Qz ls hx hb hml hown hts hK hZ hP hS hl hret
  have hA := sgY.self (n := 52) (h := h) (sz := s.heap.size)
  have hl : lv_has ls 5 [(0, .ref (h 36)), (1, .int 11), (2, .int (-1)), (3, .int x2), (4, .int 2)] := hl
  obtain ⟨H, hH⟩ : ∃ z : Heap, z = s.heap := ⟨_, rfl⟩
  obtain ⟨locs, hlo⟩ : ∃ z : List Loc, z = [] := ⟨_, rfl⟩
  have hP : va_P D vwCl (sgw 52 h (eX ca h) f L Q) H := by rw [hH]; exact hP
  have hS : va_S (sgA 52 h s.heap.size) s.heap H locs := by rw [hH, hlo]; exact hS
  suffices hgo : W p l e ({ frames := 0, cells := 0, slots := 0, locals := 0 }) s m ([.ref (h 36), .int 11, .int (-1), .int x2, .int 2] : List Value).toArray below meth cd H locs 0 0 Qz (F0 m 0 ls []) by rw [hH, hlo] at hgo; exact hgo
  clear hH hlo
  have o_1 : (f 36 3).toInt = 5 := (congrArg Int32.toInt (show f 36 3 = 5 from hf_36_3)).trans (by decide)
  refine lv_iload_n hx hb dX3_runs_0 rfl (lv_at hl 1 rfl) ?_
  refine lv_lookup (x := 11) (off := 163) (tgt := 164) hx hb dX3_runs_1 (by decide) (by decide) (by decide) ?_
  refine lv_iload_n hx hb dX3_runs_164 rfl (lv_at hl 3 rfl) ?_
  refine lv_aload_n hx hb dX3_runs_165 rfl (lv_at hl 0 rfl) ?_
  refine sg_get (ci := 3) (v := .int (f 36 5)) (C := RX3) (T := TX3) (N := 6) hx hb hts (fun w h => List.mem_cons_of_mem _ (gx_3 w h)) hown hK hP 36 (by decide) rfl rfl 5 (by decide) (hts _ (List.mem_cons_of_mem _ mw_106)) (fun _ h9 => h9) rfl dX3_runs_166 ?_
  refine lv_topi (fun v_2 ev_2 => ?_)
  have q_3 : 0 ≤ v_2.toInt ∧ v_2.toInt ≤ 49 := by rw [ev_2]; exact hI 36 5
  refine lv_ixor hx hb dX3_runs_169 ?_
  refine lv_topi (fun v_4 ev_4 => ?_)
  have q_5 : (f 36 3).toInt = 5 := (congrArg Int32.toInt (show f 36 3 = 5 from hf_36_3)).trans (by decide)
  have q_6 : (f 36 3).toInt = 5 := (congrArg Int32.toInt (show f 36 3 = 5 from hf_36_3)).trans (by decide)
  exact hret _ _ _ _ (v_4) f L Q dX3_runs_170 hP hS ⟨⟨rfl, rfl, rfl⟩, trivial, (by omega)⟩

abbrev WkX3_does_6_2_1_f4_f6 : List (Nat × Nat × Option Nat) := [(36, 36, some 3), (38, 38, none)]
set_option maxHeartbeats 4000000 in
set_option maxRecDepth 100000 in
theorem kX3_does_6_2_1_f4_f6 (l : Launch) (D : va_G) (ca : Nat → ClassId) (za h : Nat → Nat) (hh : sgH 52 h) (f : sg_F) (L : sg_L) (Q : sg_Q) (hI : sgI loX hiX f) (x2 : Int32) (hf_36_3 : f 36 3 = 4) (hf_36_4 : f 36 4 = 6) (b2 : 1 ≤ x2.toInt ∧ x2.toInt ≤ 1) (p0 : 4 ≤ (f 36 3).toInt ∧ (f 36 3).toInt ≤ 4) (sz : Nat) : Met l yX3_does gwX3_does { frames := 1, cells := 0, slots := 0, locals := 24 } (sgP D vwCl (tyX ca) 52 h (eX ca h) zcX za f L Q sz [.ref (h 36), .int 6, .int 2, .int x2, .int 1]) (sgQi D vwCl 52 h (eX ca h) sz (fun r f1 L1 Q1 => ((sgI loX hiX f1 ∧ sgK WkX3_does_6_2_1_f4_f6 f f1 ∧ L1 = L ∧ Q1 = Q) ∧ True ∧ (5 ≤ (f1 36 3).toInt ∧ (f1 36 3).toInt ≤ 5)))) 0 0 (sgA 52 h sz) := by
  refine sg_ofWi (cc := cX3_does) (maxL := 7) RX3 (by decide) rfl rfl (Nat.le_of_ble_eq_true rfl) ?_
  intro p e s m below meth cd Qz ls hx hb hml hown hts hK hZ hP hS hl hret
  have hA := sgY.self (n := 52) (h := h) (sz := s.heap.size)
  have hl : lv_has ls 7 [(0, .ref (h 36)), (1, .int 6), (2, .int 2), (3, .int x2), (4, .int 1)] := hl
  obtain ⟨H, hH⟩ : ∃ z : Heap, z = s.heap := ⟨_, rfl⟩
  obtain ⟨locs, hlo⟩ : ∃ z : List Loc, z = [] := ⟨_, rfl⟩
  have hP : va_P D vwCl (sgw 52 h (eX ca h) f L Q) H := by rw [hH]; exact hP
  have hS : va_S (sgA 52 h s.heap.size) s.heap H locs := by rw [hH, hlo]; exact hS
  suffices hgo : W p l e ({ frames := 1, cells := 0, slots := 0, locals := 24 }) s m ([.ref (h 36), .int 6, .int 2, .int x2, .int 1] : List Value).toArray below meth cd H locs 0 0 Qz (F0 m 0 ls []) by rw [hH, hlo] at hgo; exact hgo
  clear hH hlo
  have o_1 : (f 36 3).toInt = 4 := (congrArg Int32.toInt (show f 36 3 = 4 from hf_36_3)).trans (by decide)
  have hF : sgK WkX3_does_6_2_1_f4_f6 f f := sgK.rf
  have blk_53 : ∀ (fp_53 : sg_F) (H : Heap) (locs : List Loc) (ls : Array Slot), 4 ≤ (fp_53 36 3).toInt ∧ (fp_53 36 3).toInt ≤ 4 → 6 ≤ (fp_53 36 4).toInt ∧ (fp_53 36 4).toInt ≤ 6 → sgI loX hiX fp_53 → sgK WkX3_does_6_2_1_f4_f6 f fp_53 → va_P D vwCl (sgw 52 h (eX ca h) fp_53 L Q) H → va_S (sgA 52 h s.heap.size) s.heap H locs → lv_has ls 7 [(0, .ref (h 36)), (3, .int x2), (4, .int 1), (5, .int 0), (6, .int 11)] → W p l e ({ frames := 1, cells := 0, slots := 0, locals := 24 }) s m ([.ref (h 36), .int 6, .int 2, .int x2, .int 1] : List Value).toArray below meth cd H locs 0 0 Qz (F0 m 53 ls []) := by
    intro fp_53 H locs ls hy0_53 hy1_53 hI hF hP hS hl
    obtain ⟨v_2, ev_2⟩ : ∃ z : Int32, z = fp_53 36 3 := ⟨_, rfl⟩
    have q_3 : 0 ≤ v_2.toInt ∧ v_2.toInt ≤ 19 := by rw [ev_2]; exact hI 36 3
    have q_4 : (fp_53 36 3).toInt = v_2.toInt := by rw [ev_2]
    obtain ⟨v_5, ev_5⟩ : ∃ z : Int32, z = fp_53 36 4 := ⟨_, rfl⟩
    have q_6 : 0 ≤ v_5.toInt ∧ v_5.toInt ≤ 7 := by rw [ev_5]; exact hI 36 4
    have q_7 : (fp_53 36 4).toInt = v_5.toInt := by rw [ev_5]
    have m_8 : fp_53 36 4 = 6 := (hF 36 4 (by decide)).trans hf_36_4
    refine lv_aload_n hx hb dX3_does_53 rfl (lv_at hl 0 rfl) ?_
    refine lv_dup hx hb dX3_does_54 rfl ?_
    refine sg_get (ci := 3) (v := .int v_2) (C := RX3) (T := TX3) (N := 6) hx hb hts (fun w h => List.mem_cons_of_mem _ (gx_3 w h)) hown hK hP 36 (by decide) rfl rfl 3 (by decide) (hts _ (List.mem_cons_of_mem _ mw_16)) (fun _ h9 => h9) (congrArg (fun z => some (Value.int z)) (show fp_53 36 3 = v_2 from ev_2.symm)) dX3_does_55 ?_
    refine lv_iconst (v := 1) hx hb dX3_does_58 (by decide) ?_
    refine lv_iadd hx hb dX3_does_59 ?_
    refine lv_topi (fun v_9 ev_9 => ?_)
    have q_10 : v_9.toInt = v_2.toInt + 1 := by rw [ev_9]; have k1 : (1 : Int32).toInt = 1 := (by decide); exact (bn_addI (by omega) (by omega)).trans (by omega)
    refine sg_put (ci := 3) (x := v_9) (ty := .int) (C := RX3) (T := TX3) (N := 6) hx hb hts (fun w h => List.mem_cons_of_mem _ (gx_3 w h)) tyX3 tyX3_ok nmX3 hown hh hA hK hP hS 36 (by decide) rfl rfl 3 (by decide) (hts _ (List.mem_cons_of_mem _ mw_16)) (fun _ h9 => h9) rfl rfl (by decide +kernel) rfl rfl (Nat.le_of_ble_eq_true rfl) dX3_does_60 (fun f_11 H locs ef_11 hP hS => ?_)
    have hI : sgI loX hiX f_11 := by rw [ef_11]; exact sgI.put hI 36 3 (show 0 ≤ (v_9 : Int32).toInt ∧ (v_9 : Int32).toInt ≤ 19 from by omega)
    have hF : sgK WkX3_does_6_2_1_f4_f6 f f_11 := sgK.put hF ef_11 (by rfl)
    refine lv_aload_n hx hb dX3_does_63 rfl (lv_at hl 0 rfl) ?_
    refine lv_iload hx hb dX3_does_64 (lv_at hl 4 rfl) ?_
    refine sg_gets hx hb hZ 2 rfl hS hown (hts _ (List.mem_cons_of_mem _ mw_174)) (fun _ h9 => h9) dX3_does_66 ?_
    refine lv_iload hx hb dX3_does_69 (lv_at hl 3 rfl) ?_
    refine sg_sald hx hb hZ 2 rfl hS (y := 0) (N := 8) (vp_in_iff.mpr (by decide)) dX3_does_71 ?_
    refine W.eq (g2 := F0 m 72 ls [.int (-1), .int 11, .ref (h 36)]) (by rfl) ?_
    refine lv_iload_n hx hb dX3_does_72 rfl (lv_at hl 1 rfl) ?_
    refine lv_iload hx hb dX3_does_73 (lv_at hl 2 rfl) ?_
    refine lv_iconst (v := 1) hx hb dX3_does_75 (by decide) ?_
    refine lv_iadd hx hb dX3_does_76 ?_
    refine W.eq (g2 := F0 m 77 ls [.int 2, .int x2, .int (-1), .int 11, .ref (h 36)]) (by rw [show (1 + 1 : Int32) = 2 from by decide]) ?_
    have c_12 : v_9 = 5 := Int32.toInt_inj.mp (by have k9 : (5 : Int32).toInt = 5 := (by decide); omega)
    have q_13 : (f_11 36 3).toInt = 5 := (congrArg Int32.toInt (show f_11 36 3 = 5 from (Eq.trans (by rw [ef_11, sg_up_s, sgu_s]) c_12))).trans (by decide)
    have q_14 : (f_11 36 3).toInt = 5 := (congrArg Int32.toInt (show f_11 36 3 = 5 from (Eq.trans (by rw [ef_11, sg_up_s, sgu_s]) c_12))).trans (by decide)
    refine sg_calli (va_runV (As := [.int 11, .int (-1), .int x2, .int 2]) (rest := []) ⟨hx, hb, hml, hown, hts⟩ (kX3_runs_11_m1_2_f5_f6 l D ca za h hh f_11 L Q hI x2 (Eq.trans (by rw [ef_11, sg_up_s, sgu_s]) c_12) (by rw [ef_11, sg_up_s, sgu_n (by decide)]; exact m_8) (by omega) (by have k0 : (11 : Int32).toInt = 11 := (by decide); have k1 : ((-1) : Int32).toInt = (-1) := (by decide); have k3 : (2 : Int32).toInt = 2 := (by decide); omega) H.size) (cwV 4 hts (gw_V (fun _ h => List.mem_cons_of_mem _ h) mw_311 mw_312 mw_313 mw_47 mw_310) rfl rfl rfl (by decide +kernel) ⟨Nat.le_of_ble_eq_true rfl, Nat.le_of_ble_eq_true rfl⟩) (sg_preV (ci := 3) (C := RX3) (T := TX3) (N := 6) hA hK hP hS hZ 36 (by decide) rfl rfl) rfl rfl hl.1 rfl (lv_room (Nat.le_of_ble_eq_true rfl)) dX3_does_77 ⟨Nat.le_refl _, Nat.le_refl _⟩) hA hS (fun r_18 f_15 L_16 Q_17 H locs hq hP hS => ?_)
    obtain ⟨⟨ef9, eL9, eQ9⟩, hq, p_19⟩ := hq
    rw [ef9, eL9, eQ9] at hP; clear ef9 eL9 eQ9
    have q_20 : (f_11 36 3).toInt = 5 := (congrArg Int32.toInt (show f_11 36 3 = 5 from (Eq.trans (by rw [ef_11, sg_up_s, sgu_s]) c_12))).trans (by decide)
    have q_21 : (f_11 36 3).toInt = 5 := (congrArg Int32.toInt (show f_11 36 3 = 5 from (Eq.trans (by rw [ef_11, sg_up_s, sgu_s]) c_12))).trans (by decide)
    have k_22 : (11 : Int32).toInt = 11 := by decide
    have k_23 : ((-1) : Int32).toInt = (-1) := by decide
    have k_24 : (2 : Int32).toInt = 2 := by decide
    have q_25 : (f_11 36 3).toInt = 5 := (congrArg Int32.toInt (show f_11 36 3 = 5 from (Eq.trans (by rw [ef_11, sg_up_s, sgu_s]) c_12))).trans (by decide)
    have q_26 : (f_11 36 3).toInt = 5 := (congrArg Int32.toInt (show f_11 36 3 = 5 from (Eq.trans (by rw [ef_11, sg_up_s, sgu_s]) c_12))).trans (by decide)
    exact hret _ _ _ _ (r_18) f_11 L Q dX3_does_80 hP hS ⟨⟨hI, hF, rfl, rfl⟩, trivial, (by omega)⟩
  refine lv_iload_n hx hb dX3_does_0 rfl (lv_at hl 1 rfl) ?_
  refine lv_iload_n hx hb dX3_does_1 rfl (lv_at hl 2 rfl) ?_
  refine sg_calli (va_runS (As := [.int 6, .int 2]) (rest := []) ⟨hx, hb, hml, hown, hts⟩ (kX3_ownerOf_6_2 l D ca za h hh f L Q hI H.size) (va_cwS 2 hts (gw_S (fun _ h => List.mem_cons_of_mem _ h) mw_189 mw_190 mw_47 mw_188) rfl rfl rfl (by decide +kernel) ⟨Nat.le_of_ble_eq_true rfl, Nat.le_of_ble_eq_true rfl⟩) (sg_preS hA hK hP hS hZ) rfl rfl hl.1 rfl (lv_room (Nat.le_of_ble_eq_true rfl)) dX3_does_2 ⟨Nat.le_refl _, Nat.le_refl _⟩) hA hS (fun r_30 f_27 L_28 Q_29 H locs hq hP hS => ?_)
  obtain ⟨⟨ef9, eL9, eQ9⟩, hq⟩ := hq
  rw [ef9, eL9, eQ9] at hP; clear ef9 eL9 eQ9
  obtain rfl : r_30 = 0 := Int32.toInt_inj.mp (by have k9 : (0 : Int32).toInt = 0 := (by decide); omega)
  refine lv_istore (lv' := [(5, .int 0), (0, .ref (h 36)), (1, .int 6), (2, .int 2), (3, .int x2), (4, .int 1)]) hx hb dX3_does_5 hl (by decide) rfl (fun ls hl => ?_)
  refine lv_iload hx hb dX3_does_7 (lv_at hl 0 rfl) ?_
  refine lv_if_lt (tgt := 19) hx hb dX3_does_9 (by decide) (fun c => absurd c (by decide)) (fun c => ?_)
  refine lv_iload hx hb dX3_does_12 (lv_at hl 5 rfl) ?_
  refine lv_bipush (v := 40) hx hb dX3_does_14 (by decide) ?_
  refine lv_icmp_le (tgt := 21) hx hb dX3_does_16 (by decide) (fun c => ?_) (fun c => absurd c (by decide))
  refine sg_gets hx hb hZ 3 rfl hS hown (hts _ (List.mem_cons_of_mem _ mw_173)) (fun _ h9 => h9) dX3_does_21 ?_
  refine lv_iload hx hb dX3_does_24 (lv_at hl 0 rfl) ?_
  refine lv_iconst (v := 4) hx hb dX3_does_26 (by decide) ?_
  refine lv_imul hx hb dX3_does_27 ?_
  refine W.eq (g2 := F0 m 28 ls [.int 0, .ref (za 3)]) (by rw [show (0 * 4 : Int32) = 0 from by decide]) ?_
  refine lv_iload_n hx hb dX3_does_28 rfl (lv_at hl 3 rfl) ?_
  refine lv_iadd hx hb dX3_does_29 ?_
  refine W.eq (g2 := F0 m 30 ls [.int 2, .ref (za 3)]) (by rw [show (0 + 2 : Int32) = 2 from by decide]) ?_
  refine sg_sald hx hb hZ 3 rfl hS (y := 2) (N := 32) (vp_in_iff.mpr (by decide)) dX3_does_30 ?_
  refine W.eq (g2 := F0 m 31 ls [.int 11]) (by rfl) ?_
  refine lv_istore (lv' := [(6, .int 11), (5, .int 0), (0, .ref (h 36)), (1, .int 6), (2, .int 2), (3, .int x2), (4, .int 1)]) hx hb dX3_does_31 hl (by decide) rfl (fun ls hl => ?_)
  refine lv_aload_n hx hb dX3_does_33 rfl (lv_at hl 2 rfl) ?_
  refine sg_get (ci := 3) (v := .int 4) (C := RX3) (T := TX3) (N := 6) hx hb hts (fun w h => List.mem_cons_of_mem _ (gx_3 w h)) hown hK hP 36 (by decide) rfl rfl 3 (by decide) (hts _ (List.mem_cons_of_mem _ mw_16)) (fun _ h9 => h9) (congrArg (fun z => some (Value.int z)) (show f 36 3 = 4 from hf_36_3)) dX3_does_34 ?_
  refine lv_bipush (v := 24) hx hb dX3_does_37 (by decide) ?_
  refine lv_icmp_ge (tgt := 53) hx hb dX3_does_39 (by decide) (fun c => absurd c (by decide)) (fun c => ?_)
  refine lv_aload_n hx hb dX3_does_42 rfl (lv_at hl 2 rfl) ?_
  refine sg_get (ci := 3) (v := .ref (h 38)) (C := RX3) (T := TX3) (N := 6) hx hb hts (fun w h => List.mem_cons_of_mem _ (gx_3 w h)) hown hK hP 36 (by decide) rfl rfl 1 (by decide) (hts _ (List.mem_cons_of_mem _ mw_191)) (fun _ h9 => h9) rfl dX3_does_43 ?_
  refine lv_aload_n hx hb dX3_does_46 rfl (lv_at hl 2 rfl) ?_
  refine sg_get (ci := 3) (v := .int 4) (C := RX3) (T := TX3) (N := 6) hx hb hts (fun w h => List.mem_cons_of_mem _ (gx_3 w h)) hown hK hP 36 (by decide) rfl rfl 3 (by decide) (hts _ (List.mem_cons_of_mem _ mw_16)) (fun _ h9 => h9) (congrArg (fun z => some (Value.int z)) (show f 36 3 = 4 from hf_36_3)) dX3_does_47 ?_
  refine lv_iload hx hb dX3_does_50 (lv_at hl 0 rfl) ?_
  refine sg_iast hx hb hh hA hK hP hS 38 (by decide) 0 (fun _ => rfl) rfl (i := 4) (x := 11) (vp_in_iff.mpr (by decide)) dX3_does_52 (fun f_31 H locs ef_31 hP hS => ?_)
  have hI : sgI loX hiX f_31 := by rw [ef_31]; exact sgI.put hI 38 (Int32.toNatClampNeg 4) (show 0 ≤ (11 : Int32).toInt ∧ (11 : Int32).toInt ≤ 81 from by decide)
  have hF : sgK WkX3_does_6_2_1_f4_f6 f f_31 := sgK.put hF ef_31 (by rfl)
  exact blk_53 f_31 _ _ _ (by have zz36_3 : (f_31 36 3).toInt = 4 := (congrArg Int32.toInt (show f_31 36 3 = 4 from (by rw [ef_31, sg_up_n (by decide)]; exact hf_36_3))).trans (by decide); omega) (by have zz36_4 : (f_31 36 4).toInt = 6 := (congrArg Int32.toInt (show f_31 36 4 = 6 from (by rw [ef_31, sg_up_n (by decide)]; exact hf_36_4))).trans (by decide); omega) hI hF hP hS (lv_sub hl [2, 5, 6, 1, 0] rfl)

abbrev WkX3_runs_2_m1_1_f1_f6 : List (Nat × Nat × Option Nat) := [(36, 36, some 3), (38, 38, none)]
set_option maxHeartbeats 4000000 in
set_option maxRecDepth 100000 in
theorem kX3_runs_2_m1_1_f1_f6 (l : Launch) (D : va_G) (ca : Nat → ClassId) (za h : Nat → Nat) (hh : sgH 52 h) (f : sg_F) (L : sg_L) (Q : sg_Q) (hI : sgI loX hiX f) (x2 : Int32) (hf_36_3 : f 36 3 = 1) (hf_36_4 : f 36 4 = 6) (p0 : 1 ≤ (f 36 3).toInt ∧ (f 36 3).toInt ≤ 1) (sz : Nat) : Met l yX3_runs gwX3_runs { frames := 6, cells := 0, slots := 0, locals := 150 } (sgP D vwCl (tyX ca) 52 h (eX ca h) zcX za f L Q sz [.ref (h 36), .int 2, .int (-1), .int x2, .int 1]) (sgQi D vwCl 52 h (eX ca h) sz (fun r f1 L1 Q1 => ((sgI loX hiX f1 ∧ sgK WkX3_runs_2_m1_1_f1_f6 f f1 ∧ L1 = L ∧ Q1 = Q) ∧ True ∧ (5 ≤ (f1 36 3).toInt ∧ (f1 36 3).toInt ≤ 5)))) 0 0 (sgA 52 h sz) := by
  refine sg_ofWi (cc := cX3_runs) (maxL := 5) RX3 (by decide) rfl rfl (Nat.le_of_ble_eq_true rfl) ?_
  intro p e s m below meth cd Qz ls hx hb hml hown hts hK hZ hP hS hl hret
  have hA := sgY.self (n := 52) (h := h) (sz := s.heap.size)
  have hl : lv_has ls 5 [(0, .ref (h 36)), (1, .int 2), (2, .int (-1)), (3, .int x2), (4, .int 1)] := hl
  obtain ⟨H, hH⟩ : ∃ z : Heap, z = s.heap := ⟨_, rfl⟩
  obtain ⟨locs, hlo⟩ : ∃ z : List Loc, z = [] := ⟨_, rfl⟩
  have hP : va_P D vwCl (sgw 52 h (eX ca h) f L Q) H := by rw [hH]; exact hP
  have hS : va_S (sgA 52 h s.heap.size) s.heap H locs := by rw [hH, hlo]; exact hS
  suffices hgo : W p l e ({ frames := 6, cells := 0, slots := 0, locals := 150 }) s m ([.ref (h 36), .int 2, .int (-1), .int x2, .int 1] : List Value).toArray below meth cd H locs 0 0 Qz (F0 m 0 ls []) by rw [hH, hlo] at hgo; exact hgo
  clear hH hlo
  have o_1 : (f 36 3).toInt = 1 := (congrArg Int32.toInt (show f 36 3 = 1 from hf_36_3)).trans (by decide)
  have hF : sgK WkX3_runs_2_m1_1_f1_f6 f f := sgK.rf
  refine lv_iload_n hx hb dX3_runs_0 rfl (lv_at hl 1 rfl) ?_
  refine lv_lookup (x := 2) (off := 122) (tgt := 123) hx hb dX3_runs_1 (by decide) (by decide) (by decide) ?_
  refine lv_aload_n hx hb dX3_runs_123 rfl (lv_at hl 0 rfl) ?_
  refine lv_aload_n hx hb dX3_runs_124 rfl (lv_at hl 0 rfl) ?_
  refine sg_get (ci := 3) (v := .int 6) (C := RX3) (T := TX3) (N := 6) hx hb hts (fun w h => List.mem_cons_of_mem _ (gx_3 w h)) hown hK hP 36 (by decide) rfl rfl 4 (by decide) (hts _ (List.mem_cons_of_mem _ mw_105)) (fun _ h9 => h9) (congrArg (fun z => some (Value.int z)) (show f 36 4 = 6 from hf_36_4)) dX3_runs_125 ?_
  refine lv_iconst (v := 1) hx hb dX3_runs_128 (by decide) ?_
  refine lv_iload_n hx hb dX3_runs_129 rfl (lv_at hl 3 rfl) ?_
  refine lv_iload hx hb dX3_runs_130 (lv_at hl 4 rfl) ?_
  have q_2 : (f 36 3).toInt = 1 := (congrArg Int32.toInt (show f 36 3 = 1 from hf_36_3)).trans (by decide)
  have q_3 : (f 36 3).toInt = 1 := (congrArg Int32.toInt (show f 36 3 = 1 from hf_36_3)).trans (by decide)
  refine sg_calli (va_runV (As := [.int 6, .int 1, .int x2, .int 1]) (rest := []) ⟨hx, hb, hml, hown, hts⟩ (kX3_does_6_1_1_f1_f6 l D ca za h hh f L Q hI x2 hf_36_3 hf_36_4 (by have k0 : (6 : Int32).toInt = 6 := (by decide); have k1 : (1 : Int32).toInt = 1 := (by decide); have k3 : (1 : Int32).toInt = 1 := (by decide); omega) H.size) (cwV 4 hts (gw_V (fun _ h => List.mem_cons_of_mem _ h) mw_318 mw_319 mw_320 mw_47 mw_317) rfl rfl rfl (by decide +kernel) ⟨Nat.le_of_ble_eq_true rfl, Nat.le_of_ble_eq_true rfl⟩) (sg_preV (ci := 3) (C := RX3) (T := TX3) (N := 6) hA hK hP hS hZ 36 (by decide) rfl rfl) rfl rfl hl.1 rfl (lv_room (Nat.le_of_ble_eq_true rfl)) dX3_runs_132 ⟨Nat.le_refl _, Nat.le_refl _⟩) hA hS (fun r_7 f_4 L_5 Q_6 H locs hq hP hS => ?_)
  obtain ⟨⟨hI, hk_f_4, eL9, eQ9⟩, hq, p_8⟩ := hq
  rw [eL9, eQ9] at hP; clear eL9 eQ9
  have hF : sgK WkX3_runs_2_m1_1_f1_f6 f f_4 := sgK.tr hF hk_f_4 (by decide)
  obtain ⟨v_9, ev_9⟩ : ∃ z : Int32, z = f_4 36 3 := ⟨_, rfl⟩
  have q_10 : 0 ≤ v_9.toInt ∧ v_9.toInt ≤ 19 := by rw [ev_9]; exact hI 36 3
  have q_11 : (f_4 36 3).toInt = v_9.toInt := (congrArg Int32.toInt (show f_4 36 3 = v_9 from ev_9.symm))
  have q_12 : (f_4 36 3).toInt = v_9.toInt := (congrArg Int32.toInt (show f_4 36 3 = v_9 from ev_9.symm))
  have k_13 : (6 : Int32).toInt = 6 := by decide
  have k_14 : (1 : Int32).toInt = 1 := by decide
  have k_15 : (1 : Int32).toInt = 1 := by decide
  refine lv_aload_n hx hb dX3_runs_135 rfl (lv_at hl 0 rfl) ?_
  refine lv_aload_n hx hb dX3_runs_136 rfl (lv_at hl 0 rfl) ?_
  refine sg_get (ci := 3) (v := .int 6) (C := RX3) (T := TX3) (N := 6) hx hb hts (fun w h => List.mem_cons_of_mem _ (gx_3 w h)) hown hK hP 36 (by decide) rfl rfl 4 (by decide) (hts _ (List.mem_cons_of_mem _ mw_105)) (fun _ h9 => h9) (congrArg (fun z => some (Value.int z)) (show f_4 36 4 = 6 from ((hk_f_4 36 4 (by decide)).trans hf_36_4))) dX3_runs_137 ?_
  refine lv_iconst (v := 2) hx hb dX3_runs_140 (by decide) ?_
  refine lv_iconst (v := 1) hx hb dX3_runs_141 (by decide) ?_
  refine lv_iload hx hb dX3_runs_142 (lv_at hl 4 rfl) ?_
  have c_16 : v_9 = 4 := Int32.toInt_inj.mp (by have k9 : (4 : Int32).toInt = 4 := (by decide); omega)
  have q_17 : (f_4 36 3).toInt = 4 := (congrArg Int32.toInt (show f_4 36 3 = 4 from (Eq.trans ev_9.symm c_16))).trans (by decide)
  have q_18 : (f_4 36 3).toInt = 4 := (congrArg Int32.toInt (show f_4 36 3 = 4 from (Eq.trans ev_9.symm c_16))).trans (by decide)
  refine sg_calli (va_runV (As := [.int 6, .int 2, .int 1, .int 1]) (rest := [.int r_7]) ⟨hx, hb, hml, hown, hts⟩ (kX3_does_6_2_1_f4_f6 l D ca za h hh f_4 L Q hI 1 (Eq.trans ev_9.symm c_16) ((hk_f_4 36 4 (by decide)).trans hf_36_4) (by decide) (by have k0 : (6 : Int32).toInt = 6 := (by decide); have k1 : (2 : Int32).toInt = 2 := (by decide); have k2 : (1 : Int32).toInt = 1 := (by decide); have k3 : (1 : Int32).toInt = 1 := (by decide); omega) H.size) (cwV 4 hts (gw_V (fun _ h => List.mem_cons_of_mem _ h) mw_318 mw_319 mw_320 mw_47 mw_317) rfl rfl rfl (by decide +kernel) ⟨Nat.le_of_ble_eq_true rfl, Nat.le_of_ble_eq_true rfl⟩) (sg_preV (ci := 3) (C := RX3) (T := TX3) (N := 6) hA hK hP hS hZ 36 (by decide) rfl rfl) rfl rfl hl.1 rfl (lv_room (Nat.le_of_ble_eq_true rfl)) dX3_runs_144 ⟨Nat.le_refl _, Nat.le_refl _⟩) hA hS (fun r_22 f_19 L_20 Q_21 H locs hq hP hS => ?_)
  obtain ⟨⟨hI, hk_f_19, eL9, eQ9⟩, hq, p_23⟩ := hq
  rw [eL9, eQ9] at hP; clear eL9 eQ9
  have hF : sgK WkX3_runs_2_m1_1_f1_f6 f f_19 := sgK.tr hF hk_f_19 (by decide)
  obtain ⟨v_24, ev_24⟩ : ∃ z : Int32, z = f_19 36 3 := ⟨_, rfl⟩
  have q_25 : 0 ≤ v_24.toInt ∧ v_24.toInt ≤ 19 := by rw [ev_24]; exact hI 36 3
  have q_26 : (f_19 36 3).toInt = v_24.toInt := (congrArg Int32.toInt (show f_19 36 3 = v_24 from ev_24.symm))
  have q_27 : (f_19 36 3).toInt = v_24.toInt := (congrArg Int32.toInt (show f_19 36 3 = v_24 from ev_24.symm))
  have k_28 : (6 : Int32).toInt = 6 := by decide
  have k_29 : (2 : Int32).toInt = 2 := by decide
  have k_30 : (1 : Int32).toInt = 1 := by decide
  have k_31 : (1 : Int32).toInt = 1 := by decide
  refine lv_isub hx hb dX3_runs_147 ?_
  refine lv_topi (fun v_32 ev_32 => ?_)
  have q_33 : (f_19 36 3).toInt = v_24.toInt := (congrArg Int32.toInt (show f_19 36 3 = v_24 from ev_24.symm))
  have q_34 : (f_19 36 3).toInt = v_24.toInt := (congrArg Int32.toInt (show f_19 36 3 = v_24 from ev_24.symm))
  exact hret _ _ _ _ (v_32) f_19 L Q dX3_runs_148 hP hS ⟨⟨hI, hF, rfl, rfl⟩, trivial, (by omega)⟩

abbrev WkX3_does_6_3_0_f0_f6 : List (Nat × Nat × Option Nat) := [(36, 36, some 3), (38, 38, none)]
set_option maxHeartbeats 4000000 in
set_option maxRecDepth 100000 in
theorem kX3_does_6_3_0_f0_f6 (l : Launch) (D : va_G) (ca : Nat → ClassId) (za h : Nat → Nat) (hh : sgH 52 h) (f : sg_F) (L : sg_L) (Q : sg_Q) (hI : sgI loX hiX f) (x2 : Int32) (hf_36_3 : f 36 3 = 0) (hf_36_4 : f 36 4 = 6) (p0 : 0 ≤ (f 36 3).toInt ∧ (f 36 3).toInt ≤ 0) (sz : Nat) : Met l yX3_does gwX3_does { frames := 7, cells := 0, slots := 0, locals := 174 } (sgP D vwCl (tyX ca) 52 h (eX ca h) zcX za f L Q sz [.ref (h 36), .int 6, .int 3, .int x2, .int 0]) (sgQi D vwCl 52 h (eX ca h) sz (fun r f1 L1 Q1 => ((sgI loX hiX f1 ∧ sgK WkX3_does_6_3_0_f0_f6 f f1 ∧ L1 = L ∧ Q1 = Q) ∧ True ∧ (5 ≤ (f1 36 3).toInt ∧ (f1 36 3).toInt ≤ 5)))) 0 0 (sgA 52 h sz) := by
  refine sg_ofWi (cc := cX3_does) (maxL := 7) RX3 (by decide) rfl rfl (Nat.le_of_ble_eq_true rfl) ?_
  intro p e s m below meth cd Qz ls hx hb hml hown hts hK hZ hP hS hl hret
  have hA := sgY.self (n := 52) (h := h) (sz := s.heap.size)
  have hl : lv_has ls 7 [(0, .ref (h 36)), (1, .int 6), (2, .int 3), (3, .int x2), (4, .int 0)] := hl
  obtain ⟨H, hH⟩ : ∃ z : Heap, z = s.heap := ⟨_, rfl⟩
  obtain ⟨locs, hlo⟩ : ∃ z : List Loc, z = [] := ⟨_, rfl⟩
  have hP : va_P D vwCl (sgw 52 h (eX ca h) f L Q) H := by rw [hH]; exact hP
  have hS : va_S (sgA 52 h s.heap.size) s.heap H locs := by rw [hH, hlo]; exact hS
  suffices hgo : W p l e ({ frames := 7, cells := 0, slots := 0, locals := 174 }) s m ([.ref (h 36), .int 6, .int 3, .int x2, .int 0] : List Value).toArray below meth cd H locs 0 0 Qz (F0 m 0 ls []) by rw [hH, hlo] at hgo; exact hgo
  clear hH hlo
  have o_1 : (f 36 3).toInt = 0 := (congrArg Int32.toInt (show f 36 3 = 0 from hf_36_3)).trans (by decide)
  have hF : sgK WkX3_does_6_3_0_f0_f6 f f := sgK.rf
  have blk_53 : ∀ (fp_53 : sg_F) (H : Heap) (locs : List Loc) (ls : Array Slot), 0 ≤ (fp_53 36 3).toInt ∧ (fp_53 36 3).toInt ≤ 0 → 6 ≤ (fp_53 36 4).toInt ∧ (fp_53 36 4).toInt ≤ 6 → sgI loX hiX fp_53 → sgK WkX3_does_6_3_0_f0_f6 f fp_53 → va_P D vwCl (sgw 52 h (eX ca h) fp_53 L Q) H → va_S (sgA 52 h s.heap.size) s.heap H locs → lv_has ls 7 [(0, .ref (h 36)), (3, .int x2), (4, .int 0), (5, .int 0), (6, .int 2)] → W p l e ({ frames := 7, cells := 0, slots := 0, locals := 174 }) s m ([.ref (h 36), .int 6, .int 3, .int x2, .int 0] : List Value).toArray below meth cd H locs 0 0 Qz (F0 m 53 ls []) := by
    intro fp_53 H locs ls hy0_53 hy1_53 hI hF hP hS hl
    obtain ⟨v_2, ev_2⟩ : ∃ z : Int32, z = fp_53 36 3 := ⟨_, rfl⟩
    have q_3 : 0 ≤ v_2.toInt ∧ v_2.toInt ≤ 19 := by rw [ev_2]; exact hI 36 3
    have q_4 : (fp_53 36 3).toInt = v_2.toInt := by rw [ev_2]
    obtain ⟨v_5, ev_5⟩ : ∃ z : Int32, z = fp_53 36 4 := ⟨_, rfl⟩
    have q_6 : 0 ≤ v_5.toInt ∧ v_5.toInt ≤ 7 := by rw [ev_5]; exact hI 36 4
    have q_7 : (fp_53 36 4).toInt = v_5.toInt := by rw [ev_5]
    have m_8 : fp_53 36 4 = 6 := (hF 36 4 (by decide)).trans hf_36_4
    refine lv_aload_n hx hb dX3_does_53 rfl (lv_at hl 0 rfl) ?_
    refine lv_dup hx hb dX3_does_54 rfl ?_
    refine sg_get (ci := 3) (v := .int v_2) (C := RX3) (T := TX3) (N := 6) hx hb hts (fun w h => List.mem_cons_of_mem _ (gx_3 w h)) hown hK hP 36 (by decide) rfl rfl 3 (by decide) (hts _ (List.mem_cons_of_mem _ mw_16)) (fun _ h9 => h9) (congrArg (fun z => some (Value.int z)) (show fp_53 36 3 = v_2 from ev_2.symm)) dX3_does_55 ?_
    refine lv_iconst (v := 1) hx hb dX3_does_58 (by decide) ?_
    refine lv_iadd hx hb dX3_does_59 ?_
    refine lv_topi (fun v_9 ev_9 => ?_)
    have q_10 : v_9.toInt = v_2.toInt + 1 := by rw [ev_9]; have k1 : (1 : Int32).toInt = 1 := (by decide); exact (bn_addI (by omega) (by omega)).trans (by omega)
    refine sg_put (ci := 3) (x := v_9) (ty := .int) (C := RX3) (T := TX3) (N := 6) hx hb hts (fun w h => List.mem_cons_of_mem _ (gx_3 w h)) tyX3 tyX3_ok nmX3 hown hh hA hK hP hS 36 (by decide) rfl rfl 3 (by decide) (hts _ (List.mem_cons_of_mem _ mw_16)) (fun _ h9 => h9) rfl rfl (by decide +kernel) rfl rfl (Nat.le_of_ble_eq_true rfl) dX3_does_60 (fun f_11 H locs ef_11 hP hS => ?_)
    have hI : sgI loX hiX f_11 := by rw [ef_11]; exact sgI.put hI 36 3 (show 0 ≤ (v_9 : Int32).toInt ∧ (v_9 : Int32).toInt ≤ 19 from by omega)
    have hF : sgK WkX3_does_6_3_0_f0_f6 f f_11 := sgK.put hF ef_11 (by rfl)
    refine lv_aload_n hx hb dX3_does_63 rfl (lv_at hl 0 rfl) ?_
    refine lv_iload hx hb dX3_does_64 (lv_at hl 4 rfl) ?_
    refine sg_gets hx hb hZ 2 rfl hS hown (hts _ (List.mem_cons_of_mem _ mw_174)) (fun _ h9 => h9) dX3_does_66 ?_
    refine lv_iload hx hb dX3_does_69 (lv_at hl 3 rfl) ?_
    refine sg_sald hx hb hZ 2 rfl hS (y := 0) (N := 8) (vp_in_iff.mpr (by decide)) dX3_does_71 ?_
    refine W.eq (g2 := F0 m 72 ls [.int (-1), .int 2, .ref (h 36)]) (by rfl) ?_
    refine lv_iload_n hx hb dX3_does_72 rfl (lv_at hl 1 rfl) ?_
    refine lv_iload hx hb dX3_does_73 (lv_at hl 2 rfl) ?_
    refine lv_iconst (v := 1) hx hb dX3_does_75 (by decide) ?_
    refine lv_iadd hx hb dX3_does_76 ?_
    refine W.eq (g2 := F0 m 77 ls [.int 1, .int x2, .int (-1), .int 2, .ref (h 36)]) (by rw [show (0 + 1 : Int32) = 1 from by decide]) ?_
    have c_12 : v_9 = 1 := Int32.toInt_inj.mp (by have k9 : (1 : Int32).toInt = 1 := (by decide); omega)
    have q_13 : (f_11 36 3).toInt = 1 := (congrArg Int32.toInt (show f_11 36 3 = 1 from (Eq.trans (by rw [ef_11, sg_up_s, sgu_s]) c_12))).trans (by decide)
    have q_14 : (f_11 36 3).toInt = 1 := (congrArg Int32.toInt (show f_11 36 3 = 1 from (Eq.trans (by rw [ef_11, sg_up_s, sgu_s]) c_12))).trans (by decide)
    refine sg_calli (va_runV (As := [.int 2, .int (-1), .int x2, .int 1]) (rest := []) ⟨hx, hb, hml, hown, hts⟩ (kX3_runs_2_m1_1_f1_f6 l D ca za h hh f_11 L Q hI x2 (Eq.trans (by rw [ef_11, sg_up_s, sgu_s]) c_12) (by rw [ef_11, sg_up_s, sgu_n (by decide)]; exact m_8) (by have k0 : (2 : Int32).toInt = 2 := (by decide); have k1 : ((-1) : Int32).toInt = (-1) := (by decide); have k3 : (1 : Int32).toInt = 1 := (by decide); omega) H.size) (cwV 4 hts (gw_V (fun _ h => List.mem_cons_of_mem _ h) mw_311 mw_312 mw_313 mw_47 mw_310) rfl rfl rfl (by decide +kernel) ⟨Nat.le_of_ble_eq_true rfl, Nat.le_of_ble_eq_true rfl⟩) (sg_preV (ci := 3) (C := RX3) (T := TX3) (N := 6) hA hK hP hS hZ 36 (by decide) rfl rfl) rfl rfl hl.1 rfl (lv_room (Nat.le_of_ble_eq_true rfl)) dX3_does_77 ⟨Nat.le_refl _, Nat.le_refl _⟩) hA hS (fun r_18 f_15 L_16 Q_17 H locs hq hP hS => ?_)
    obtain ⟨⟨hI, hk_f_15, eL9, eQ9⟩, hq, p_19⟩ := hq
    rw [eL9, eQ9] at hP; clear eL9 eQ9
    have hF : sgK WkX3_does_6_3_0_f0_f6 f f_15 := sgK.tr hF hk_f_15 (by decide)
    obtain ⟨v_20, ev_20⟩ : ∃ z : Int32, z = f_15 36 3 := ⟨_, rfl⟩
    have q_21 : 0 ≤ v_20.toInt ∧ v_20.toInt ≤ 19 := by rw [ev_20]; exact hI 36 3
    have q_22 : (f_15 36 3).toInt = v_20.toInt := (congrArg Int32.toInt (show f_15 36 3 = v_20 from ev_20.symm))
    have q_23 : (f_15 36 3).toInt = v_20.toInt := (congrArg Int32.toInt (show f_15 36 3 = v_20 from ev_20.symm))
    have k_24 : (2 : Int32).toInt = 2 := by decide
    have k_25 : ((-1) : Int32).toInt = (-1) := by decide
    have k_26 : (1 : Int32).toInt = 1 := by decide
    have q_27 : (f_15 36 3).toInt = v_20.toInt := (congrArg Int32.toInt (show f_15 36 3 = v_20 from ev_20.symm))
    have q_28 : (f_15 36 3).toInt = v_20.toInt := (congrArg Int32.toInt (show f_15 36 3 = v_20 from ev_20.symm))
    exact hret _ _ _ _ (r_18) f_15 L Q dX3_does_80 hP hS ⟨⟨hI, hF, rfl, rfl⟩, trivial, (by omega)⟩
  refine lv_iload_n hx hb dX3_does_0 rfl (lv_at hl 1 rfl) ?_
  refine lv_iload_n hx hb dX3_does_1 rfl (lv_at hl 2 rfl) ?_
  refine sg_calli (va_runS (As := [.int 6, .int 3]) (rest := []) ⟨hx, hb, hml, hown, hts⟩ (kX3_ownerOf_6_3 l D ca za h hh f L Q hI H.size) (va_cwS 2 hts (gw_S (fun _ h => List.mem_cons_of_mem _ h) mw_189 mw_190 mw_47 mw_188) rfl rfl rfl (by decide +kernel) ⟨Nat.le_of_ble_eq_true rfl, Nat.le_of_ble_eq_true rfl⟩) (sg_preS hA hK hP hS hZ) rfl rfl hl.1 rfl (lv_room (Nat.le_of_ble_eq_true rfl)) dX3_does_2 ⟨Nat.le_refl _, Nat.le_refl _⟩) hA hS (fun r_32 f_29 L_30 Q_31 H locs hq hP hS => ?_)
  obtain ⟨⟨ef9, eL9, eQ9⟩, hq⟩ := hq
  rw [ef9, eL9, eQ9] at hP; clear ef9 eL9 eQ9
  obtain rfl : r_32 = 0 := Int32.toInt_inj.mp (by have k9 : (0 : Int32).toInt = 0 := (by decide); omega)
  refine lv_istore (lv' := [(5, .int 0), (0, .ref (h 36)), (1, .int 6), (2, .int 3), (3, .int x2), (4, .int 0)]) hx hb dX3_does_5 hl (by decide) rfl (fun ls hl => ?_)
  refine lv_iload hx hb dX3_does_7 (lv_at hl 0 rfl) ?_
  refine lv_if_lt (tgt := 19) hx hb dX3_does_9 (by decide) (fun c => absurd c (by decide)) (fun c => ?_)
  refine lv_iload hx hb dX3_does_12 (lv_at hl 5 rfl) ?_
  refine lv_bipush (v := 40) hx hb dX3_does_14 (by decide) ?_
  refine lv_icmp_le (tgt := 21) hx hb dX3_does_16 (by decide) (fun c => ?_) (fun c => absurd c (by decide))
  refine sg_gets hx hb hZ 3 rfl hS hown (hts _ (List.mem_cons_of_mem _ mw_173)) (fun _ h9 => h9) dX3_does_21 ?_
  refine lv_iload hx hb dX3_does_24 (lv_at hl 0 rfl) ?_
  refine lv_iconst (v := 4) hx hb dX3_does_26 (by decide) ?_
  refine lv_imul hx hb dX3_does_27 ?_
  refine W.eq (g2 := F0 m 28 ls [.int 0, .ref (za 3)]) (by rw [show (0 * 4 : Int32) = 0 from by decide]) ?_
  refine lv_iload_n hx hb dX3_does_28 rfl (lv_at hl 3 rfl) ?_
  refine lv_iadd hx hb dX3_does_29 ?_
  refine W.eq (g2 := F0 m 30 ls [.int 3, .ref (za 3)]) (by rw [show (0 + 3 : Int32) = 3 from by decide]) ?_
  refine sg_sald hx hb hZ 3 rfl hS (y := 3) (N := 32) (vp_in_iff.mpr (by decide)) dX3_does_30 ?_
  refine W.eq (g2 := F0 m 31 ls [.int 2]) (by rfl) ?_
  refine lv_istore (lv' := [(6, .int 2), (5, .int 0), (0, .ref (h 36)), (1, .int 6), (2, .int 3), (3, .int x2), (4, .int 0)]) hx hb dX3_does_31 hl (by decide) rfl (fun ls hl => ?_)
  refine lv_aload_n hx hb dX3_does_33 rfl (lv_at hl 2 rfl) ?_
  refine sg_get (ci := 3) (v := .int 0) (C := RX3) (T := TX3) (N := 6) hx hb hts (fun w h => List.mem_cons_of_mem _ (gx_3 w h)) hown hK hP 36 (by decide) rfl rfl 3 (by decide) (hts _ (List.mem_cons_of_mem _ mw_16)) (fun _ h9 => h9) (congrArg (fun z => some (Value.int z)) (show f 36 3 = 0 from hf_36_3)) dX3_does_34 ?_
  refine lv_bipush (v := 24) hx hb dX3_does_37 (by decide) ?_
  refine lv_icmp_ge (tgt := 53) hx hb dX3_does_39 (by decide) (fun c => absurd c (by decide)) (fun c => ?_)
  refine lv_aload_n hx hb dX3_does_42 rfl (lv_at hl 2 rfl) ?_
  refine sg_get (ci := 3) (v := .ref (h 38)) (C := RX3) (T := TX3) (N := 6) hx hb hts (fun w h => List.mem_cons_of_mem _ (gx_3 w h)) hown hK hP 36 (by decide) rfl rfl 1 (by decide) (hts _ (List.mem_cons_of_mem _ mw_191)) (fun _ h9 => h9) rfl dX3_does_43 ?_
  refine lv_aload_n hx hb dX3_does_46 rfl (lv_at hl 2 rfl) ?_
  refine sg_get (ci := 3) (v := .int 0) (C := RX3) (T := TX3) (N := 6) hx hb hts (fun w h => List.mem_cons_of_mem _ (gx_3 w h)) hown hK hP 36 (by decide) rfl rfl 3 (by decide) (hts _ (List.mem_cons_of_mem _ mw_16)) (fun _ h9 => h9) (congrArg (fun z => some (Value.int z)) (show f 36 3 = 0 from hf_36_3)) dX3_does_47 ?_
  refine lv_iload hx hb dX3_does_50 (lv_at hl 0 rfl) ?_
  refine sg_iast hx hb hh hA hK hP hS 38 (by decide) 0 (fun _ => rfl) rfl (i := 0) (x := 2) (vp_in_iff.mpr (by decide)) dX3_does_52 (fun f_33 H locs ef_33 hP hS => ?_)
  have hI : sgI loX hiX f_33 := by rw [ef_33]; exact sgI.put hI 38 (Int32.toNatClampNeg 0) (show 0 ≤ (2 : Int32).toInt ∧ (2 : Int32).toInt ≤ 81 from by decide)
  have hF : sgK WkX3_does_6_3_0_f0_f6 f f_33 := sgK.put hF ef_33 (by rfl)
  exact blk_53 f_33 _ _ _ (by have zz36_3 : (f_33 36 3).toInt = 0 := (congrArg Int32.toInt (show f_33 36 3 = 0 from (by rw [ef_33, sg_up_n (by decide)]; exact hf_36_3))).trans (by decide); omega) (by have zz36_4 : (f_33 36 4).toInt = 6 := (congrArg Int32.toInt (show f_33 36 4 = 6 from (by rw [ef_33, sg_up_n (by decide)]; exact hf_36_4))).trans (by decide); omega) hI hF hP hS (lv_sub hl [2, 5, 6, 1, 0] rfl)

set_option maxHeartbeats 4000000 in
set_option maxRecDepth 100000 in
theorem kX3_ownerOf_7_3 (l : Launch) (D : va_G) (ca : Nat → ClassId) (za h : Nat → Nat) (hh : sgH 52 h) (f : sg_F) (L : sg_L) (Q : sg_Q) (hI : sgI loX hiX f) (sz : Nat) : Met l yX3_ownerOf gwX3_ownerOf { frames := 0, cells := 0, slots := 0, locals := 0 } (sgP D vwCl (tyX ca) 52 h (eX ca h) zcX za f L Q sz [.int 7, .int 3]) (sgQi D vwCl 52 h (eX ca h) sz (fun r f1 L1 Q1 => ((f1 = f ∧ L1 = L ∧ Q1 = Q) ∧ (7 ≤ r.toInt ∧ r.toInt ≤ 7)))) 0 0 (sgA 52 h sz) := by
  refine sg_ofWi (cc := cX3_ownerOf) (maxL := 4) RX3 (by decide) rfl rfl (Nat.le_of_ble_eq_true rfl) ?_
  intro p e s m below meth cd Qz ls hx hb hml hown hts hK hZ hP hS hl hret
  have hA := sgY.self (n := 52) (h := h) (sz := s.heap.size)
  have hl : lv_has ls 4 [(0, .int 7), (1, .int 3)] := hl
  obtain ⟨H, hH⟩ : ∃ z : Heap, z = s.heap := ⟨_, rfl⟩
  obtain ⟨locs, hlo⟩ : ∃ z : List Loc, z = [] := ⟨_, rfl⟩
  have hP : va_P D vwCl (sgw 52 h (eX ca h) f L Q) H := by rw [hH]; exact hP
  have hS : va_S (sgA 52 h s.heap.size) s.heap H locs := by rw [hH, hlo]; exact hS
  suffices hgo : W p l e ({ frames := 0, cells := 0, slots := 0, locals := 0 }) s m ([.int 7, .int 3] : List Value).toArray below meth cd H locs 0 0 Qz (F0 m 0 ls []) by rw [hH, hlo] at hgo; exact hgo
  clear hH hlo
  refine lv_iload_n hx hb dX3_ownerOf_0 rfl (lv_at hl 0 rfl) ?_
  refine lv_istore_n (lv' := [(2, .int 7), (0, .int 7), (1, .int 3)]) hx hb dX3_ownerOf_1 rfl hl (by decide) rfl (fun ls hl => ?_)
  refine lv_iconst (v := 0) hx hb dX3_ownerOf_2 (by decide) ?_
  refine lv_istore_n (lv' := [(3, .int 0), (2, .int 7), (0, .int 7), (1, .int 3)]) hx hb dX3_ownerOf_3 rfl hl (by decide) rfl (fun ls hl => ?_)
  refine lv_iload_n hx hb dX3_ownerOf_4 rfl (lv_at hl 0 rfl) ?_
  refine lv_bipush (v := 8) hx hb dX3_ownerOf_5 (by decide) ?_
  refine lv_icmp_ge (tgt := 40) hx hb dX3_ownerOf_7 (by decide) (fun c => absurd c (by decide)) (fun c => ?_)
  refine lv_iload_n hx hb dX3_ownerOf_10 rfl (lv_at hl 1 rfl) ?_
  refine lv_if_lt (tgt := 40) hx hb dX3_ownerOf_11 (by decide) (fun c => absurd c (by decide)) (fun c => ?_)
  refine sg_gets hx hb hZ 3 rfl hS hown (hts _ (List.mem_cons_of_mem _ mw_173)) (fun _ h9 => h9) dX3_ownerOf_14 ?_
  refine lv_iload_n hx hb dX3_ownerOf_17 rfl (lv_at hl 1 rfl) ?_
  refine lv_iconst (v := 4) hx hb dX3_ownerOf_18 (by decide) ?_
  refine lv_imul hx hb dX3_ownerOf_19 ?_
  refine W.eq (g2 := F0 m 20 ls [.int 28, .ref (za 3)]) (by rw [show (7 * 4 : Int32) = 28 from by decide]) ?_
  refine lv_iload_n hx hb dX3_ownerOf_20 rfl (lv_at hl 3 rfl) ?_
  refine lv_iadd hx hb dX3_ownerOf_21 ?_
  refine W.eq (g2 := F0 m 22 ls [.int 31, .ref (za 3)]) (by rw [show (28 + 3 : Int32) = 31 from by decide]) ?_
  refine sg_sald hx hb hZ 3 rfl hS (y := 31) (N := 32) (vp_in_iff.mpr (by decide)) dX3_ownerOf_22 ?_
  refine W.eq (g2 := F0 m 23 ls [.int 81]) (by rfl) ?_
  refine lv_if_eq (tgt := 28) hx hb dX3_ownerOf_23 (by decide) (fun c => absurd c (by decide)) (fun c => ?_)
  refine lv_iload_n hx hb dX3_ownerOf_26 rfl (lv_at hl 1 rfl) ?_
  have k99 : (7 : Int32).toInt = 7 := (by decide)
  exact hret _ _ _ _ (7) f L Q dX3_ownerOf_27 hP hS ⟨⟨rfl, rfl, rfl⟩, (by decide)⟩

set_option maxHeartbeats 4000000 in
set_option maxRecDepth 100000 in
theorem kX3_runs_1_m1_6_f6_f7 (l : Launch) (D : va_G) (ca : Nat → ClassId) (za h : Nat → Nat) (hh : sgH 52 h) (f : sg_F) (L : sg_L) (Q : sg_Q) (hI : sgI loX hiX f) (x2 : Int32) (hf_36_3 : f 36 3 = 6) (hf_36_4 : f 36 4 = 7) (p0 : 6 ≤ (f 36 3).toInt ∧ (f 36 3).toInt ≤ 6) (sz : Nat) : Met l yX3_runs gwX3_runs { frames := 0, cells := 0, slots := 0, locals := 0 } (sgP D vwCl (tyX ca) 52 h (eX ca h) zcX za f L Q sz [.ref (h 36), .int 1, .int (-1), .int x2, .int 6]) (sgQi D vwCl 52 h (eX ca h) sz (fun r f1 L1 Q1 => ((f1 = f ∧ L1 = L ∧ Q1 = Q) ∧ True ∧ (6 ≤ (f1 36 3).toInt ∧ (f1 36 3).toInt ≤ 6)))) 0 0 (sgA 52 h sz) := by
  refine sg_ofWi (cc := cX3_runs) (maxL := 5) RX3 (by decide) rfl rfl (Nat.le_of_ble_eq_true rfl) ?_
  intro p e s m below meth cd Qz ls hx hb hml hown hts hK hZ hP hS hl hret
  have hA := sgY.self (n := 52) (h := h) (sz := s.heap.size)
  have hl : lv_has ls 5 [(0, .ref (h 36)), (1, .int 1), (2, .int (-1)), (3, .int x2), (4, .int 6)] := hl
  obtain ⟨H, hH⟩ : ∃ z : Heap, z = s.heap := ⟨_, rfl⟩
  obtain ⟨locs, hlo⟩ : ∃ z : List Loc, z = [] := ⟨_, rfl⟩
  have hP : va_P D vwCl (sgw 52 h (eX ca h) f L Q) H := by rw [hH]; exact hP
  have hS : va_S (sgA 52 h s.heap.size) s.heap H locs := by rw [hH, hlo]; exact hS
  suffices hgo : W p l e ({ frames := 0, cells := 0, slots := 0, locals := 0 }) s m ([.ref (h 36), .int 1, .int (-1), .int x2, .int 6] : List Value).toArray below meth cd H locs 0 0 Qz (F0 m 0 ls []) by rw [hH, hlo] at hgo; exact hgo
  clear hH hlo
  have o_1 : (f 36 3).toInt = 6 := (congrArg Int32.toInt (show f 36 3 = 6 from hf_36_3)).trans (by decide)
  refine lv_iload_n hx hb dX3_runs_0 rfl (lv_at hl 1 rfl) ?_
  refine lv_lookup (x := 1) (off := 115) (tgt := 116) hx hb dX3_runs_1 (by decide) (by decide) (by decide) ?_
  refine lv_iload_n hx hb dX3_runs_116 rfl (lv_at hl 3 rfl) ?_
  refine lv_aload_n hx hb dX3_runs_117 rfl (lv_at hl 0 rfl) ?_
  refine sg_get (ci := 3) (v := .int (f 36 5)) (C := RX3) (T := TX3) (N := 6) hx hb hts (fun w h => List.mem_cons_of_mem _ (gx_3 w h)) hown hK hP 36 (by decide) rfl rfl 5 (by decide) (hts _ (List.mem_cons_of_mem _ mw_106)) (fun _ h9 => h9) rfl dX3_runs_118 ?_
  refine lv_topi (fun v_2 ev_2 => ?_)
  have q_3 : 0 ≤ v_2.toInt ∧ v_2.toInt ≤ 49 := by rw [ev_2]; exact hI 36 5
  refine lv_iadd hx hb dX3_runs_121 ?_
  refine lv_topi (fun v_4 ev_4 => ?_)
  have q_5 : (f 36 3).toInt = 6 := (congrArg Int32.toInt (show f 36 3 = 6 from hf_36_3)).trans (by decide)
  have q_6 : (f 36 3).toInt = 6 := (congrArg Int32.toInt (show f 36 3 = 6 from hf_36_3)).trans (by decide)
  exact hret _ _ _ _ (v_4) f L Q dX3_runs_122 hP hS ⟨⟨rfl, rfl, rfl⟩, trivial, (by omega)⟩

abbrev WkX3_does_0_0_5_f5_f7 : List (Nat × Nat × Option Nat) := [(36, 36, some 3), (38, 38, none)]
set_option maxHeartbeats 4000000 in
set_option maxRecDepth 100000 in
theorem kX3_does_0_0_5_f5_f7 (l : Launch) (D : va_G) (ca : Nat → ClassId) (za h : Nat → Nat) (hh : sgH 52 h) (f : sg_F) (L : sg_L) (Q : sg_Q) (hI : sgI loX hiX f) (x2 : Int32) (hf_36_3 : f 36 3 = 5) (hf_36_4 : f 36 4 = 7) (p0 : 5 ≤ (f 36 3).toInt ∧ (f 36 3).toInt ≤ 5) (sz : Nat) : Met l yX3_does gwX3_does { frames := 1, cells := 0, slots := 0, locals := 24 } (sgP D vwCl (tyX ca) 52 h (eX ca h) zcX za f L Q sz [.ref (h 36), .int 0, .int 0, .int x2, .int 5]) (sgQi D vwCl 52 h (eX ca h) sz (fun r f1 L1 Q1 => ((sgI loX hiX f1 ∧ sgK WkX3_does_0_0_5_f5_f7 f f1 ∧ L1 = L ∧ Q1 = Q) ∧ True ∧ (6 ≤ (f1 36 3).toInt ∧ (f1 36 3).toInt ≤ 6)))) 0 0 (sgA 52 h sz) := by
  refine sg_ofWi (cc := cX3_does) (maxL := 7) RX3 (by decide) rfl rfl (Nat.le_of_ble_eq_true rfl) ?_
  intro p e s m below meth cd Qz ls hx hb hml hown hts hK hZ hP hS hl hret
  have hA := sgY.self (n := 52) (h := h) (sz := s.heap.size)
  have hl : lv_has ls 7 [(0, .ref (h 36)), (1, .int 0), (2, .int 0), (3, .int x2), (4, .int 5)] := hl
  obtain ⟨H, hH⟩ : ∃ z : Heap, z = s.heap := ⟨_, rfl⟩
  obtain ⟨locs, hlo⟩ : ∃ z : List Loc, z = [] := ⟨_, rfl⟩
  have hP : va_P D vwCl (sgw 52 h (eX ca h) f L Q) H := by rw [hH]; exact hP
  have hS : va_S (sgA 52 h s.heap.size) s.heap H locs := by rw [hH, hlo]; exact hS
  suffices hgo : W p l e ({ frames := 1, cells := 0, slots := 0, locals := 24 }) s m ([.ref (h 36), .int 0, .int 0, .int x2, .int 5] : List Value).toArray below meth cd H locs 0 0 Qz (F0 m 0 ls []) by rw [hH, hlo] at hgo; exact hgo
  clear hH hlo
  have o_1 : (f 36 3).toInt = 5 := (congrArg Int32.toInt (show f 36 3 = 5 from hf_36_3)).trans (by decide)
  have hF : sgK WkX3_does_0_0_5_f5_f7 f f := sgK.rf
  have blk_53 : ∀ (fp_53 : sg_F) (H : Heap) (locs : List Loc) (ls : Array Slot), 5 ≤ (fp_53 36 3).toInt ∧ (fp_53 36 3).toInt ≤ 5 → 7 ≤ (fp_53 36 4).toInt ∧ (fp_53 36 4).toInt ≤ 7 → sgI loX hiX fp_53 → sgK WkX3_does_0_0_5_f5_f7 f fp_53 → va_P D vwCl (sgw 52 h (eX ca h) fp_53 L Q) H → va_S (sgA 52 h s.heap.size) s.heap H locs → lv_has ls 7 [(0, .ref (h 36)), (3, .int x2), (4, .int 5), (5, .int 0), (6, .int 1)] → W p l e ({ frames := 1, cells := 0, slots := 0, locals := 24 }) s m ([.ref (h 36), .int 0, .int 0, .int x2, .int 5] : List Value).toArray below meth cd H locs 0 0 Qz (F0 m 53 ls []) := by
    intro fp_53 H locs ls hy0_53 hy1_53 hI hF hP hS hl
    obtain ⟨v_2, ev_2⟩ : ∃ z : Int32, z = fp_53 36 3 := ⟨_, rfl⟩
    have q_3 : 0 ≤ v_2.toInt ∧ v_2.toInt ≤ 19 := by rw [ev_2]; exact hI 36 3
    have q_4 : (fp_53 36 3).toInt = v_2.toInt := by rw [ev_2]
    obtain ⟨v_5, ev_5⟩ : ∃ z : Int32, z = fp_53 36 4 := ⟨_, rfl⟩
    have q_6 : 0 ≤ v_5.toInt ∧ v_5.toInt ≤ 7 := by rw [ev_5]; exact hI 36 4
    have q_7 : (fp_53 36 4).toInt = v_5.toInt := by rw [ev_5]
    have m_8 : fp_53 36 4 = 7 := (hF 36 4 (by decide)).trans hf_36_4
    refine lv_aload_n hx hb dX3_does_53 rfl (lv_at hl 0 rfl) ?_
    refine lv_dup hx hb dX3_does_54 rfl ?_
    refine sg_get (ci := 3) (v := .int v_2) (C := RX3) (T := TX3) (N := 6) hx hb hts (fun w h => List.mem_cons_of_mem _ (gx_3 w h)) hown hK hP 36 (by decide) rfl rfl 3 (by decide) (hts _ (List.mem_cons_of_mem _ mw_16)) (fun _ h9 => h9) (congrArg (fun z => some (Value.int z)) (show fp_53 36 3 = v_2 from ev_2.symm)) dX3_does_55 ?_
    refine lv_iconst (v := 1) hx hb dX3_does_58 (by decide) ?_
    refine lv_iadd hx hb dX3_does_59 ?_
    refine lv_topi (fun v_9 ev_9 => ?_)
    have q_10 : v_9.toInt = v_2.toInt + 1 := by rw [ev_9]; have k1 : (1 : Int32).toInt = 1 := (by decide); exact (bn_addI (by omega) (by omega)).trans (by omega)
    refine sg_put (ci := 3) (x := v_9) (ty := .int) (C := RX3) (T := TX3) (N := 6) hx hb hts (fun w h => List.mem_cons_of_mem _ (gx_3 w h)) tyX3 tyX3_ok nmX3 hown hh hA hK hP hS 36 (by decide) rfl rfl 3 (by decide) (hts _ (List.mem_cons_of_mem _ mw_16)) (fun _ h9 => h9) rfl rfl (by decide +kernel) rfl rfl (Nat.le_of_ble_eq_true rfl) dX3_does_60 (fun f_11 H locs ef_11 hP hS => ?_)
    have hI : sgI loX hiX f_11 := by rw [ef_11]; exact sgI.put hI 36 3 (show 0 ≤ (v_9 : Int32).toInt ∧ (v_9 : Int32).toInt ≤ 19 from by omega)
    have hF : sgK WkX3_does_0_0_5_f5_f7 f f_11 := sgK.put hF ef_11 (by rfl)
    refine lv_aload_n hx hb dX3_does_63 rfl (lv_at hl 0 rfl) ?_
    refine lv_iload hx hb dX3_does_64 (lv_at hl 4 rfl) ?_
    refine sg_gets hx hb hZ 2 rfl hS hown (hts _ (List.mem_cons_of_mem _ mw_174)) (fun _ h9 => h9) dX3_does_66 ?_
    refine lv_iload hx hb dX3_does_69 (lv_at hl 3 rfl) ?_
    refine sg_sald hx hb hZ 2 rfl hS (y := 0) (N := 8) (vp_in_iff.mpr (by decide)) dX3_does_71 ?_
    refine W.eq (g2 := F0 m 72 ls [.int (-1), .int 1, .ref (h 36)]) (by rfl) ?_
    refine lv_iload_n hx hb dX3_does_72 rfl (lv_at hl 1 rfl) ?_
    refine lv_iload hx hb dX3_does_73 (lv_at hl 2 rfl) ?_
    refine lv_iconst (v := 1) hx hb dX3_does_75 (by decide) ?_
    refine lv_iadd hx hb dX3_does_76 ?_
    refine W.eq (g2 := F0 m 77 ls [.int 6, .int x2, .int (-1), .int 1, .ref (h 36)]) (by rw [show (5 + 1 : Int32) = 6 from by decide]) ?_
    have c_12 : v_9 = 6 := Int32.toInt_inj.mp (by have k9 : (6 : Int32).toInt = 6 := (by decide); omega)
    have q_13 : (f_11 36 3).toInt = 6 := (congrArg Int32.toInt (show f_11 36 3 = 6 from (Eq.trans (by rw [ef_11, sg_up_s, sgu_s]) c_12))).trans (by decide)
    have q_14 : (f_11 36 3).toInt = 6 := (congrArg Int32.toInt (show f_11 36 3 = 6 from (Eq.trans (by rw [ef_11, sg_up_s, sgu_s]) c_12))).trans (by decide)
    refine sg_calli (va_runV (As := [.int 1, .int (-1), .int x2, .int 6]) (rest := []) ⟨hx, hb, hml, hown, hts⟩ (kX3_runs_1_m1_6_f6_f7 l D ca za h hh f_11 L Q hI x2 (Eq.trans (by rw [ef_11, sg_up_s, sgu_s]) c_12) (by rw [ef_11, sg_up_s, sgu_n (by decide)]; exact m_8) (by have k0 : (1 : Int32).toInt = 1 := (by decide); have k1 : ((-1) : Int32).toInt = (-1) := (by decide); have k3 : (6 : Int32).toInt = 6 := (by decide); omega) H.size) (cwV 4 hts (gw_V (fun _ h => List.mem_cons_of_mem _ h) mw_311 mw_312 mw_313 mw_47 mw_310) rfl rfl rfl (by decide +kernel) ⟨Nat.le_of_ble_eq_true rfl, Nat.le_of_ble_eq_true rfl⟩) (sg_preV (ci := 3) (C := RX3) (T := TX3) (N := 6) hA hK hP hS hZ 36 (by decide) rfl rfl) rfl rfl hl.1 rfl (lv_room (Nat.le_of_ble_eq_true rfl)) dX3_does_77 ⟨Nat.le_refl _, Nat.le_refl _⟩) hA hS (fun r_18 f_15 L_16 Q_17 H locs hq hP hS => ?_)
    obtain ⟨⟨ef9, eL9, eQ9⟩, hq, p_19⟩ := hq
    rw [ef9, eL9, eQ9] at hP; clear ef9 eL9 eQ9
    have q_20 : (f_11 36 3).toInt = 6 := (congrArg Int32.toInt (show f_11 36 3 = 6 from (Eq.trans (by rw [ef_11, sg_up_s, sgu_s]) c_12))).trans (by decide)
    have q_21 : (f_11 36 3).toInt = 6 := (congrArg Int32.toInt (show f_11 36 3 = 6 from (Eq.trans (by rw [ef_11, sg_up_s, sgu_s]) c_12))).trans (by decide)
    have k_22 : (1 : Int32).toInt = 1 := by decide
    have k_23 : ((-1) : Int32).toInt = (-1) := by decide
    have k_24 : (6 : Int32).toInt = 6 := by decide
    have q_25 : (f_11 36 3).toInt = 6 := (congrArg Int32.toInt (show f_11 36 3 = 6 from (Eq.trans (by rw [ef_11, sg_up_s, sgu_s]) c_12))).trans (by decide)
    have q_26 : (f_11 36 3).toInt = 6 := (congrArg Int32.toInt (show f_11 36 3 = 6 from (Eq.trans (by rw [ef_11, sg_up_s, sgu_s]) c_12))).trans (by decide)
    exact hret _ _ _ _ (r_18) f_11 L Q dX3_does_80 hP hS ⟨⟨hI, hF, rfl, rfl⟩, trivial, (by omega)⟩
  refine lv_iload_n hx hb dX3_does_0 rfl (lv_at hl 1 rfl) ?_
  refine lv_iload_n hx hb dX3_does_1 rfl (lv_at hl 2 rfl) ?_
  refine sg_calli (va_runS (As := [.int 0, .int 0]) (rest := []) ⟨hx, hb, hml, hown, hts⟩ (kX3_ownerOf_0_0 l D ca za h hh f L Q hI H.size) (va_cwS 2 hts (gw_S (fun _ h => List.mem_cons_of_mem _ h) mw_189 mw_190 mw_47 mw_188) rfl rfl rfl (by decide +kernel) ⟨Nat.le_of_ble_eq_true rfl, Nat.le_of_ble_eq_true rfl⟩) (sg_preS hA hK hP hS hZ) rfl rfl hl.1 rfl (lv_room (Nat.le_of_ble_eq_true rfl)) dX3_does_2 ⟨Nat.le_refl _, Nat.le_refl _⟩) hA hS (fun r_30 f_27 L_28 Q_29 H locs hq hP hS => ?_)
  obtain ⟨⟨ef9, eL9, eQ9⟩, hq⟩ := hq
  rw [ef9, eL9, eQ9] at hP; clear ef9 eL9 eQ9
  obtain rfl : r_30 = 0 := Int32.toInt_inj.mp (by have k9 : (0 : Int32).toInt = 0 := (by decide); omega)
  refine lv_istore (lv' := [(5, .int 0), (0, .ref (h 36)), (1, .int 0), (2, .int 0), (3, .int x2), (4, .int 5)]) hx hb dX3_does_5 hl (by decide) rfl (fun ls hl => ?_)
  refine lv_iload hx hb dX3_does_7 (lv_at hl 0 rfl) ?_
  refine lv_if_lt (tgt := 19) hx hb dX3_does_9 (by decide) (fun c => absurd c (by decide)) (fun c => ?_)
  refine lv_iload hx hb dX3_does_12 (lv_at hl 5 rfl) ?_
  refine lv_bipush (v := 40) hx hb dX3_does_14 (by decide) ?_
  refine lv_icmp_le (tgt := 21) hx hb dX3_does_16 (by decide) (fun c => ?_) (fun c => absurd c (by decide))
  refine sg_gets hx hb hZ 3 rfl hS hown (hts _ (List.mem_cons_of_mem _ mw_173)) (fun _ h9 => h9) dX3_does_21 ?_
  refine lv_iload hx hb dX3_does_24 (lv_at hl 0 rfl) ?_
  refine lv_iconst (v := 4) hx hb dX3_does_26 (by decide) ?_
  refine lv_imul hx hb dX3_does_27 ?_
  refine W.eq (g2 := F0 m 28 ls [.int 0, .ref (za 3)]) (by rw [show (0 * 4 : Int32) = 0 from by decide]) ?_
  refine lv_iload_n hx hb dX3_does_28 rfl (lv_at hl 3 rfl) ?_
  refine lv_iadd hx hb dX3_does_29 ?_
  refine W.eq (g2 := F0 m 30 ls [.int 0, .ref (za 3)]) (by rw [show (0 + 0 : Int32) = 0 from by decide]) ?_
  refine sg_sald hx hb hZ 3 rfl hS (y := 0) (N := 32) (vp_in_iff.mpr (by decide)) dX3_does_30 ?_
  refine W.eq (g2 := F0 m 31 ls [.int 1]) (by rfl) ?_
  refine lv_istore (lv' := [(6, .int 1), (5, .int 0), (0, .ref (h 36)), (1, .int 0), (2, .int 0), (3, .int x2), (4, .int 5)]) hx hb dX3_does_31 hl (by decide) rfl (fun ls hl => ?_)
  refine lv_aload_n hx hb dX3_does_33 rfl (lv_at hl 2 rfl) ?_
  refine sg_get (ci := 3) (v := .int 5) (C := RX3) (T := TX3) (N := 6) hx hb hts (fun w h => List.mem_cons_of_mem _ (gx_3 w h)) hown hK hP 36 (by decide) rfl rfl 3 (by decide) (hts _ (List.mem_cons_of_mem _ mw_16)) (fun _ h9 => h9) (congrArg (fun z => some (Value.int z)) (show f 36 3 = 5 from hf_36_3)) dX3_does_34 ?_
  refine lv_bipush (v := 24) hx hb dX3_does_37 (by decide) ?_
  refine lv_icmp_ge (tgt := 53) hx hb dX3_does_39 (by decide) (fun c => absurd c (by decide)) (fun c => ?_)
  refine lv_aload_n hx hb dX3_does_42 rfl (lv_at hl 2 rfl) ?_
  refine sg_get (ci := 3) (v := .ref (h 38)) (C := RX3) (T := TX3) (N := 6) hx hb hts (fun w h => List.mem_cons_of_mem _ (gx_3 w h)) hown hK hP 36 (by decide) rfl rfl 1 (by decide) (hts _ (List.mem_cons_of_mem _ mw_191)) (fun _ h9 => h9) rfl dX3_does_43 ?_
  refine lv_aload_n hx hb dX3_does_46 rfl (lv_at hl 2 rfl) ?_
  refine sg_get (ci := 3) (v := .int 5) (C := RX3) (T := TX3) (N := 6) hx hb hts (fun w h => List.mem_cons_of_mem _ (gx_3 w h)) hown hK hP 36 (by decide) rfl rfl 3 (by decide) (hts _ (List.mem_cons_of_mem _ mw_16)) (fun _ h9 => h9) (congrArg (fun z => some (Value.int z)) (show f 36 3 = 5 from hf_36_3)) dX3_does_47 ?_
  refine lv_iload hx hb dX3_does_50 (lv_at hl 0 rfl) ?_
  refine sg_iast hx hb hh hA hK hP hS 38 (by decide) 0 (fun _ => rfl) rfl (i := 5) (x := 1) (vp_in_iff.mpr (by decide)) dX3_does_52 (fun f_31 H locs ef_31 hP hS => ?_)
  have hI : sgI loX hiX f_31 := by rw [ef_31]; exact sgI.put hI 38 (Int32.toNatClampNeg 5) (show 0 ≤ (1 : Int32).toInt ∧ (1 : Int32).toInt ≤ 81 from by decide)
  have hF : sgK WkX3_does_0_0_5_f5_f7 f f_31 := sgK.put hF ef_31 (by rfl)
  exact blk_53 f_31 _ _ _ (by have zz36_3 : (f_31 36 3).toInt = 5 := (congrArg Int32.toInt (show f_31 36 3 = 5 from (by rw [ef_31, sg_up_n (by decide)]; exact hf_36_3))).trans (by decide); omega) (by have zz36_4 : (f_31 36 4).toInt = 7 := (congrArg Int32.toInt (show f_31 36 4 = 7 from (by rw [ef_31, sg_up_n (by decide)]; exact hf_36_4))).trans (by decide); omega) hI hF hP hS (lv_sub hl [2, 5, 6, 1, 0] rfl)

abbrev WkX3_runs_20_0_5_f5_f7 : List (Nat × Nat × Option Nat) := [(36, 36, some 3), (38, 38, none)]
set_option maxHeartbeats 4000000 in
set_option maxRecDepth 100000 in
theorem kX3_runs_20_0_5_f5_f7 (l : Launch) (D : va_G) (ca : Nat → ClassId) (za h : Nat → Nat) (hh : sgH 52 h) (f : sg_F) (L : sg_L) (Q : sg_Q) (hI : sgI loX hiX f) (x2 : Int32) (hf_36_3 : f 36 3 = 5) (hf_36_4 : f 36 4 = 7) (p0 : 5 ≤ (f 36 3).toInt ∧ (f 36 3).toInt ≤ 5) (sz : Nat) : Met l yX3_runs gwX3_runs { frames := 2, cells := 0, slots := 0, locals := 50 } (sgP D vwCl (tyX ca) 52 h (eX ca h) zcX za f L Q sz [.ref (h 36), .int 20, .int 0, .int x2, .int 5]) (sgQi D vwCl 52 h (eX ca h) sz (fun r f1 L1 Q1 => ((sgI loX hiX f1 ∧ sgK WkX3_runs_20_0_5_f5_f7 f f1 ∧ L1 = L ∧ Q1 = Q) ∧ True ∧ (6 ≤ (f1 36 3).toInt ∧ (f1 36 3).toInt ≤ 6)))) 0 0 (sgA 52 h sz) := by
  refine sg_ofWi (cc := cX3_runs) (maxL := 5) RX3 (by decide) rfl rfl (Nat.le_of_ble_eq_true rfl) ?_
  intro p e s m below meth cd Qz ls hx hb hml hown hts hK hZ hP hS hl hret
  have hA := sgY.self (n := 52) (h := h) (sz := s.heap.size)
  have hl : lv_has ls 5 [(0, .ref (h 36)), (1, .int 20), (2, .int 0), (3, .int x2), (4, .int 5)] := hl
  obtain ⟨H, hH⟩ : ∃ z : Heap, z = s.heap := ⟨_, rfl⟩
  obtain ⟨locs, hlo⟩ : ∃ z : List Loc, z = [] := ⟨_, rfl⟩
  have hP : va_P D vwCl (sgw 52 h (eX ca h) f L Q) H := by rw [hH]; exact hP
  have hS : va_S (sgA 52 h s.heap.size) s.heap H locs := by rw [hH, hlo]; exact hS
  suffices hgo : W p l e ({ frames := 2, cells := 0, slots := 0, locals := 50 }) s m ([.ref (h 36), .int 20, .int 0, .int x2, .int 5] : List Value).toArray below meth cd H locs 0 0 Qz (F0 m 0 ls []) by rw [hH, hlo] at hgo; exact hgo
  clear hH hlo
  have o_1 : (f 36 3).toInt = 5 := (congrArg Int32.toInt (show f 36 3 = 5 from hf_36_3)).trans (by decide)
  have hF : sgK WkX3_runs_20_0_5_f5_f7 f f := sgK.rf
  refine lv_iload_n hx hb dX3_runs_0 rfl (lv_at hl 1 rfl) ?_
  refine lv_lookup (x := 20) (off := 170) (tgt := 171) hx hb dX3_runs_1 (by decide) (by decide) (by decide) ?_
  refine lv_aload_n hx hb dX3_runs_171 rfl (lv_at hl 0 rfl) ?_
  refine lv_iload_n hx hb dX3_runs_172 rfl (lv_at hl 2 rfl) ?_
  refine lv_iconst (v := 0) hx hb dX3_runs_173 (by decide) ?_
  refine lv_iload_n hx hb dX3_runs_174 rfl (lv_at hl 3 rfl) ?_
  refine lv_iload hx hb dX3_runs_175 (lv_at hl 4 rfl) ?_
  have q_2 : (f 36 3).toInt = 5 := (congrArg Int32.toInt (show f 36 3 = 5 from hf_36_3)).trans (by decide)
  have q_3 : (f 36 3).toInt = 5 := (congrArg Int32.toInt (show f 36 3 = 5 from hf_36_3)).trans (by decide)
  refine sg_calli (va_runV (As := [.int 0, .int 0, .int x2, .int 5]) (rest := []) ⟨hx, hb, hml, hown, hts⟩ (kX3_does_0_0_5_f5_f7 l D ca za h hh f L Q hI x2 hf_36_3 hf_36_4 (by have k0 : (0 : Int32).toInt = 0 := (by decide); have k1 : (0 : Int32).toInt = 0 := (by decide); have k3 : (5 : Int32).toInt = 5 := (by decide); omega) H.size) (cwV 4 hts (gw_V (fun _ h => List.mem_cons_of_mem _ h) mw_318 mw_319 mw_320 mw_47 mw_317) rfl rfl rfl (by decide +kernel) ⟨Nat.le_of_ble_eq_true rfl, Nat.le_of_ble_eq_true rfl⟩) (sg_preV (ci := 3) (C := RX3) (T := TX3) (N := 6) hA hK hP hS hZ 36 (by decide) rfl rfl) rfl rfl hl.1 rfl (lv_room (Nat.le_of_ble_eq_true rfl)) dX3_runs_177 ⟨Nat.le_refl _, Nat.le_refl _⟩) hA hS (fun r_7 f_4 L_5 Q_6 H locs hq hP hS => ?_)
  obtain ⟨⟨hI, hk_f_4, eL9, eQ9⟩, hq, p_8⟩ := hq
  rw [eL9, eQ9] at hP; clear eL9 eQ9
  have hF : sgK WkX3_runs_20_0_5_f5_f7 f f_4 := sgK.tr hF hk_f_4 (by decide)
  obtain ⟨v_9, ev_9⟩ : ∃ z : Int32, z = f_4 36 3 := ⟨_, rfl⟩
  have q_10 : 0 ≤ v_9.toInt ∧ v_9.toInt ≤ 19 := by rw [ev_9]; exact hI 36 3
  have q_11 : (f_4 36 3).toInt = v_9.toInt := (congrArg Int32.toInt (show f_4 36 3 = v_9 from ev_9.symm))
  have q_12 : (f_4 36 3).toInt = v_9.toInt := (congrArg Int32.toInt (show f_4 36 3 = v_9 from ev_9.symm))
  have k_13 : (0 : Int32).toInt = 0 := by decide
  have k_14 : (0 : Int32).toInt = 0 := by decide
  have k_15 : (5 : Int32).toInt = 5 := by decide
  refine lv_iconst (v := 3) hx hb dX3_runs_180 (by decide) ?_
  refine lv_iadd hx hb dX3_runs_181 ?_
  refine lv_topi (fun v_16 ev_16 => ?_)
  have q_17 : (f_4 36 3).toInt = v_9.toInt := (congrArg Int32.toInt (show f_4 36 3 = v_9 from ev_9.symm))
  have q_18 : (f_4 36 3).toInt = v_9.toInt := (congrArg Int32.toInt (show f_4 36 3 = v_9 from ev_9.symm))
  exact hret _ _ _ _ (v_16) f_4 L Q dX3_runs_182 hP hS ⟨⟨hI, hF, rfl, rfl⟩, trivial, (by omega)⟩

abbrev WkX3_does_7_0_4_f4_f7 : List (Nat × Nat × Option Nat) := [(36, 36, some 3), (38, 38, none)]
set_option maxHeartbeats 4000000 in
set_option maxRecDepth 100000 in
theorem kX3_does_7_0_4_f4_f7 (l : Launch) (D : va_G) (ca : Nat → ClassId) (za h : Nat → Nat) (hh : sgH 52 h) (f : sg_F) (L : sg_L) (Q : sg_Q) (hI : sgI loX hiX f) (x2 : Int32) (hf_36_3 : f 36 3 = 4) (hf_36_4 : f 36 4 = 7) (p0 : 4 ≤ (f 36 3).toInt ∧ (f 36 3).toInt ≤ 4) (sz : Nat) : Met l yX3_does gwX3_does { frames := 3, cells := 0, slots := 0, locals := 74 } (sgP D vwCl (tyX ca) 52 h (eX ca h) zcX za f L Q sz [.ref (h 36), .int 7, .int 0, .int x2, .int 4]) (sgQi D vwCl 52 h (eX ca h) sz (fun r f1 L1 Q1 => ((sgI loX hiX f1 ∧ sgK WkX3_does_7_0_4_f4_f7 f f1 ∧ L1 = L ∧ Q1 = Q) ∧ True ∧ (6 ≤ (f1 36 3).toInt ∧ (f1 36 3).toInt ≤ 6)))) 0 0 (sgA 52 h sz) := by
  refine sg_ofWi (cc := cX3_does) (maxL := 7) RX3 (by decide) rfl rfl (Nat.le_of_ble_eq_true rfl) ?_
  intro p e s m below meth cd Qz ls hx hb hml hown hts hK hZ hP hS hl hret
  have hA := sgY.self (n := 52) (h := h) (sz := s.heap.size)
  have hl : lv_has ls 7 [(0, .ref (h 36)), (1, .int 7), (2, .int 0), (3, .int x2), (4, .int 4)] := hl
  obtain ⟨H, hH⟩ : ∃ z : Heap, z = s.heap := ⟨_, rfl⟩
  obtain ⟨locs, hlo⟩ : ∃ z : List Loc, z = [] := ⟨_, rfl⟩
  have hP : va_P D vwCl (sgw 52 h (eX ca h) f L Q) H := by rw [hH]; exact hP
  have hS : va_S (sgA 52 h s.heap.size) s.heap H locs := by rw [hH, hlo]; exact hS
  suffices hgo : W p l e ({ frames := 3, cells := 0, slots := 0, locals := 74 }) s m ([.ref (h 36), .int 7, .int 0, .int x2, .int 4] : List Value).toArray below meth cd H locs 0 0 Qz (F0 m 0 ls []) by rw [hH, hlo] at hgo; exact hgo
  clear hH hlo
  have o_1 : (f 36 3).toInt = 4 := (congrArg Int32.toInt (show f 36 3 = 4 from hf_36_3)).trans (by decide)
  have hF : sgK WkX3_does_7_0_4_f4_f7 f f := sgK.rf
  have blk_53 : ∀ (fp_53 : sg_F) (H : Heap) (locs : List Loc) (ls : Array Slot), 4 ≤ (fp_53 36 3).toInt ∧ (fp_53 36 3).toInt ≤ 4 → 7 ≤ (fp_53 36 4).toInt ∧ (fp_53 36 4).toInt ≤ 7 → sgI loX hiX fp_53 → sgK WkX3_does_7_0_4_f4_f7 f fp_53 → va_P D vwCl (sgw 52 h (eX ca h) fp_53 L Q) H → va_S (sgA 52 h s.heap.size) s.heap H locs → lv_has ls 7 [(0, .ref (h 36)), (3, .int x2), (4, .int 4), (5, .int 1), (6, .int 20)] → W p l e ({ frames := 3, cells := 0, slots := 0, locals := 74 }) s m ([.ref (h 36), .int 7, .int 0, .int x2, .int 4] : List Value).toArray below meth cd H locs 0 0 Qz (F0 m 53 ls []) := by
    intro fp_53 H locs ls hy0_53 hy1_53 hI hF hP hS hl
    obtain ⟨v_2, ev_2⟩ : ∃ z : Int32, z = fp_53 36 3 := ⟨_, rfl⟩
    have q_3 : 0 ≤ v_2.toInt ∧ v_2.toInt ≤ 19 := by rw [ev_2]; exact hI 36 3
    have q_4 : (fp_53 36 3).toInt = v_2.toInt := by rw [ev_2]
    obtain ⟨v_5, ev_5⟩ : ∃ z : Int32, z = fp_53 36 4 := ⟨_, rfl⟩
    have q_6 : 0 ≤ v_5.toInt ∧ v_5.toInt ≤ 7 := by rw [ev_5]; exact hI 36 4
    have q_7 : (fp_53 36 4).toInt = v_5.toInt := by rw [ev_5]
    have m_8 : fp_53 36 4 = 7 := (hF 36 4 (by decide)).trans hf_36_4
    refine lv_aload_n hx hb dX3_does_53 rfl (lv_at hl 0 rfl) ?_
    refine lv_dup hx hb dX3_does_54 rfl ?_
    refine sg_get (ci := 3) (v := .int v_2) (C := RX3) (T := TX3) (N := 6) hx hb hts (fun w h => List.mem_cons_of_mem _ (gx_3 w h)) hown hK hP 36 (by decide) rfl rfl 3 (by decide) (hts _ (List.mem_cons_of_mem _ mw_16)) (fun _ h9 => h9) (congrArg (fun z => some (Value.int z)) (show fp_53 36 3 = v_2 from ev_2.symm)) dX3_does_55 ?_
    refine lv_iconst (v := 1) hx hb dX3_does_58 (by decide) ?_
    refine lv_iadd hx hb dX3_does_59 ?_
    refine lv_topi (fun v_9 ev_9 => ?_)
    have q_10 : v_9.toInt = v_2.toInt + 1 := by rw [ev_9]; have k1 : (1 : Int32).toInt = 1 := (by decide); exact (bn_addI (by omega) (by omega)).trans (by omega)
    refine sg_put (ci := 3) (x := v_9) (ty := .int) (C := RX3) (T := TX3) (N := 6) hx hb hts (fun w h => List.mem_cons_of_mem _ (gx_3 w h)) tyX3 tyX3_ok nmX3 hown hh hA hK hP hS 36 (by decide) rfl rfl 3 (by decide) (hts _ (List.mem_cons_of_mem _ mw_16)) (fun _ h9 => h9) rfl rfl (by decide +kernel) rfl rfl (Nat.le_of_ble_eq_true rfl) dX3_does_60 (fun f_11 H locs ef_11 hP hS => ?_)
    have hI : sgI loX hiX f_11 := by rw [ef_11]; exact sgI.put hI 36 3 (show 0 ≤ (v_9 : Int32).toInt ∧ (v_9 : Int32).toInt ≤ 19 from by omega)
    have hF : sgK WkX3_does_7_0_4_f4_f7 f f_11 := sgK.put hF ef_11 (by rfl)
    refine lv_aload_n hx hb dX3_does_63 rfl (lv_at hl 0 rfl) ?_
    refine lv_iload hx hb dX3_does_64 (lv_at hl 4 rfl) ?_
    refine sg_gets hx hb hZ 2 rfl hS hown (hts _ (List.mem_cons_of_mem _ mw_174)) (fun _ h9 => h9) dX3_does_66 ?_
    refine lv_iload hx hb dX3_does_69 (lv_at hl 3 rfl) ?_
    refine sg_sald hx hb hZ 2 rfl hS (y := 1) (N := 8) (vp_in_iff.mpr (by decide)) dX3_does_71 ?_
    refine W.eq (g2 := F0 m 72 ls [.int 0, .int 20, .ref (h 36)]) (by rfl) ?_
    refine lv_iload_n hx hb dX3_does_72 rfl (lv_at hl 1 rfl) ?_
    refine lv_iload hx hb dX3_does_73 (lv_at hl 2 rfl) ?_
    refine lv_iconst (v := 1) hx hb dX3_does_75 (by decide) ?_
    refine lv_iadd hx hb dX3_does_76 ?_
    refine W.eq (g2 := F0 m 77 ls [.int 5, .int x2, .int 0, .int 20, .ref (h 36)]) (by rw [show (4 + 1 : Int32) = 5 from by decide]) ?_
    have c_12 : v_9 = 5 := Int32.toInt_inj.mp (by have k9 : (5 : Int32).toInt = 5 := (by decide); omega)
    have q_13 : (f_11 36 3).toInt = 5 := (congrArg Int32.toInt (show f_11 36 3 = 5 from (Eq.trans (by rw [ef_11, sg_up_s, sgu_s]) c_12))).trans (by decide)
    have q_14 : (f_11 36 3).toInt = 5 := (congrArg Int32.toInt (show f_11 36 3 = 5 from (Eq.trans (by rw [ef_11, sg_up_s, sgu_s]) c_12))).trans (by decide)
    refine sg_calli (va_runV (As := [.int 20, .int 0, .int x2, .int 5]) (rest := []) ⟨hx, hb, hml, hown, hts⟩ (kX3_runs_20_0_5_f5_f7 l D ca za h hh f_11 L Q hI x2 (Eq.trans (by rw [ef_11, sg_up_s, sgu_s]) c_12) (by rw [ef_11, sg_up_s, sgu_n (by decide)]; exact m_8) (by have k0 : (20 : Int32).toInt = 20 := (by decide); have k1 : (0 : Int32).toInt = 0 := (by decide); have k3 : (5 : Int32).toInt = 5 := (by decide); omega) H.size) (cwV 4 hts (gw_V (fun _ h => List.mem_cons_of_mem _ h) mw_311 mw_312 mw_313 mw_47 mw_310) rfl rfl rfl (by decide +kernel) ⟨Nat.le_of_ble_eq_true rfl, Nat.le_of_ble_eq_true rfl⟩) (sg_preV (ci := 3) (C := RX3) (T := TX3) (N := 6) hA hK hP hS hZ 36 (by decide) rfl rfl) rfl rfl hl.1 rfl (lv_room (Nat.le_of_ble_eq_true rfl)) dX3_does_77 ⟨Nat.le_refl _, Nat.le_refl _⟩) hA hS (fun r_18 f_15 L_16 Q_17 H locs hq hP hS => ?_)
    obtain ⟨⟨hI, hk_f_15, eL9, eQ9⟩, hq, p_19⟩ := hq
    rw [eL9, eQ9] at hP; clear eL9 eQ9
    have hF : sgK WkX3_does_7_0_4_f4_f7 f f_15 := sgK.tr hF hk_f_15 (by decide)
    obtain ⟨v_20, ev_20⟩ : ∃ z : Int32, z = f_15 36 3 := ⟨_, rfl⟩
    have q_21 : 0 ≤ v_20.toInt ∧ v_20.toInt ≤ 19 := by rw [ev_20]; exact hI 36 3
    have q_22 : (f_15 36 3).toInt = v_20.toInt := (congrArg Int32.toInt (show f_15 36 3 = v_20 from ev_20.symm))
    have q_23 : (f_15 36 3).toInt = v_20.toInt := (congrArg Int32.toInt (show f_15 36 3 = v_20 from ev_20.symm))
    have k_24 : (20 : Int32).toInt = 20 := by decide
    have k_25 : (0 : Int32).toInt = 0 := by decide
    have k_26 : (5 : Int32).toInt = 5 := by decide
    have q_27 : (f_15 36 3).toInt = v_20.toInt := (congrArg Int32.toInt (show f_15 36 3 = v_20 from ev_20.symm))
    have q_28 : (f_15 36 3).toInt = v_20.toInt := (congrArg Int32.toInt (show f_15 36 3 = v_20 from ev_20.symm))
    exact hret _ _ _ _ (r_18) f_15 L Q dX3_does_80 hP hS ⟨⟨hI, hF, rfl, rfl⟩, trivial, (by omega)⟩
  refine lv_iload_n hx hb dX3_does_0 rfl (lv_at hl 1 rfl) ?_
  refine lv_iload_n hx hb dX3_does_1 rfl (lv_at hl 2 rfl) ?_
  refine sg_calli (va_runS (As := [.int 7, .int 0]) (rest := []) ⟨hx, hb, hml, hown, hts⟩ (kX3_ownerOf_7_0 l D ca za h hh f L Q hI H.size) (va_cwS 2 hts (gw_S (fun _ h => List.mem_cons_of_mem _ h) mw_189 mw_190 mw_47 mw_188) rfl rfl rfl (by decide +kernel) ⟨Nat.le_of_ble_eq_true rfl, Nat.le_of_ble_eq_true rfl⟩) (sg_preS hA hK hP hS hZ) rfl rfl hl.1 rfl (lv_room (Nat.le_of_ble_eq_true rfl)) dX3_does_2 ⟨Nat.le_refl _, Nat.le_refl _⟩) hA hS (fun r_32 f_29 L_30 Q_31 H locs hq hP hS => ?_)
  obtain ⟨⟨ef9, eL9, eQ9⟩, hq⟩ := hq
  rw [ef9, eL9, eQ9] at hP; clear ef9 eL9 eQ9
  obtain rfl : r_32 = 1 := Int32.toInt_inj.mp (by have k9 : (1 : Int32).toInt = 1 := (by decide); omega)
  refine lv_istore (lv' := [(5, .int 1), (0, .ref (h 36)), (1, .int 7), (2, .int 0), (3, .int x2), (4, .int 4)]) hx hb dX3_does_5 hl (by decide) rfl (fun ls hl => ?_)
  refine lv_iload hx hb dX3_does_7 (lv_at hl 0 rfl) ?_
  refine lv_if_lt (tgt := 19) hx hb dX3_does_9 (by decide) (fun c => absurd c (by decide)) (fun c => ?_)
  refine lv_iload hx hb dX3_does_12 (lv_at hl 5 rfl) ?_
  refine lv_bipush (v := 40) hx hb dX3_does_14 (by decide) ?_
  refine lv_icmp_le (tgt := 21) hx hb dX3_does_16 (by decide) (fun c => ?_) (fun c => absurd c (by decide))
  refine sg_gets hx hb hZ 3 rfl hS hown (hts _ (List.mem_cons_of_mem _ mw_173)) (fun _ h9 => h9) dX3_does_21 ?_
  refine lv_iload hx hb dX3_does_24 (lv_at hl 0 rfl) ?_
  refine lv_iconst (v := 4) hx hb dX3_does_26 (by decide) ?_
  refine lv_imul hx hb dX3_does_27 ?_
  refine W.eq (g2 := F0 m 28 ls [.int 4, .ref (za 3)]) (by rw [show (1 * 4 : Int32) = 4 from by decide]) ?_
  refine lv_iload_n hx hb dX3_does_28 rfl (lv_at hl 3 rfl) ?_
  refine lv_iadd hx hb dX3_does_29 ?_
  refine W.eq (g2 := F0 m 30 ls [.int 4, .ref (za 3)]) (by rw [show (4 + 0 : Int32) = 4 from by decide]) ?_
  refine sg_sald hx hb hZ 3 rfl hS (y := 4) (N := 32) (vp_in_iff.mpr (by decide)) dX3_does_30 ?_
  refine W.eq (g2 := F0 m 31 ls [.int 20]) (by rfl) ?_
  refine lv_istore (lv' := [(6, .int 20), (5, .int 1), (0, .ref (h 36)), (1, .int 7), (2, .int 0), (3, .int x2), (4, .int 4)]) hx hb dX3_does_31 hl (by decide) rfl (fun ls hl => ?_)
  refine lv_aload_n hx hb dX3_does_33 rfl (lv_at hl 2 rfl) ?_
  refine sg_get (ci := 3) (v := .int 4) (C := RX3) (T := TX3) (N := 6) hx hb hts (fun w h => List.mem_cons_of_mem _ (gx_3 w h)) hown hK hP 36 (by decide) rfl rfl 3 (by decide) (hts _ (List.mem_cons_of_mem _ mw_16)) (fun _ h9 => h9) (congrArg (fun z => some (Value.int z)) (show f 36 3 = 4 from hf_36_3)) dX3_does_34 ?_
  refine lv_bipush (v := 24) hx hb dX3_does_37 (by decide) ?_
  refine lv_icmp_ge (tgt := 53) hx hb dX3_does_39 (by decide) (fun c => absurd c (by decide)) (fun c => ?_)
  refine lv_aload_n hx hb dX3_does_42 rfl (lv_at hl 2 rfl) ?_
  refine sg_get (ci := 3) (v := .ref (h 38)) (C := RX3) (T := TX3) (N := 6) hx hb hts (fun w h => List.mem_cons_of_mem _ (gx_3 w h)) hown hK hP 36 (by decide) rfl rfl 1 (by decide) (hts _ (List.mem_cons_of_mem _ mw_191)) (fun _ h9 => h9) rfl dX3_does_43 ?_
  refine lv_aload_n hx hb dX3_does_46 rfl (lv_at hl 2 rfl) ?_
  refine sg_get (ci := 3) (v := .int 4) (C := RX3) (T := TX3) (N := 6) hx hb hts (fun w h => List.mem_cons_of_mem _ (gx_3 w h)) hown hK hP 36 (by decide) rfl rfl 3 (by decide) (hts _ (List.mem_cons_of_mem _ mw_16)) (fun _ h9 => h9) (congrArg (fun z => some (Value.int z)) (show f 36 3 = 4 from hf_36_3)) dX3_does_47 ?_
  refine lv_iload hx hb dX3_does_50 (lv_at hl 0 rfl) ?_
  refine sg_iast hx hb hh hA hK hP hS 38 (by decide) 0 (fun _ => rfl) rfl (i := 4) (x := 20) (vp_in_iff.mpr (by decide)) dX3_does_52 (fun f_33 H locs ef_33 hP hS => ?_)
  have hI : sgI loX hiX f_33 := by rw [ef_33]; exact sgI.put hI 38 (Int32.toNatClampNeg 4) (show 0 ≤ (20 : Int32).toInt ∧ (20 : Int32).toInt ≤ 81 from by decide)
  have hF : sgK WkX3_does_7_0_4_f4_f7 f f_33 := sgK.put hF ef_33 (by rfl)
  exact blk_53 f_33 _ _ _ (by have zz36_3 : (f_33 36 3).toInt = 4 := (congrArg Int32.toInt (show f_33 36 3 = 4 from (by rw [ef_33, sg_up_n (by decide)]; exact hf_36_3))).trans (by decide); omega) (by have zz36_4 : (f_33 36 4).toInt = 7 := (congrArg Int32.toInt (show f_33 36 4 = 7 from (by rw [ef_33, sg_up_n (by decide)]; exact hf_36_4))).trans (by decide); omega) hI hF hP hS (lv_sub hl [2, 5, 6, 1, 0] rfl)

abbrev WkX3_runs_10_m1_4_f4_f7 : List (Nat × Nat × Option Nat) := [(36, 36, some 3), (38, 38, none)]
set_option maxHeartbeats 4000000 in
set_option maxRecDepth 100000 in
theorem kX3_runs_10_m1_4_f4_f7 (l : Launch) (D : va_G) (ca : Nat → ClassId) (za h : Nat → Nat) (hh : sgH 52 h) (f : sg_F) (L : sg_L) (Q : sg_Q) (hI : sgI loX hiX f) (x2 : Int32) (hf_36_3 : f 36 3 = 4) (hf_36_4 : f 36 4 = 7) (p0 : 4 ≤ (f 36 3).toInt ∧ (f 36 3).toInt ≤ 4) (sz : Nat) : Met l yX3_runs gwX3_runs { frames := 4, cells := 0, slots := 0, locals := 100 } (sgP D vwCl (tyX ca) 52 h (eX ca h) zcX za f L Q sz [.ref (h 36), .int 10, .int (-1), .int x2, .int 4]) (sgQi D vwCl 52 h (eX ca h) sz (fun r f1 L1 Q1 => ((sgI loX hiX f1 ∧ sgK WkX3_runs_10_m1_4_f4_f7 f f1 ∧ L1 = L ∧ Q1 = Q) ∧ True ∧ (6 ≤ (f1 36 3).toInt ∧ (f1 36 3).toInt ≤ 6)))) 0 0 (sgA 52 h sz) := by
  refine sg_ofWi (cc := cX3_runs) (maxL := 5) RX3 (by decide) rfl rfl (Nat.le_of_ble_eq_true rfl) ?_
  intro p e s m below meth cd Qz ls hx hb hml hown hts hK hZ hP hS hl hret
  have hA := sgY.self (n := 52) (h := h) (sz := s.heap.size)
  have hl : lv_has ls 5 [(0, .ref (h 36)), (1, .int 10), (2, .int (-1)), (3, .int x2), (4, .int 4)] := hl
  obtain ⟨H, hH⟩ : ∃ z : Heap, z = s.heap := ⟨_, rfl⟩
  obtain ⟨locs, hlo⟩ : ∃ z : List Loc, z = [] := ⟨_, rfl⟩
  have hP : va_P D vwCl (sgw 52 h (eX ca h) f L Q) H := by rw [hH]; exact hP
  have hS : va_S (sgA 52 h s.heap.size) s.heap H locs := by rw [hH, hlo]; exact hS
  suffices hgo : W p l e ({ frames := 4, cells := 0, slots := 0, locals := 100 }) s m ([.ref (h 36), .int 10, .int (-1), .int x2, .int 4] : List Value).toArray below meth cd H locs 0 0 Qz (F0 m 0 ls []) by rw [hH, hlo] at hgo; exact hgo
  clear hH hlo
  have o_1 : (f 36 3).toInt = 4 := (congrArg Int32.toInt (show f 36 3 = 4 from hf_36_3)).trans (by decide)
  have hF : sgK WkX3_runs_10_m1_4_f4_f7 f f := sgK.rf
  refine lv_iload_n hx hb dX3_runs_0 rfl (lv_at hl 1 rfl) ?_
  refine lv_lookup (x := 10) (off := 148) (tgt := 149) hx hb dX3_runs_1 (by decide) (by decide) (by decide) ?_
  refine lv_aload_n hx hb dX3_runs_149 rfl (lv_at hl 0 rfl) ?_
  refine lv_aload_n hx hb dX3_runs_150 rfl (lv_at hl 0 rfl) ?_
  refine sg_get (ci := 3) (v := .int 7) (C := RX3) (T := TX3) (N := 6) hx hb hts (fun w h => List.mem_cons_of_mem _ (gx_3 w h)) hown hK hP 36 (by decide) rfl rfl 4 (by decide) (hts _ (List.mem_cons_of_mem _ mw_105)) (fun _ h9 => h9) (congrArg (fun z => some (Value.int z)) (show f 36 4 = 7 from hf_36_4)) dX3_runs_151 ?_
  refine lv_iconst (v := 0) hx hb dX3_runs_154 (by decide) ?_
  refine lv_iload_n hx hb dX3_runs_155 rfl (lv_at hl 3 rfl) ?_
  refine lv_iload hx hb dX3_runs_156 (lv_at hl 4 rfl) ?_
  have q_2 : (f 36 3).toInt = 4 := (congrArg Int32.toInt (show f 36 3 = 4 from hf_36_3)).trans (by decide)
  have q_3 : (f 36 3).toInt = 4 := (congrArg Int32.toInt (show f 36 3 = 4 from hf_36_3)).trans (by decide)
  refine sg_calli (va_runV (As := [.int 7, .int 0, .int x2, .int 4]) (rest := []) ⟨hx, hb, hml, hown, hts⟩ (kX3_does_7_0_4_f4_f7 l D ca za h hh f L Q hI x2 hf_36_3 hf_36_4 (by have k0 : (7 : Int32).toInt = 7 := (by decide); have k1 : (0 : Int32).toInt = 0 := (by decide); have k3 : (4 : Int32).toInt = 4 := (by decide); omega) H.size) (cwV 4 hts (gw_V (fun _ h => List.mem_cons_of_mem _ h) mw_318 mw_319 mw_320 mw_47 mw_317) rfl rfl rfl (by decide +kernel) ⟨Nat.le_of_ble_eq_true rfl, Nat.le_of_ble_eq_true rfl⟩) (sg_preV (ci := 3) (C := RX3) (T := TX3) (N := 6) hA hK hP hS hZ 36 (by decide) rfl rfl) rfl rfl hl.1 rfl (lv_room (Nat.le_of_ble_eq_true rfl)) dX3_runs_158 ⟨Nat.le_refl _, Nat.le_refl _⟩) hA hS (fun r_7 f_4 L_5 Q_6 H locs hq hP hS => ?_)
  obtain ⟨⟨hI, hk_f_4, eL9, eQ9⟩, hq, p_8⟩ := hq
  rw [eL9, eQ9] at hP; clear eL9 eQ9
  have hF : sgK WkX3_runs_10_m1_4_f4_f7 f f_4 := sgK.tr hF hk_f_4 (by decide)
  obtain ⟨v_9, ev_9⟩ : ∃ z : Int32, z = f_4 36 3 := ⟨_, rfl⟩
  have q_10 : 0 ≤ v_9.toInt ∧ v_9.toInt ≤ 19 := by rw [ev_9]; exact hI 36 3
  have q_11 : (f_4 36 3).toInt = v_9.toInt := (congrArg Int32.toInt (show f_4 36 3 = v_9 from ev_9.symm))
  have q_12 : (f_4 36 3).toInt = v_9.toInt := (congrArg Int32.toInt (show f_4 36 3 = v_9 from ev_9.symm))
  have k_13 : (7 : Int32).toInt = 7 := by decide
  have k_14 : (0 : Int32).toInt = 0 := by decide
  have k_15 : (4 : Int32).toInt = 4 := by decide
  refine lv_iconst (v := 2) hx hb dX3_runs_161 (by decide) ?_
  refine lv_imul hx hb dX3_runs_162 ?_
  refine lv_topi (fun v_16 ev_16 => ?_)
  have q_17 : (f_4 36 3).toInt = v_9.toInt := (congrArg Int32.toInt (show f_4 36 3 = v_9 from ev_9.symm))
  have q_18 : (f_4 36 3).toInt = v_9.toInt := (congrArg Int32.toInt (show f_4 36 3 = v_9 from ev_9.symm))
  exact hret _ _ _ _ (v_16) f_4 L Q dX3_runs_163 hP hS ⟨⟨hI, hF, rfl, rfl⟩, trivial, (by omega)⟩

abbrev WkX3_does_4_1_3_f3_f7 : List (Nat × Nat × Option Nat) := [(36, 36, some 3), (38, 38, none)]
set_option maxHeartbeats 4000000 in
set_option maxRecDepth 100000 in
theorem kX3_does_4_1_3_f3_f7 (l : Launch) (D : va_G) (ca : Nat → ClassId) (za h : Nat → Nat) (hh : sgH 52 h) (f : sg_F) (L : sg_L) (Q : sg_Q) (hI : sgI loX hiX f) (x2 : Int32) (hf_36_3 : f 36 3 = 3) (hf_36_4 : f 36 4 = 7) (p0 : 3 ≤ (f 36 3).toInt ∧ (f 36 3).toInt ≤ 3) (sz : Nat) : Met l yX3_does gwX3_does { frames := 5, cells := 0, slots := 0, locals := 124 } (sgP D vwCl (tyX ca) 52 h (eX ca h) zcX za f L Q sz [.ref (h 36), .int 4, .int 1, .int x2, .int 3]) (sgQi D vwCl 52 h (eX ca h) sz (fun r f1 L1 Q1 => ((sgI loX hiX f1 ∧ sgK WkX3_does_4_1_3_f3_f7 f f1 ∧ L1 = L ∧ Q1 = Q) ∧ True ∧ (6 ≤ (f1 36 3).toInt ∧ (f1 36 3).toInt ≤ 6)))) 0 0 (sgA 52 h sz) := by
  refine sg_ofWi (cc := cX3_does) (maxL := 7) RX3 (by decide) rfl rfl (Nat.le_of_ble_eq_true rfl) ?_
  intro p e s m below meth cd Qz ls hx hb hml hown hts hK hZ hP hS hl hret
  have hA := sgY.self (n := 52) (h := h) (sz := s.heap.size)
  have hl : lv_has ls 7 [(0, .ref (h 36)), (1, .int 4), (2, .int 1), (3, .int x2), (4, .int 3)] := hl
  obtain ⟨H, hH⟩ : ∃ z : Heap, z = s.heap := ⟨_, rfl⟩
  obtain ⟨locs, hlo⟩ : ∃ z : List Loc, z = [] := ⟨_, rfl⟩
  have hP : va_P D vwCl (sgw 52 h (eX ca h) f L Q) H := by rw [hH]; exact hP
  have hS : va_S (sgA 52 h s.heap.size) s.heap H locs := by rw [hH, hlo]; exact hS
  suffices hgo : W p l e ({ frames := 5, cells := 0, slots := 0, locals := 124 }) s m ([.ref (h 36), .int 4, .int 1, .int x2, .int 3] : List Value).toArray below meth cd H locs 0 0 Qz (F0 m 0 ls []) by rw [hH, hlo] at hgo; exact hgo
  clear hH hlo
  have o_1 : (f 36 3).toInt = 3 := (congrArg Int32.toInt (show f 36 3 = 3 from hf_36_3)).trans (by decide)
  have hF : sgK WkX3_does_4_1_3_f3_f7 f f := sgK.rf
  have blk_53 : ∀ (fp_53 : sg_F) (H : Heap) (locs : List Loc) (ls : Array Slot), 3 ≤ (fp_53 36 3).toInt ∧ (fp_53 36 3).toInt ≤ 3 → 7 ≤ (fp_53 36 4).toInt ∧ (fp_53 36 4).toInt ≤ 7 → sgI loX hiX fp_53 → sgK WkX3_does_4_1_3_f3_f7 f fp_53 → va_P D vwCl (sgw 52 h (eX ca h) fp_53 L Q) H → va_S (sgA 52 h s.heap.size) s.heap H locs → lv_has ls 7 [(0, .ref (h 36)), (3, .int x2), (4, .int 3), (5, .int 0), (6, .int 10)] → W p l e ({ frames := 5, cells := 0, slots := 0, locals := 124 }) s m ([.ref (h 36), .int 4, .int 1, .int x2, .int 3] : List Value).toArray below meth cd H locs 0 0 Qz (F0 m 53 ls []) := by
    intro fp_53 H locs ls hy0_53 hy1_53 hI hF hP hS hl
    obtain ⟨v_2, ev_2⟩ : ∃ z : Int32, z = fp_53 36 3 := ⟨_, rfl⟩
    have q_3 : 0 ≤ v_2.toInt ∧ v_2.toInt ≤ 19 := by rw [ev_2]; exact hI 36 3
    have q_4 : (fp_53 36 3).toInt = v_2.toInt := by rw [ev_2]
    obtain ⟨v_5, ev_5⟩ : ∃ z : Int32, z = fp_53 36 4 := ⟨_, rfl⟩
    have q_6 : 0 ≤ v_5.toInt ∧ v_5.toInt ≤ 7 := by rw [ev_5]; exact hI 36 4
    have q_7 : (fp_53 36 4).toInt = v_5.toInt := by rw [ev_5]
    have m_8 : fp_53 36 4 = 7 := (hF 36 4 (by decide)).trans hf_36_4
    refine lv_aload_n hx hb dX3_does_53 rfl (lv_at hl 0 rfl) ?_
    refine lv_dup hx hb dX3_does_54 rfl ?_
    refine sg_get (ci := 3) (v := .int v_2) (C := RX3) (T := TX3) (N := 6) hx hb hts (fun w h => List.mem_cons_of_mem _ (gx_3 w h)) hown hK hP 36 (by decide) rfl rfl 3 (by decide) (hts _ (List.mem_cons_of_mem _ mw_16)) (fun _ h9 => h9) (congrArg (fun z => some (Value.int z)) (show fp_53 36 3 = v_2 from ev_2.symm)) dX3_does_55 ?_
    refine lv_iconst (v := 1) hx hb dX3_does_58 (by decide) ?_
    refine lv_iadd hx hb dX3_does_59 ?_
    refine lv_topi (fun v_9 ev_9 => ?_)
    have q_10 : v_9.toInt = v_2.toInt + 1 := by rw [ev_9]; have k1 : (1 : Int32).toInt = 1 := (by decide); exact (bn_addI (by omega) (by omega)).trans (by omega)
    refine sg_put (ci := 3) (x := v_9) (ty := .int) (C := RX3) (T := TX3) (N := 6) hx hb hts (fun w h => List.mem_cons_of_mem _ (gx_3 w h)) tyX3 tyX3_ok nmX3 hown hh hA hK hP hS 36 (by decide) rfl rfl 3 (by decide) (hts _ (List.mem_cons_of_mem _ mw_16)) (fun _ h9 => h9) rfl rfl (by decide +kernel) rfl rfl (Nat.le_of_ble_eq_true rfl) dX3_does_60 (fun f_11 H locs ef_11 hP hS => ?_)
    have hI : sgI loX hiX f_11 := by rw [ef_11]; exact sgI.put hI 36 3 (show 0 ≤ (v_9 : Int32).toInt ∧ (v_9 : Int32).toInt ≤ 19 from by omega)
    have hF : sgK WkX3_does_4_1_3_f3_f7 f f_11 := sgK.put hF ef_11 (by rfl)
    refine lv_aload_n hx hb dX3_does_63 rfl (lv_at hl 0 rfl) ?_
    refine lv_iload hx hb dX3_does_64 (lv_at hl 4 rfl) ?_
    refine sg_gets hx hb hZ 2 rfl hS hown (hts _ (List.mem_cons_of_mem _ mw_174)) (fun _ h9 => h9) dX3_does_66 ?_
    refine lv_iload hx hb dX3_does_69 (lv_at hl 3 rfl) ?_
    refine sg_sald hx hb hZ 2 rfl hS (y := 0) (N := 8) (vp_in_iff.mpr (by decide)) dX3_does_71 ?_
    refine W.eq (g2 := F0 m 72 ls [.int (-1), .int 10, .ref (h 36)]) (by rfl) ?_
    refine lv_iload_n hx hb dX3_does_72 rfl (lv_at hl 1 rfl) ?_
    refine lv_iload hx hb dX3_does_73 (lv_at hl 2 rfl) ?_
    refine lv_iconst (v := 1) hx hb dX3_does_75 (by decide) ?_
    refine lv_iadd hx hb dX3_does_76 ?_
    refine W.eq (g2 := F0 m 77 ls [.int 4, .int x2, .int (-1), .int 10, .ref (h 36)]) (by rw [show (3 + 1 : Int32) = 4 from by decide]) ?_
    have c_12 : v_9 = 4 := Int32.toInt_inj.mp (by have k9 : (4 : Int32).toInt = 4 := (by decide); omega)
    have q_13 : (f_11 36 3).toInt = 4 := (congrArg Int32.toInt (show f_11 36 3 = 4 from (Eq.trans (by rw [ef_11, sg_up_s, sgu_s]) c_12))).trans (by decide)
    have q_14 : (f_11 36 3).toInt = 4 := (congrArg Int32.toInt (show f_11 36 3 = 4 from (Eq.trans (by rw [ef_11, sg_up_s, sgu_s]) c_12))).trans (by decide)
    refine sg_calli (va_runV (As := [.int 10, .int (-1), .int x2, .int 4]) (rest := []) ⟨hx, hb, hml, hown, hts⟩ (kX3_runs_10_m1_4_f4_f7 l D ca za h hh f_11 L Q hI x2 (Eq.trans (by rw [ef_11, sg_up_s, sgu_s]) c_12) (by rw [ef_11, sg_up_s, sgu_n (by decide)]; exact m_8) (by have k0 : (10 : Int32).toInt = 10 := (by decide); have k1 : ((-1) : Int32).toInt = (-1) := (by decide); have k3 : (4 : Int32).toInt = 4 := (by decide); omega) H.size) (cwV 4 hts (gw_V (fun _ h => List.mem_cons_of_mem _ h) mw_311 mw_312 mw_313 mw_47 mw_310) rfl rfl rfl (by decide +kernel) ⟨Nat.le_of_ble_eq_true rfl, Nat.le_of_ble_eq_true rfl⟩) (sg_preV (ci := 3) (C := RX3) (T := TX3) (N := 6) hA hK hP hS hZ 36 (by decide) rfl rfl) rfl rfl hl.1 rfl (lv_room (Nat.le_of_ble_eq_true rfl)) dX3_does_77 ⟨Nat.le_refl _, Nat.le_refl _⟩) hA hS (fun r_18 f_15 L_16 Q_17 H locs hq hP hS => ?_)
    obtain ⟨⟨hI, hk_f_15, eL9, eQ9⟩, hq, p_19⟩ := hq
    rw [eL9, eQ9] at hP; clear eL9 eQ9
    have hF : sgK WkX3_does_4_1_3_f3_f7 f f_15 := sgK.tr hF hk_f_15 (by decide)
    obtain ⟨v_20, ev_20⟩ : ∃ z : Int32, z = f_15 36 3 := ⟨_, rfl⟩
    have q_21 : 0 ≤ v_20.toInt ∧ v_20.toInt ≤ 19 := by rw [ev_20]; exact hI 36 3
    have q_22 : (f_15 36 3).toInt = v_20.toInt := (congrArg Int32.toInt (show f_15 36 3 = v_20 from ev_20.symm))
    have q_23 : (f_15 36 3).toInt = v_20.toInt := (congrArg Int32.toInt (show f_15 36 3 = v_20 from ev_20.symm))
    have k_24 : (10 : Int32).toInt = 10 := by decide
    have k_25 : ((-1) : Int32).toInt = (-1) := by decide
    have k_26 : (4 : Int32).toInt = 4 := by decide
    have q_27 : (f_15 36 3).toInt = v_20.toInt := (congrArg Int32.toInt (show f_15 36 3 = v_20 from ev_20.symm))
    have q_28 : (f_15 36 3).toInt = v_20.toInt := (congrArg Int32.toInt (show f_15 36 3 = v_20 from ev_20.symm))
    exact hret _ _ _ _ (r_18) f_15 L Q dX3_does_80 hP hS ⟨⟨hI, hF, rfl, rfl⟩, trivial, (by omega)⟩
  refine lv_iload_n hx hb dX3_does_0 rfl (lv_at hl 1 rfl) ?_
  refine lv_iload_n hx hb dX3_does_1 rfl (lv_at hl 2 rfl) ?_
  refine sg_calli (va_runS (As := [.int 4, .int 1]) (rest := []) ⟨hx, hb, hml, hown, hts⟩ (kX3_ownerOf_4_1 l D ca za h hh f L Q hI H.size) (va_cwS 2 hts (gw_S (fun _ h => List.mem_cons_of_mem _ h) mw_189 mw_190 mw_47 mw_188) rfl rfl rfl (by decide +kernel) ⟨Nat.le_of_ble_eq_true rfl, Nat.le_of_ble_eq_true rfl⟩) (sg_preS hA hK hP hS hZ) rfl rfl hl.1 rfl (lv_room (Nat.le_of_ble_eq_true rfl)) dX3_does_2 ⟨Nat.le_refl _, Nat.le_refl _⟩) hA hS (fun r_32 f_29 L_30 Q_31 H locs hq hP hS => ?_)
  obtain ⟨⟨ef9, eL9, eQ9⟩, hq⟩ := hq
  rw [ef9, eL9, eQ9] at hP; clear ef9 eL9 eQ9
  obtain rfl : r_32 = 0 := Int32.toInt_inj.mp (by have k9 : (0 : Int32).toInt = 0 := (by decide); omega)
  refine lv_istore (lv' := [(5, .int 0), (0, .ref (h 36)), (1, .int 4), (2, .int 1), (3, .int x2), (4, .int 3)]) hx hb dX3_does_5 hl (by decide) rfl (fun ls hl => ?_)
  refine lv_iload hx hb dX3_does_7 (lv_at hl 0 rfl) ?_
  refine lv_if_lt (tgt := 19) hx hb dX3_does_9 (by decide) (fun c => absurd c (by decide)) (fun c => ?_)
  refine lv_iload hx hb dX3_does_12 (lv_at hl 5 rfl) ?_
  refine lv_bipush (v := 40) hx hb dX3_does_14 (by decide) ?_
  refine lv_icmp_le (tgt := 21) hx hb dX3_does_16 (by decide) (fun c => ?_) (fun c => absurd c (by decide))
  refine sg_gets hx hb hZ 3 rfl hS hown (hts _ (List.mem_cons_of_mem _ mw_173)) (fun _ h9 => h9) dX3_does_21 ?_
  refine lv_iload hx hb dX3_does_24 (lv_at hl 0 rfl) ?_
  refine lv_iconst (v := 4) hx hb dX3_does_26 (by decide) ?_
  refine lv_imul hx hb dX3_does_27 ?_
  refine W.eq (g2 := F0 m 28 ls [.int 0, .ref (za 3)]) (by rw [show (0 * 4 : Int32) = 0 from by decide]) ?_
  refine lv_iload_n hx hb dX3_does_28 rfl (lv_at hl 3 rfl) ?_
  refine lv_iadd hx hb dX3_does_29 ?_
  refine W.eq (g2 := F0 m 30 ls [.int 1, .ref (za 3)]) (by rw [show (0 + 1 : Int32) = 1 from by decide]) ?_
  refine sg_sald hx hb hZ 3 rfl hS (y := 1) (N := 32) (vp_in_iff.mpr (by decide)) dX3_does_30 ?_
  refine W.eq (g2 := F0 m 31 ls [.int 10]) (by rfl) ?_
  refine lv_istore (lv' := [(6, .int 10), (5, .int 0), (0, .ref (h 36)), (1, .int 4), (2, .int 1), (3, .int x2), (4, .int 3)]) hx hb dX3_does_31 hl (by decide) rfl (fun ls hl => ?_)
  refine lv_aload_n hx hb dX3_does_33 rfl (lv_at hl 2 rfl) ?_
  refine sg_get (ci := 3) (v := .int 3) (C := RX3) (T := TX3) (N := 6) hx hb hts (fun w h => List.mem_cons_of_mem _ (gx_3 w h)) hown hK hP 36 (by decide) rfl rfl 3 (by decide) (hts _ (List.mem_cons_of_mem _ mw_16)) (fun _ h9 => h9) (congrArg (fun z => some (Value.int z)) (show f 36 3 = 3 from hf_36_3)) dX3_does_34 ?_
  refine lv_bipush (v := 24) hx hb dX3_does_37 (by decide) ?_
  refine lv_icmp_ge (tgt := 53) hx hb dX3_does_39 (by decide) (fun c => absurd c (by decide)) (fun c => ?_)
  refine lv_aload_n hx hb dX3_does_42 rfl (lv_at hl 2 rfl) ?_
  refine sg_get (ci := 3) (v := .ref (h 38)) (C := RX3) (T := TX3) (N := 6) hx hb hts (fun w h => List.mem_cons_of_mem _ (gx_3 w h)) hown hK hP 36 (by decide) rfl rfl 1 (by decide) (hts _ (List.mem_cons_of_mem _ mw_191)) (fun _ h9 => h9) rfl dX3_does_43 ?_
  refine lv_aload_n hx hb dX3_does_46 rfl (lv_at hl 2 rfl) ?_
  refine sg_get (ci := 3) (v := .int 3) (C := RX3) (T := TX3) (N := 6) hx hb hts (fun w h => List.mem_cons_of_mem _ (gx_3 w h)) hown hK hP 36 (by decide) rfl rfl 3 (by decide) (hts _ (List.mem_cons_of_mem _ mw_16)) (fun _ h9 => h9) (congrArg (fun z => some (Value.int z)) (show f 36 3 = 3 from hf_36_3)) dX3_does_47 ?_
  refine lv_iload hx hb dX3_does_50 (lv_at hl 0 rfl) ?_
  refine sg_iast hx hb hh hA hK hP hS 38 (by decide) 0 (fun _ => rfl) rfl (i := 3) (x := 10) (vp_in_iff.mpr (by decide)) dX3_does_52 (fun f_33 H locs ef_33 hP hS => ?_)
  have hI : sgI loX hiX f_33 := by rw [ef_33]; exact sgI.put hI 38 (Int32.toNatClampNeg 3) (show 0 ≤ (10 : Int32).toInt ∧ (10 : Int32).toInt ≤ 81 from by decide)
  have hF : sgK WkX3_does_4_1_3_f3_f7 f f_33 := sgK.put hF ef_33 (by rfl)
  exact blk_53 f_33 _ _ _ (by have zz36_3 : (f_33 36 3).toInt = 3 := (congrArg Int32.toInt (show f_33 36 3 = 3 from (by rw [ef_33, sg_up_n (by decide)]; exact hf_36_3))).trans (by decide); omega) (by have zz36_4 : (f_33 36 4).toInt = 7 := (congrArg Int32.toInt (show f_33 36 4 = 7 from (by rw [ef_33, sg_up_n (by decide)]; exact hf_36_4))).trans (by decide); omega) hI hF hP hS (lv_sub hl [2, 5, 6, 1, 0] rfl)

set_option maxHeartbeats 4000000 in
set_option maxRecDepth 100000 in
theorem kX3_runs_11_m1_5_f8_f7 (l : Launch) (D : va_G) (ca : Nat → ClassId) (za h : Nat → Nat) (hh : sgH 52 h) (f : sg_F) (L : sg_L) (Q : sg_Q) (hI : sgI loX hiX f) (x2 : Int32) (hf_36_3 : f 36 3 = 8) (hf_36_4 : f 36 4 = 7) (b2 : 2 ≤ x2.toInt ∧ x2.toInt ≤ 2) (p0 : 8 ≤ (f 36 3).toInt ∧ (f 36 3).toInt ≤ 8) (sz : Nat) : Met l yX3_runs gwX3_runs { frames := 0, cells := 0, slots := 0, locals := 0 } (sgP D vwCl (tyX ca) 52 h (eX ca h) zcX za f L Q sz [.ref (h 36), .int 11, .int (-1), .int x2, .int 5]) (sgQi D vwCl 52 h (eX ca h) sz (fun r f1 L1 Q1 => ((f1 = f ∧ L1 = L ∧ Q1 = Q) ∧ True ∧ (8 ≤ (f1 36 3).toInt ∧ (f1 36 3).toInt ≤ 8)))) 0 0 (sgA 52 h sz) := by
  refine sg_ofWi (cc := cX3_runs) (maxL := 5) RX3 (by decide) rfl rfl (Nat.le_of_ble_eq_true rfl) ?_
  intro p e s m below meth cd Qz ls hx hb hml hown hts hK hZ hP hS hl hret
  have hA := sgY.self (n := 52) (h := h) (sz := s.heap.size)
  have hl : lv_has ls 5 [(0, .ref (h 36)), (1, .int 11), (2, .int (-1)), (3, .int x2), (4, .int 5)] := hl
  obtain ⟨H, hH⟩ : ∃ z : Heap, z = s.heap := ⟨_, rfl⟩
  obtain ⟨locs, hlo⟩ : ∃ z : List Loc, z = [] := ⟨_, rfl⟩
  have hP : va_P D vwCl (sgw 52 h (eX ca h) f L Q) H := by rw [hH]; exact hP
  have hS : va_S (sgA 52 h s.heap.size) s.heap H locs := by rw [hH, hlo]; exact hS
  suffices hgo : W p l e ({ frames := 0, cells := 0, slots := 0, locals := 0 }) s m ([.ref (h 36), .int 11, .int (-1), .int x2, .int 5] : List Value).toArray below meth cd H locs 0 0 Qz (F0 m 0 ls []) by rw [hH, hlo] at hgo; exact hgo
  clear hH hlo
  have o_1 : (f 36 3).toInt = 8 := (congrArg Int32.toInt (show f 36 3 = 8 from hf_36_3)).trans (by decide)
  refine lv_iload_n hx hb dX3_runs_0 rfl (lv_at hl 1 rfl) ?_
  refine lv_lookup (x := 11) (off := 163) (tgt := 164) hx hb dX3_runs_1 (by decide) (by decide) (by decide) ?_
  refine lv_iload_n hx hb dX3_runs_164 rfl (lv_at hl 3 rfl) ?_
  refine lv_aload_n hx hb dX3_runs_165 rfl (lv_at hl 0 rfl) ?_
  refine sg_get (ci := 3) (v := .int (f 36 5)) (C := RX3) (T := TX3) (N := 6) hx hb hts (fun w h => List.mem_cons_of_mem _ (gx_3 w h)) hown hK hP 36 (by decide) rfl rfl 5 (by decide) (hts _ (List.mem_cons_of_mem _ mw_106)) (fun _ h9 => h9) rfl dX3_runs_166 ?_
  refine lv_topi (fun v_2 ev_2 => ?_)
  have q_3 : 0 ≤ v_2.toInt ∧ v_2.toInt ≤ 49 := by rw [ev_2]; exact hI 36 5
  refine lv_ixor hx hb dX3_runs_169 ?_
  refine lv_topi (fun v_4 ev_4 => ?_)
  have q_5 : (f 36 3).toInt = 8 := (congrArg Int32.toInt (show f 36 3 = 8 from hf_36_3)).trans (by decide)
  have q_6 : (f 36 3).toInt = 8 := (congrArg Int32.toInt (show f 36 3 = 8 from hf_36_3)).trans (by decide)
  exact hret _ _ _ _ (v_4) f L Q dX3_runs_170 hP hS ⟨⟨rfl, rfl, rfl⟩, trivial, (by omega)⟩

abbrev WkX3_does_1_2_4_f7_f7 : List (Nat × Nat × Option Nat) := [(36, 36, some 3), (38, 38, none)]
set_option maxHeartbeats 4000000 in
set_option maxRecDepth 100000 in
theorem kX3_does_1_2_4_f7_f7 (l : Launch) (D : va_G) (ca : Nat → ClassId) (za h : Nat → Nat) (hh : sgH 52 h) (f : sg_F) (L : sg_L) (Q : sg_Q) (hI : sgI loX hiX f) (x2 : Int32) (hf_36_3 : f 36 3 = 7) (hf_36_4 : f 36 4 = 7) (b2 : 2 ≤ x2.toInt ∧ x2.toInt ≤ 2) (p0 : 7 ≤ (f 36 3).toInt ∧ (f 36 3).toInt ≤ 7) (sz : Nat) : Met l yX3_does gwX3_does { frames := 1, cells := 0, slots := 0, locals := 24 } (sgP D vwCl (tyX ca) 52 h (eX ca h) zcX za f L Q sz [.ref (h 36), .int 1, .int 2, .int x2, .int 4]) (sgQi D vwCl 52 h (eX ca h) sz (fun r f1 L1 Q1 => ((sgI loX hiX f1 ∧ sgK WkX3_does_1_2_4_f7_f7 f f1 ∧ L1 = L ∧ Q1 = Q) ∧ True ∧ (8 ≤ (f1 36 3).toInt ∧ (f1 36 3).toInt ≤ 8)))) 0 0 (sgA 52 h sz) := by
  refine sg_ofWi (cc := cX3_does) (maxL := 7) RX3 (by decide) rfl rfl (Nat.le_of_ble_eq_true rfl) ?_
  intro p e s m below meth cd Qz ls hx hb hml hown hts hK hZ hP hS hl hret
  have hA := sgY.self (n := 52) (h := h) (sz := s.heap.size)
  have hl : lv_has ls 7 [(0, .ref (h 36)), (1, .int 1), (2, .int 2), (3, .int x2), (4, .int 4)] := hl
  obtain ⟨H, hH⟩ : ∃ z : Heap, z = s.heap := ⟨_, rfl⟩
  obtain ⟨locs, hlo⟩ : ∃ z : List Loc, z = [] := ⟨_, rfl⟩
  have hP : va_P D vwCl (sgw 52 h (eX ca h) f L Q) H := by rw [hH]; exact hP
  have hS : va_S (sgA 52 h s.heap.size) s.heap H locs := by rw [hH, hlo]; exact hS
  suffices hgo : W p l e ({ frames := 1, cells := 0, slots := 0, locals := 24 }) s m ([.ref (h 36), .int 1, .int 2, .int x2, .int 4] : List Value).toArray below meth cd H locs 0 0 Qz (F0 m 0 ls []) by rw [hH, hlo] at hgo; exact hgo
  clear hH hlo
  have o_1 : (f 36 3).toInt = 7 := (congrArg Int32.toInt (show f 36 3 = 7 from hf_36_3)).trans (by decide)
  have hF : sgK WkX3_does_1_2_4_f7_f7 f f := sgK.rf
  have blk_53 : ∀ (fp_53 : sg_F) (H : Heap) (locs : List Loc) (ls : Array Slot), 7 ≤ (fp_53 36 3).toInt ∧ (fp_53 36 3).toInt ≤ 7 → 7 ≤ (fp_53 36 4).toInt ∧ (fp_53 36 4).toInt ≤ 7 → sgI loX hiX fp_53 → sgK WkX3_does_1_2_4_f7_f7 f fp_53 → va_P D vwCl (sgw 52 h (eX ca h) fp_53 L Q) H → va_S (sgA 52 h s.heap.size) s.heap H locs → lv_has ls 7 [(0, .ref (h 36)), (3, .int x2), (4, .int 4), (5, .int 0), (6, .int 11)] → W p l e ({ frames := 1, cells := 0, slots := 0, locals := 24 }) s m ([.ref (h 36), .int 1, .int 2, .int x2, .int 4] : List Value).toArray below meth cd H locs 0 0 Qz (F0 m 53 ls []) := by
    intro fp_53 H locs ls hy0_53 hy1_53 hI hF hP hS hl
    obtain ⟨v_2, ev_2⟩ : ∃ z : Int32, z = fp_53 36 3 := ⟨_, rfl⟩
    have q_3 : 0 ≤ v_2.toInt ∧ v_2.toInt ≤ 19 := by rw [ev_2]; exact hI 36 3
    have q_4 : (fp_53 36 3).toInt = v_2.toInt := by rw [ev_2]
    obtain ⟨v_5, ev_5⟩ : ∃ z : Int32, z = fp_53 36 4 := ⟨_, rfl⟩
    have q_6 : 0 ≤ v_5.toInt ∧ v_5.toInt ≤ 7 := by rw [ev_5]; exact hI 36 4
    have q_7 : (fp_53 36 4).toInt = v_5.toInt := by rw [ev_5]
    have m_8 : fp_53 36 4 = 7 := (hF 36 4 (by decide)).trans hf_36_4
    refine lv_aload_n hx hb dX3_does_53 rfl (lv_at hl 0 rfl) ?_
    refine lv_dup hx hb dX3_does_54 rfl ?_
    refine sg_get (ci := 3) (v := .int v_2) (C := RX3) (T := TX3) (N := 6) hx hb hts (fun w h => List.mem_cons_of_mem _ (gx_3 w h)) hown hK hP 36 (by decide) rfl rfl 3 (by decide) (hts _ (List.mem_cons_of_mem _ mw_16)) (fun _ h9 => h9) (congrArg (fun z => some (Value.int z)) (show fp_53 36 3 = v_2 from ev_2.symm)) dX3_does_55 ?_
    refine lv_iconst (v := 1) hx hb dX3_does_58 (by decide) ?_
    refine lv_iadd hx hb dX3_does_59 ?_
    refine lv_topi (fun v_9 ev_9 => ?_)
    have q_10 : v_9.toInt = v_2.toInt + 1 := by rw [ev_9]; have k1 : (1 : Int32).toInt = 1 := (by decide); exact (bn_addI (by omega) (by omega)).trans (by omega)
    refine sg_put (ci := 3) (x := v_9) (ty := .int) (C := RX3) (T := TX3) (N := 6) hx hb hts (fun w h => List.mem_cons_of_mem _ (gx_3 w h)) tyX3 tyX3_ok nmX3 hown hh hA hK hP hS 36 (by decide) rfl rfl 3 (by decide) (hts _ (List.mem_cons_of_mem _ mw_16)) (fun _ h9 => h9) rfl rfl (by decide +kernel) rfl rfl (Nat.le_of_ble_eq_true rfl) dX3_does_60 (fun f_11 H locs ef_11 hP hS => ?_)
    have hI : sgI loX hiX f_11 := by rw [ef_11]; exact sgI.put hI 36 3 (show 0 ≤ (v_9 : Int32).toInt ∧ (v_9 : Int32).toInt ≤ 19 from by omega)
    have hF : sgK WkX3_does_1_2_4_f7_f7 f f_11 := sgK.put hF ef_11 (by rfl)
    refine lv_aload_n hx hb dX3_does_63 rfl (lv_at hl 0 rfl) ?_
    refine lv_iload hx hb dX3_does_64 (lv_at hl 4 rfl) ?_
    refine sg_gets hx hb hZ 2 rfl hS hown (hts _ (List.mem_cons_of_mem _ mw_174)) (fun _ h9 => h9) dX3_does_66 ?_
    refine lv_iload hx hb dX3_does_69 (lv_at hl 3 rfl) ?_
    refine sg_sald hx hb hZ 2 rfl hS (y := 0) (N := 8) (vp_in_iff.mpr (by decide)) dX3_does_71 ?_
    refine W.eq (g2 := F0 m 72 ls [.int (-1), .int 11, .ref (h 36)]) (by rfl) ?_
    refine lv_iload_n hx hb dX3_does_72 rfl (lv_at hl 1 rfl) ?_
    refine lv_iload hx hb dX3_does_73 (lv_at hl 2 rfl) ?_
    refine lv_iconst (v := 1) hx hb dX3_does_75 (by decide) ?_
    refine lv_iadd hx hb dX3_does_76 ?_
    refine W.eq (g2 := F0 m 77 ls [.int 5, .int x2, .int (-1), .int 11, .ref (h 36)]) (by rw [show (4 + 1 : Int32) = 5 from by decide]) ?_
    have c_12 : v_9 = 8 := Int32.toInt_inj.mp (by have k9 : (8 : Int32).toInt = 8 := (by decide); omega)
    have q_13 : (f_11 36 3).toInt = 8 := (congrArg Int32.toInt (show f_11 36 3 = 8 from (Eq.trans (by rw [ef_11, sg_up_s, sgu_s]) c_12))).trans (by decide)
    have q_14 : (f_11 36 3).toInt = 8 := (congrArg Int32.toInt (show f_11 36 3 = 8 from (Eq.trans (by rw [ef_11, sg_up_s, sgu_s]) c_12))).trans (by decide)
    refine sg_calli (va_runV (As := [.int 11, .int (-1), .int x2, .int 5]) (rest := []) ⟨hx, hb, hml, hown, hts⟩ (kX3_runs_11_m1_5_f8_f7 l D ca za h hh f_11 L Q hI x2 (Eq.trans (by rw [ef_11, sg_up_s, sgu_s]) c_12) (by rw [ef_11, sg_up_s, sgu_n (by decide)]; exact m_8) (by omega) (by have k0 : (11 : Int32).toInt = 11 := (by decide); have k1 : ((-1) : Int32).toInt = (-1) := (by decide); have k3 : (5 : Int32).toInt = 5 := (by decide); omega) H.size) (cwV 4 hts (gw_V (fun _ h => List.mem_cons_of_mem _ h) mw_311 mw_312 mw_313 mw_47 mw_310) rfl rfl rfl (by decide +kernel) ⟨Nat.le_of_ble_eq_true rfl, Nat.le_of_ble_eq_true rfl⟩) (sg_preV (ci := 3) (C := RX3) (T := TX3) (N := 6) hA hK hP hS hZ 36 (by decide) rfl rfl) rfl rfl hl.1 rfl (lv_room (Nat.le_of_ble_eq_true rfl)) dX3_does_77 ⟨Nat.le_refl _, Nat.le_refl _⟩) hA hS (fun r_18 f_15 L_16 Q_17 H locs hq hP hS => ?_)
    obtain ⟨⟨ef9, eL9, eQ9⟩, hq, p_19⟩ := hq
    rw [ef9, eL9, eQ9] at hP; clear ef9 eL9 eQ9
    have q_20 : (f_11 36 3).toInt = 8 := (congrArg Int32.toInt (show f_11 36 3 = 8 from (Eq.trans (by rw [ef_11, sg_up_s, sgu_s]) c_12))).trans (by decide)
    have q_21 : (f_11 36 3).toInt = 8 := (congrArg Int32.toInt (show f_11 36 3 = 8 from (Eq.trans (by rw [ef_11, sg_up_s, sgu_s]) c_12))).trans (by decide)
    have k_22 : (11 : Int32).toInt = 11 := by decide
    have k_23 : ((-1) : Int32).toInt = (-1) := by decide
    have k_24 : (5 : Int32).toInt = 5 := by decide
    have q_25 : (f_11 36 3).toInt = 8 := (congrArg Int32.toInt (show f_11 36 3 = 8 from (Eq.trans (by rw [ef_11, sg_up_s, sgu_s]) c_12))).trans (by decide)
    have q_26 : (f_11 36 3).toInt = 8 := (congrArg Int32.toInt (show f_11 36 3 = 8 from (Eq.trans (by rw [ef_11, sg_up_s, sgu_s]) c_12))).trans (by decide)
    exact hret _ _ _ _ (r_18) f_11 L Q dX3_does_80 hP hS ⟨⟨hI, hF, rfl, rfl⟩, trivial, (by omega)⟩
  refine lv_iload_n hx hb dX3_does_0 rfl (lv_at hl 1 rfl) ?_
  refine lv_iload_n hx hb dX3_does_1 rfl (lv_at hl 2 rfl) ?_
  refine sg_calli (va_runS (As := [.int 1, .int 2]) (rest := []) ⟨hx, hb, hml, hown, hts⟩ (kX3_ownerOf_1_2 l D ca za h hh f L Q hI H.size) (va_cwS 2 hts (gw_S (fun _ h => List.mem_cons_of_mem _ h) mw_189 mw_190 mw_47 mw_188) rfl rfl rfl (by decide +kernel) ⟨Nat.le_of_ble_eq_true rfl, Nat.le_of_ble_eq_true rfl⟩) (sg_preS hA hK hP hS hZ) rfl rfl hl.1 rfl (lv_room (Nat.le_of_ble_eq_true rfl)) dX3_does_2 ⟨Nat.le_refl _, Nat.le_refl _⟩) hA hS (fun r_30 f_27 L_28 Q_29 H locs hq hP hS => ?_)
  obtain ⟨⟨ef9, eL9, eQ9⟩, hq⟩ := hq
  rw [ef9, eL9, eQ9] at hP; clear ef9 eL9 eQ9
  obtain rfl : r_30 = 0 := Int32.toInt_inj.mp (by have k9 : (0 : Int32).toInt = 0 := (by decide); omega)
  refine lv_istore (lv' := [(5, .int 0), (0, .ref (h 36)), (1, .int 1), (2, .int 2), (3, .int x2), (4, .int 4)]) hx hb dX3_does_5 hl (by decide) rfl (fun ls hl => ?_)
  refine lv_iload hx hb dX3_does_7 (lv_at hl 0 rfl) ?_
  refine lv_if_lt (tgt := 19) hx hb dX3_does_9 (by decide) (fun c => absurd c (by decide)) (fun c => ?_)
  refine lv_iload hx hb dX3_does_12 (lv_at hl 5 rfl) ?_
  refine lv_bipush (v := 40) hx hb dX3_does_14 (by decide) ?_
  refine lv_icmp_le (tgt := 21) hx hb dX3_does_16 (by decide) (fun c => ?_) (fun c => absurd c (by decide))
  refine sg_gets hx hb hZ 3 rfl hS hown (hts _ (List.mem_cons_of_mem _ mw_173)) (fun _ h9 => h9) dX3_does_21 ?_
  refine lv_iload hx hb dX3_does_24 (lv_at hl 0 rfl) ?_
  refine lv_iconst (v := 4) hx hb dX3_does_26 (by decide) ?_
  refine lv_imul hx hb dX3_does_27 ?_
  refine W.eq (g2 := F0 m 28 ls [.int 0, .ref (za 3)]) (by rw [show (0 * 4 : Int32) = 0 from by decide]) ?_
  refine lv_iload_n hx hb dX3_does_28 rfl (lv_at hl 3 rfl) ?_
  refine lv_iadd hx hb dX3_does_29 ?_
  refine W.eq (g2 := F0 m 30 ls [.int 2, .ref (za 3)]) (by rw [show (0 + 2 : Int32) = 2 from by decide]) ?_
  refine sg_sald hx hb hZ 3 rfl hS (y := 2) (N := 32) (vp_in_iff.mpr (by decide)) dX3_does_30 ?_
  refine W.eq (g2 := F0 m 31 ls [.int 11]) (by rfl) ?_
  refine lv_istore (lv' := [(6, .int 11), (5, .int 0), (0, .ref (h 36)), (1, .int 1), (2, .int 2), (3, .int x2), (4, .int 4)]) hx hb dX3_does_31 hl (by decide) rfl (fun ls hl => ?_)
  refine lv_aload_n hx hb dX3_does_33 rfl (lv_at hl 2 rfl) ?_
  refine sg_get (ci := 3) (v := .int 7) (C := RX3) (T := TX3) (N := 6) hx hb hts (fun w h => List.mem_cons_of_mem _ (gx_3 w h)) hown hK hP 36 (by decide) rfl rfl 3 (by decide) (hts _ (List.mem_cons_of_mem _ mw_16)) (fun _ h9 => h9) (congrArg (fun z => some (Value.int z)) (show f 36 3 = 7 from hf_36_3)) dX3_does_34 ?_
  refine lv_bipush (v := 24) hx hb dX3_does_37 (by decide) ?_
  refine lv_icmp_ge (tgt := 53) hx hb dX3_does_39 (by decide) (fun c => absurd c (by decide)) (fun c => ?_)
  refine lv_aload_n hx hb dX3_does_42 rfl (lv_at hl 2 rfl) ?_
  refine sg_get (ci := 3) (v := .ref (h 38)) (C := RX3) (T := TX3) (N := 6) hx hb hts (fun w h => List.mem_cons_of_mem _ (gx_3 w h)) hown hK hP 36 (by decide) rfl rfl 1 (by decide) (hts _ (List.mem_cons_of_mem _ mw_191)) (fun _ h9 => h9) rfl dX3_does_43 ?_
  refine lv_aload_n hx hb dX3_does_46 rfl (lv_at hl 2 rfl) ?_
  refine sg_get (ci := 3) (v := .int 7) (C := RX3) (T := TX3) (N := 6) hx hb hts (fun w h => List.mem_cons_of_mem _ (gx_3 w h)) hown hK hP 36 (by decide) rfl rfl 3 (by decide) (hts _ (List.mem_cons_of_mem _ mw_16)) (fun _ h9 => h9) (congrArg (fun z => some (Value.int z)) (show f 36 3 = 7 from hf_36_3)) dX3_does_47 ?_
  refine lv_iload hx hb dX3_does_50 (lv_at hl 0 rfl) ?_
  refine sg_iast hx hb hh hA hK hP hS 38 (by decide) 0 (fun _ => rfl) rfl (i := 7) (x := 11) (vp_in_iff.mpr (by decide)) dX3_does_52 (fun f_31 H locs ef_31 hP hS => ?_)
  have hI : sgI loX hiX f_31 := by rw [ef_31]; exact sgI.put hI 38 (Int32.toNatClampNeg 7) (show 0 ≤ (11 : Int32).toInt ∧ (11 : Int32).toInt ≤ 81 from by decide)
  have hF : sgK WkX3_does_1_2_4_f7_f7 f f_31 := sgK.put hF ef_31 (by rfl)
  exact blk_53 f_31 _ _ _ (by have zz36_3 : (f_31 36 3).toInt = 7 := (congrArg Int32.toInt (show f_31 36 3 = 7 from (by rw [ef_31, sg_up_n (by decide)]; exact hf_36_3))).trans (by decide); omega) (by have zz36_4 : (f_31 36 4).toInt = 7 := (congrArg Int32.toInt (show f_31 36 4 = 7 from (by rw [ef_31, sg_up_n (by decide)]; exact hf_36_4))).trans (by decide); omega) hI hF hP hS (lv_sub hl [2, 5, 6, 1, 0] rfl)

set_option maxHeartbeats 4000000 in
set_option maxRecDepth 100000 in
theorem kX3_runs_1_m1_6_f10_f7 (l : Launch) (D : va_G) (ca : Nat → ClassId) (za h : Nat → Nat) (hh : sgH 52 h) (f : sg_F) (L : sg_L) (Q : sg_Q) (hI : sgI loX hiX f) (x2 : Int32) (hf_36_3 : f 36 3 = 10) (hf_36_4 : f 36 4 = 7) (b2 : 2 ≤ x2.toInt ∧ x2.toInt ≤ 2) (p0 : 10 ≤ (f 36 3).toInt ∧ (f 36 3).toInt ≤ 10) (sz : Nat) : Met l yX3_runs gwX3_runs { frames := 0, cells := 0, slots := 0, locals := 0 } (sgP D vwCl (tyX ca) 52 h (eX ca h) zcX za f L Q sz [.ref (h 36), .int 1, .int (-1), .int x2, .int 6]) (sgQi D vwCl 52 h (eX ca h) sz (fun r f1 L1 Q1 => ((f1 = f ∧ L1 = L ∧ Q1 = Q) ∧ (2 ≤ r.toInt ∧ r.toInt ≤ 51) ∧ (10 ≤ (f1 36 3).toInt ∧ (f1 36 3).toInt ≤ 10)))) 0 0 (sgA 52 h sz) := by
  refine sg_ofWi (cc := cX3_runs) (maxL := 5) RX3 (by decide) rfl rfl (Nat.le_of_ble_eq_true rfl) ?_
  intro p e s m below meth cd Qz ls hx hb hml hown hts hK hZ hP hS hl hret
  have hA := sgY.self (n := 52) (h := h) (sz := s.heap.size)
  have hl : lv_has ls 5 [(0, .ref (h 36)), (1, .int 1), (2, .int (-1)), (3, .int x2), (4, .int 6)] := hl
  obtain ⟨H, hH⟩ : ∃ z : Heap, z = s.heap := ⟨_, rfl⟩
  obtain ⟨locs, hlo⟩ : ∃ z : List Loc, z = [] := ⟨_, rfl⟩
  have hP : va_P D vwCl (sgw 52 h (eX ca h) f L Q) H := by rw [hH]; exact hP
  have hS : va_S (sgA 52 h s.heap.size) s.heap H locs := by rw [hH, hlo]; exact hS
  suffices hgo : W p l e ({ frames := 0, cells := 0, slots := 0, locals := 0 }) s m ([.ref (h 36), .int 1, .int (-1), .int x2, .int 6] : List Value).toArray below meth cd H locs 0 0 Qz (F0 m 0 ls []) by rw [hH, hlo] at hgo; exact hgo
  clear hH hlo
  have o_1 : (f 36 3).toInt = 10 := (congrArg Int32.toInt (show f 36 3 = 10 from hf_36_3)).trans (by decide)
  refine lv_iload_n hx hb dX3_runs_0 rfl (lv_at hl 1 rfl) ?_
  refine lv_lookup (x := 1) (off := 115) (tgt := 116) hx hb dX3_runs_1 (by decide) (by decide) (by decide) ?_
  refine lv_iload_n hx hb dX3_runs_116 rfl (lv_at hl 3 rfl) ?_
  refine lv_aload_n hx hb dX3_runs_117 rfl (lv_at hl 0 rfl) ?_
  refine sg_get (ci := 3) (v := .int (f 36 5)) (C := RX3) (T := TX3) (N := 6) hx hb hts (fun w h => List.mem_cons_of_mem _ (gx_3 w h)) hown hK hP 36 (by decide) rfl rfl 5 (by decide) (hts _ (List.mem_cons_of_mem _ mw_106)) (fun _ h9 => h9) rfl dX3_runs_118 ?_
  refine lv_topi (fun v_2 ev_2 => ?_)
  have q_3 : 0 ≤ v_2.toInt ∧ v_2.toInt ≤ 49 := by rw [ev_2]; exact hI 36 5
  refine lv_iadd hx hb dX3_runs_121 ?_
  refine lv_topi (fun v_4 ev_4 => ?_)
  have q_5 : v_4.toInt = x2.toInt + v_2.toInt := by rw [ev_4]; exact (bn_addI (by omega) (by omega)).trans (by omega)
  have q_6 : (f 36 3).toInt = 10 := (congrArg Int32.toInt (show f 36 3 = 10 from hf_36_3)).trans (by decide)
  have q_7 : (f 36 3).toInt = 10 := (congrArg Int32.toInt (show f 36 3 = 10 from hf_36_3)).trans (by decide)
  exact hret _ _ _ _ (v_4) f L Q dX3_runs_122 hP hS ⟨⟨rfl, rfl, rfl⟩, (by omega), (by omega)⟩

abbrev WkX3_does_0_0_5_f9_f7 : List (Nat × Nat × Option Nat) := [(36, 36, some 3), (38, 38, none)]
set_option maxHeartbeats 4000000 in
set_option maxRecDepth 100000 in
theorem kX3_does_0_0_5_f9_f7 (l : Launch) (D : va_G) (ca : Nat → ClassId) (za h : Nat → Nat) (hh : sgH 52 h) (f : sg_F) (L : sg_L) (Q : sg_Q) (hI : sgI loX hiX f) (x2 : Int32) (hf_36_3 : f 36 3 = 9) (hf_36_4 : f 36 4 = 7) (b2 : 2 ≤ x2.toInt ∧ x2.toInt ≤ 2) (p0 : 9 ≤ (f 36 3).toInt ∧ (f 36 3).toInt ≤ 9) (sz : Nat) : Met l yX3_does gwX3_does { frames := 1, cells := 0, slots := 0, locals := 24 } (sgP D vwCl (tyX ca) 52 h (eX ca h) zcX za f L Q sz [.ref (h 36), .int 0, .int 0, .int x2, .int 5]) (sgQi D vwCl 52 h (eX ca h) sz (fun r f1 L1 Q1 => ((sgI loX hiX f1 ∧ sgK WkX3_does_0_0_5_f9_f7 f f1 ∧ L1 = L ∧ Q1 = Q) ∧ (2 ≤ r.toInt ∧ r.toInt ≤ 51) ∧ (10 ≤ (f1 36 3).toInt ∧ (f1 36 3).toInt ≤ 10)))) 0 0 (sgA 52 h sz) := by
  refine sg_ofWi (cc := cX3_does) (maxL := 7) RX3 (by decide) rfl rfl (Nat.le_of_ble_eq_true rfl) ?_
  intro p e s m below meth cd Qz ls hx hb hml hown hts hK hZ hP hS hl hret
  have hA := sgY.self (n := 52) (h := h) (sz := s.heap.size)
  have hl : lv_has ls 7 [(0, .ref (h 36)), (1, .int 0), (2, .int 0), (3, .int x2), (4, .int 5)] := hl
  obtain ⟨H, hH⟩ : ∃ z : Heap, z = s.heap := ⟨_, rfl⟩
  obtain ⟨locs, hlo⟩ : ∃ z : List Loc, z = [] := ⟨_, rfl⟩
  have hP : va_P D vwCl (sgw 52 h (eX ca h) f L Q) H := by rw [hH]; exact hP
  have hS : va_S (sgA 52 h s.heap.size) s.heap H locs := by rw [hH, hlo]; exact hS
  suffices hgo : W p l e ({ frames := 1, cells := 0, slots := 0, locals := 24 }) s m ([.ref (h 36), .int 0, .int 0, .int x2, .int 5] : List Value).toArray below meth cd H locs 0 0 Qz (F0 m 0 ls []) by rw [hH, hlo] at hgo; exact hgo
  clear hH hlo
  have o_1 : (f 36 3).toInt = 9 := (congrArg Int32.toInt (show f 36 3 = 9 from hf_36_3)).trans (by decide)
  have hF : sgK WkX3_does_0_0_5_f9_f7 f f := sgK.rf
  have blk_53 : ∀ (fp_53 : sg_F) (H : Heap) (locs : List Loc) (ls : Array Slot), 9 ≤ (fp_53 36 3).toInt ∧ (fp_53 36 3).toInt ≤ 9 → 7 ≤ (fp_53 36 4).toInt ∧ (fp_53 36 4).toInt ≤ 7 → sgI loX hiX fp_53 → sgK WkX3_does_0_0_5_f9_f7 f fp_53 → va_P D vwCl (sgw 52 h (eX ca h) fp_53 L Q) H → va_S (sgA 52 h s.heap.size) s.heap H locs → lv_has ls 7 [(0, .ref (h 36)), (3, .int x2), (4, .int 5), (5, .int 0), (6, .int 1)] → W p l e ({ frames := 1, cells := 0, slots := 0, locals := 24 }) s m ([.ref (h 36), .int 0, .int 0, .int x2, .int 5] : List Value).toArray below meth cd H locs 0 0 Qz (F0 m 53 ls []) := by
    intro fp_53 H locs ls hy0_53 hy1_53 hI hF hP hS hl
    obtain ⟨v_2, ev_2⟩ : ∃ z : Int32, z = fp_53 36 3 := ⟨_, rfl⟩
    have q_3 : 0 ≤ v_2.toInt ∧ v_2.toInt ≤ 19 := by rw [ev_2]; exact hI 36 3
    have q_4 : (fp_53 36 3).toInt = v_2.toInt := by rw [ev_2]
    obtain ⟨v_5, ev_5⟩ : ∃ z : Int32, z = fp_53 36 4 := ⟨_, rfl⟩
    have q_6 : 0 ≤ v_5.toInt ∧ v_5.toInt ≤ 7 := by rw [ev_5]; exact hI 36 4
    have q_7 : (fp_53 36 4).toInt = v_5.toInt := by rw [ev_5]
    have m_8 : fp_53 36 4 = 7 := (hF 36 4 (by decide)).trans hf_36_4
    refine lv_aload_n hx hb dX3_does_53 rfl (lv_at hl 0 rfl) ?_
    refine lv_dup hx hb dX3_does_54 rfl ?_
    refine sg_get (ci := 3) (v := .int v_2) (C := RX3) (T := TX3) (N := 6) hx hb hts (fun w h => List.mem_cons_of_mem _ (gx_3 w h)) hown hK hP 36 (by decide) rfl rfl 3 (by decide) (hts _ (List.mem_cons_of_mem _ mw_16)) (fun _ h9 => h9) (congrArg (fun z => some (Value.int z)) (show fp_53 36 3 = v_2 from ev_2.symm)) dX3_does_55 ?_
    refine lv_iconst (v := 1) hx hb dX3_does_58 (by decide) ?_
    refine lv_iadd hx hb dX3_does_59 ?_
    refine lv_topi (fun v_9 ev_9 => ?_)
    have q_10 : v_9.toInt = v_2.toInt + 1 := by rw [ev_9]; have k1 : (1 : Int32).toInt = 1 := (by decide); exact (bn_addI (by omega) (by omega)).trans (by omega)
    refine sg_put (ci := 3) (x := v_9) (ty := .int) (C := RX3) (T := TX3) (N := 6) hx hb hts (fun w h => List.mem_cons_of_mem _ (gx_3 w h)) tyX3 tyX3_ok nmX3 hown hh hA hK hP hS 36 (by decide) rfl rfl 3 (by decide) (hts _ (List.mem_cons_of_mem _ mw_16)) (fun _ h9 => h9) rfl rfl (by decide +kernel) rfl rfl (Nat.le_of_ble_eq_true rfl) dX3_does_60 (fun f_11 H locs ef_11 hP hS => ?_)
    have hI : sgI loX hiX f_11 := by rw [ef_11]; exact sgI.put hI 36 3 (show 0 ≤ (v_9 : Int32).toInt ∧ (v_9 : Int32).toInt ≤ 19 from by omega)
    have hF : sgK WkX3_does_0_0_5_f9_f7 f f_11 := sgK.put hF ef_11 (by rfl)
    refine lv_aload_n hx hb dX3_does_63 rfl (lv_at hl 0 rfl) ?_
    refine lv_iload hx hb dX3_does_64 (lv_at hl 4 rfl) ?_
    refine sg_gets hx hb hZ 2 rfl hS hown (hts _ (List.mem_cons_of_mem _ mw_174)) (fun _ h9 => h9) dX3_does_66 ?_
    refine lv_iload hx hb dX3_does_69 (lv_at hl 3 rfl) ?_
    refine sg_sald hx hb hZ 2 rfl hS (y := 0) (N := 8) (vp_in_iff.mpr (by decide)) dX3_does_71 ?_
    refine W.eq (g2 := F0 m 72 ls [.int (-1), .int 1, .ref (h 36)]) (by rfl) ?_
    refine lv_iload_n hx hb dX3_does_72 rfl (lv_at hl 1 rfl) ?_
    refine lv_iload hx hb dX3_does_73 (lv_at hl 2 rfl) ?_
    refine lv_iconst (v := 1) hx hb dX3_does_75 (by decide) ?_
    refine lv_iadd hx hb dX3_does_76 ?_
    refine W.eq (g2 := F0 m 77 ls [.int 6, .int x2, .int (-1), .int 1, .ref (h 36)]) (by rw [show (5 + 1 : Int32) = 6 from by decide]) ?_
    have c_12 : v_9 = 10 := Int32.toInt_inj.mp (by have k9 : (10 : Int32).toInt = 10 := (by decide); omega)
    have q_13 : (f_11 36 3).toInt = 10 := (congrArg Int32.toInt (show f_11 36 3 = 10 from (Eq.trans (by rw [ef_11, sg_up_s, sgu_s]) c_12))).trans (by decide)
    have q_14 : (f_11 36 3).toInt = 10 := (congrArg Int32.toInt (show f_11 36 3 = 10 from (Eq.trans (by rw [ef_11, sg_up_s, sgu_s]) c_12))).trans (by decide)
    refine sg_calli (va_runV (As := [.int 1, .int (-1), .int x2, .int 6]) (rest := []) ⟨hx, hb, hml, hown, hts⟩ (kX3_runs_1_m1_6_f10_f7 l D ca za h hh f_11 L Q hI x2 (Eq.trans (by rw [ef_11, sg_up_s, sgu_s]) c_12) (by rw [ef_11, sg_up_s, sgu_n (by decide)]; exact m_8) (by omega) (by have k0 : (1 : Int32).toInt = 1 := (by decide); have k1 : ((-1) : Int32).toInt = (-1) := (by decide); have k3 : (6 : Int32).toInt = 6 := (by decide); omega) H.size) (cwV 4 hts (gw_V (fun _ h => List.mem_cons_of_mem _ h) mw_311 mw_312 mw_313 mw_47 mw_310) rfl rfl rfl (by decide +kernel) ⟨Nat.le_of_ble_eq_true rfl, Nat.le_of_ble_eq_true rfl⟩) (sg_preV (ci := 3) (C := RX3) (T := TX3) (N := 6) hA hK hP hS hZ 36 (by decide) rfl rfl) rfl rfl hl.1 rfl (lv_room (Nat.le_of_ble_eq_true rfl)) dX3_does_77 ⟨Nat.le_refl _, Nat.le_refl _⟩) hA hS (fun r_18 f_15 L_16 Q_17 H locs hq hP hS => ?_)
    obtain ⟨⟨ef9, eL9, eQ9⟩, hq, p_19⟩ := hq
    rw [ef9, eL9, eQ9] at hP; clear ef9 eL9 eQ9
    have q_20 : (f_11 36 3).toInt = 10 := (congrArg Int32.toInt (show f_11 36 3 = 10 from (Eq.trans (by rw [ef_11, sg_up_s, sgu_s]) c_12))).trans (by decide)
    have q_21 : (f_11 36 3).toInt = 10 := (congrArg Int32.toInt (show f_11 36 3 = 10 from (Eq.trans (by rw [ef_11, sg_up_s, sgu_s]) c_12))).trans (by decide)
    have k_22 : (1 : Int32).toInt = 1 := by decide
    have k_23 : ((-1) : Int32).toInt = (-1) := by decide
    have k_24 : (6 : Int32).toInt = 6 := by decide
    have q_25 : (f_11 36 3).toInt = 10 := (congrArg Int32.toInt (show f_11 36 3 = 10 from (Eq.trans (by rw [ef_11, sg_up_s, sgu_s]) c_12))).trans (by decide)
    have q_26 : (f_11 36 3).toInt = 10 := (congrArg Int32.toInt (show f_11 36 3 = 10 from (Eq.trans (by rw [ef_11, sg_up_s, sgu_s]) c_12))).trans (by decide)
    exact hret _ _ _ _ (r_18) f_11 L Q dX3_does_80 hP hS ⟨⟨hI, hF, rfl, rfl⟩, (by omega), (by omega)⟩
  refine lv_iload_n hx hb dX3_does_0 rfl (lv_at hl 1 rfl) ?_
  refine lv_iload_n hx hb dX3_does_1 rfl (lv_at hl 2 rfl) ?_
  refine sg_calli (va_runS (As := [.int 0, .int 0]) (rest := []) ⟨hx, hb, hml, hown, hts⟩ (kX3_ownerOf_0_0 l D ca za h hh f L Q hI H.size) (va_cwS 2 hts (gw_S (fun _ h => List.mem_cons_of_mem _ h) mw_189 mw_190 mw_47 mw_188) rfl rfl rfl (by decide +kernel) ⟨Nat.le_of_ble_eq_true rfl, Nat.le_of_ble_eq_true rfl⟩) (sg_preS hA hK hP hS hZ) rfl rfl hl.1 rfl (lv_room (Nat.le_of_ble_eq_true rfl)) dX3_does_2 ⟨Nat.le_refl _, Nat.le_refl _⟩) hA hS (fun r_30 f_27 L_28 Q_29 H locs hq hP hS => ?_)
  obtain ⟨⟨ef9, eL9, eQ9⟩, hq⟩ := hq
  rw [ef9, eL9, eQ9] at hP; clear ef9 eL9 eQ9
  obtain rfl : r_30 = 0 := Int32.toInt_inj.mp (by have k9 : (0 : Int32).toInt = 0 := (by decide); omega)
  refine lv_istore (lv' := [(5, .int 0), (0, .ref (h 36)), (1, .int 0), (2, .int 0), (3, .int x2), (4, .int 5)]) hx hb dX3_does_5 hl (by decide) rfl (fun ls hl => ?_)
  refine lv_iload hx hb dX3_does_7 (lv_at hl 0 rfl) ?_
  refine lv_if_lt (tgt := 19) hx hb dX3_does_9 (by decide) (fun c => absurd c (by decide)) (fun c => ?_)
  refine lv_iload hx hb dX3_does_12 (lv_at hl 5 rfl) ?_
  refine lv_bipush (v := 40) hx hb dX3_does_14 (by decide) ?_
  refine lv_icmp_le (tgt := 21) hx hb dX3_does_16 (by decide) (fun c => ?_) (fun c => absurd c (by decide))
  refine sg_gets hx hb hZ 3 rfl hS hown (hts _ (List.mem_cons_of_mem _ mw_173)) (fun _ h9 => h9) dX3_does_21 ?_
  refine lv_iload hx hb dX3_does_24 (lv_at hl 0 rfl) ?_
  refine lv_iconst (v := 4) hx hb dX3_does_26 (by decide) ?_
  refine lv_imul hx hb dX3_does_27 ?_
  refine W.eq (g2 := F0 m 28 ls [.int 0, .ref (za 3)]) (by rw [show (0 * 4 : Int32) = 0 from by decide]) ?_
  refine lv_iload_n hx hb dX3_does_28 rfl (lv_at hl 3 rfl) ?_
  refine lv_iadd hx hb dX3_does_29 ?_
  refine W.eq (g2 := F0 m 30 ls [.int 0, .ref (za 3)]) (by rw [show (0 + 0 : Int32) = 0 from by decide]) ?_
  refine sg_sald hx hb hZ 3 rfl hS (y := 0) (N := 32) (vp_in_iff.mpr (by decide)) dX3_does_30 ?_
  refine W.eq (g2 := F0 m 31 ls [.int 1]) (by rfl) ?_
  refine lv_istore (lv' := [(6, .int 1), (5, .int 0), (0, .ref (h 36)), (1, .int 0), (2, .int 0), (3, .int x2), (4, .int 5)]) hx hb dX3_does_31 hl (by decide) rfl (fun ls hl => ?_)
  refine lv_aload_n hx hb dX3_does_33 rfl (lv_at hl 2 rfl) ?_
  refine sg_get (ci := 3) (v := .int 9) (C := RX3) (T := TX3) (N := 6) hx hb hts (fun w h => List.mem_cons_of_mem _ (gx_3 w h)) hown hK hP 36 (by decide) rfl rfl 3 (by decide) (hts _ (List.mem_cons_of_mem _ mw_16)) (fun _ h9 => h9) (congrArg (fun z => some (Value.int z)) (show f 36 3 = 9 from hf_36_3)) dX3_does_34 ?_
  refine lv_bipush (v := 24) hx hb dX3_does_37 (by decide) ?_
  refine lv_icmp_ge (tgt := 53) hx hb dX3_does_39 (by decide) (fun c => absurd c (by decide)) (fun c => ?_)
  refine lv_aload_n hx hb dX3_does_42 rfl (lv_at hl 2 rfl) ?_
  refine sg_get (ci := 3) (v := .ref (h 38)) (C := RX3) (T := TX3) (N := 6) hx hb hts (fun w h => List.mem_cons_of_mem _ (gx_3 w h)) hown hK hP 36 (by decide) rfl rfl 1 (by decide) (hts _ (List.mem_cons_of_mem _ mw_191)) (fun _ h9 => h9) rfl dX3_does_43 ?_
  refine lv_aload_n hx hb dX3_does_46 rfl (lv_at hl 2 rfl) ?_
  refine sg_get (ci := 3) (v := .int 9) (C := RX3) (T := TX3) (N := 6) hx hb hts (fun w h => List.mem_cons_of_mem _ (gx_3 w h)) hown hK hP 36 (by decide) rfl rfl 3 (by decide) (hts _ (List.mem_cons_of_mem _ mw_16)) (fun _ h9 => h9) (congrArg (fun z => some (Value.int z)) (show f 36 3 = 9 from hf_36_3)) dX3_does_47 ?_
  refine lv_iload hx hb dX3_does_50 (lv_at hl 0 rfl) ?_
  refine sg_iast hx hb hh hA hK hP hS 38 (by decide) 0 (fun _ => rfl) rfl (i := 9) (x := 1) (vp_in_iff.mpr (by decide)) dX3_does_52 (fun f_31 H locs ef_31 hP hS => ?_)
  have hI : sgI loX hiX f_31 := by rw [ef_31]; exact sgI.put hI 38 (Int32.toNatClampNeg 9) (show 0 ≤ (1 : Int32).toInt ∧ (1 : Int32).toInt ≤ 81 from by decide)
  have hF : sgK WkX3_does_0_0_5_f9_f7 f f_31 := sgK.put hF ef_31 (by rfl)
  exact blk_53 f_31 _ _ _ (by have zz36_3 : (f_31 36 3).toInt = 9 := (congrArg Int32.toInt (show f_31 36 3 = 9 from (by rw [ef_31, sg_up_n (by decide)]; exact hf_36_3))).trans (by decide); omega) (by have zz36_4 : (f_31 36 4).toInt = 7 := (congrArg Int32.toInt (show f_31 36 4 = 7 from (by rw [ef_31, sg_up_n (by decide)]; exact hf_36_4))).trans (by decide); omega) hI hF hP hS (lv_sub hl [2, 5, 6, 1, 0] rfl)

abbrev WkX3_runs_20_0_5_f9_f7 : List (Nat × Nat × Option Nat) := [(36, 36, some 3), (38, 38, none)]
set_option maxHeartbeats 4000000 in
set_option maxRecDepth 100000 in
theorem kX3_runs_20_0_5_f9_f7 (l : Launch) (D : va_G) (ca : Nat → ClassId) (za h : Nat → Nat) (hh : sgH 52 h) (f : sg_F) (L : sg_L) (Q : sg_Q) (hI : sgI loX hiX f) (x2 : Int32) (hf_36_3 : f 36 3 = 9) (hf_36_4 : f 36 4 = 7) (b2 : 2 ≤ x2.toInt ∧ x2.toInt ≤ 2) (p0 : 9 ≤ (f 36 3).toInt ∧ (f 36 3).toInt ≤ 9) (sz : Nat) : Met l yX3_runs gwX3_runs { frames := 2, cells := 0, slots := 0, locals := 50 } (sgP D vwCl (tyX ca) 52 h (eX ca h) zcX za f L Q sz [.ref (h 36), .int 20, .int 0, .int x2, .int 5]) (sgQi D vwCl 52 h (eX ca h) sz (fun r f1 L1 Q1 => ((sgI loX hiX f1 ∧ sgK WkX3_runs_20_0_5_f9_f7 f f1 ∧ L1 = L ∧ Q1 = Q) ∧ (5 ≤ r.toInt ∧ r.toInt ≤ 54) ∧ (10 ≤ (f1 36 3).toInt ∧ (f1 36 3).toInt ≤ 10)))) 0 0 (sgA 52 h sz) := by
  refine sg_ofWi (cc := cX3_runs) (maxL := 5) RX3 (by decide) rfl rfl (Nat.le_of_ble_eq_true rfl) ?_
  intro p e s m below meth cd Qz ls hx hb hml hown hts hK hZ hP hS hl hret
  have hA := sgY.self (n := 52) (h := h) (sz := s.heap.size)
  have hl : lv_has ls 5 [(0, .ref (h 36)), (1, .int 20), (2, .int 0), (3, .int x2), (4, .int 5)] := hl
  obtain ⟨H, hH⟩ : ∃ z : Heap, z = s.heap := ⟨_, rfl⟩
  obtain ⟨locs, hlo⟩ : ∃ z : List Loc, z = [] := ⟨_, rfl⟩
  have hP : va_P D vwCl (sgw 52 h (eX ca h) f L Q) H := by rw [hH]; exact hP
  have hS : va_S (sgA 52 h s.heap.size) s.heap H locs := by rw [hH, hlo]; exact hS
  suffices hgo : W p l e ({ frames := 2, cells := 0, slots := 0, locals := 50 }) s m ([.ref (h 36), .int 20, .int 0, .int x2, .int 5] : List Value).toArray below meth cd H locs 0 0 Qz (F0 m 0 ls []) by rw [hH, hlo] at hgo; exact hgo
  clear hH hlo
  have o_1 : (f 36 3).toInt = 9 := (congrArg Int32.toInt (show f 36 3 = 9 from hf_36_3)).trans (by decide)
  have hF : sgK WkX3_runs_20_0_5_f9_f7 f f := sgK.rf
  refine lv_iload_n hx hb dX3_runs_0 rfl (lv_at hl 1 rfl) ?_
  refine lv_lookup (x := 20) (off := 170) (tgt := 171) hx hb dX3_runs_1 (by decide) (by decide) (by decide) ?_
  refine lv_aload_n hx hb dX3_runs_171 rfl (lv_at hl 0 rfl) ?_
  refine lv_iload_n hx hb dX3_runs_172 rfl (lv_at hl 2 rfl) ?_
  refine lv_iconst (v := 0) hx hb dX3_runs_173 (by decide) ?_
  refine lv_iload_n hx hb dX3_runs_174 rfl (lv_at hl 3 rfl) ?_
  refine lv_iload hx hb dX3_runs_175 (lv_at hl 4 rfl) ?_
  have q_2 : (f 36 3).toInt = 9 := (congrArg Int32.toInt (show f 36 3 = 9 from hf_36_3)).trans (by decide)
  have q_3 : (f 36 3).toInt = 9 := (congrArg Int32.toInt (show f 36 3 = 9 from hf_36_3)).trans (by decide)
  refine sg_calli (va_runV (As := [.int 0, .int 0, .int x2, .int 5]) (rest := []) ⟨hx, hb, hml, hown, hts⟩ (kX3_does_0_0_5_f9_f7 l D ca za h hh f L Q hI x2 hf_36_3 hf_36_4 (by omega) (by have k0 : (0 : Int32).toInt = 0 := (by decide); have k1 : (0 : Int32).toInt = 0 := (by decide); have k3 : (5 : Int32).toInt = 5 := (by decide); omega) H.size) (cwV 4 hts (gw_V (fun _ h => List.mem_cons_of_mem _ h) mw_318 mw_319 mw_320 mw_47 mw_317) rfl rfl rfl (by decide +kernel) ⟨Nat.le_of_ble_eq_true rfl, Nat.le_of_ble_eq_true rfl⟩) (sg_preV (ci := 3) (C := RX3) (T := TX3) (N := 6) hA hK hP hS hZ 36 (by decide) rfl rfl) rfl rfl hl.1 rfl (lv_room (Nat.le_of_ble_eq_true rfl)) dX3_runs_177 ⟨Nat.le_refl _, Nat.le_refl _⟩) hA hS (fun r_7 f_4 L_5 Q_6 H locs hq hP hS => ?_)
  obtain ⟨⟨hI, hk_f_4, eL9, eQ9⟩, hq, p_8⟩ := hq
  rw [eL9, eQ9] at hP; clear eL9 eQ9
  have hF : sgK WkX3_runs_20_0_5_f9_f7 f f_4 := sgK.tr hF hk_f_4 (by decide)
  obtain ⟨v_9, ev_9⟩ : ∃ z : Int32, z = f_4 36 3 := ⟨_, rfl⟩
  have q_10 : 0 ≤ v_9.toInt ∧ v_9.toInt ≤ 19 := by rw [ev_9]; exact hI 36 3
  have q_11 : (f_4 36 3).toInt = v_9.toInt := (congrArg Int32.toInt (show f_4 36 3 = v_9 from ev_9.symm))
  have q_12 : (f_4 36 3).toInt = v_9.toInt := (congrArg Int32.toInt (show f_4 36 3 = v_9 from ev_9.symm))
  have k_13 : (0 : Int32).toInt = 0 := by decide
  have k_14 : (0 : Int32).toInt = 0 := by decide
  have k_15 : (5 : Int32).toInt = 5 := by decide
  refine lv_iconst (v := 3) hx hb dX3_runs_180 (by decide) ?_
  refine lv_iadd hx hb dX3_runs_181 ?_
  refine lv_topi (fun v_16 ev_16 => ?_)
  have q_17 : v_16.toInt = r_7.toInt + 3 := by rw [ev_16]; have k1 : (3 : Int32).toInt = 3 := (by decide); exact (bn_addI (by omega) (by omega)).trans (by omega)
  have q_18 : (f_4 36 3).toInt = v_9.toInt := (congrArg Int32.toInt (show f_4 36 3 = v_9 from ev_9.symm))
  have q_19 : (f_4 36 3).toInt = v_9.toInt := (congrArg Int32.toInt (show f_4 36 3 = v_9 from ev_9.symm))
  exact hret _ _ _ _ (v_16) f_4 L Q dX3_runs_182 hP hS ⟨⟨hI, hF, rfl, rfl⟩, (by omega), (by omega)⟩

abbrev WkX3_does_7_0_4_f8_f7 : List (Nat × Nat × Option Nat) := [(36, 36, some 3), (38, 38, none)]
set_option maxHeartbeats 4000000 in
set_option maxRecDepth 100000 in
theorem kX3_does_7_0_4_f8_f7 (l : Launch) (D : va_G) (ca : Nat → ClassId) (za h : Nat → Nat) (hh : sgH 52 h) (f : sg_F) (L : sg_L) (Q : sg_Q) (hI : sgI loX hiX f) (x2 : Int32) (hf_36_3 : f 36 3 = 8) (hf_36_4 : f 36 4 = 7) (b2 : 2 ≤ x2.toInt ∧ x2.toInt ≤ 2) (p0 : 8 ≤ (f 36 3).toInt ∧ (f 36 3).toInt ≤ 8) (sz : Nat) : Met l yX3_does gwX3_does { frames := 3, cells := 0, slots := 0, locals := 74 } (sgP D vwCl (tyX ca) 52 h (eX ca h) zcX za f L Q sz [.ref (h 36), .int 7, .int 0, .int x2, .int 4]) (sgQi D vwCl 52 h (eX ca h) sz (fun r f1 L1 Q1 => ((sgI loX hiX f1 ∧ sgK WkX3_does_7_0_4_f8_f7 f f1 ∧ L1 = L ∧ Q1 = Q) ∧ (5 ≤ r.toInt ∧ r.toInt ≤ 54) ∧ (10 ≤ (f1 36 3).toInt ∧ (f1 36 3).toInt ≤ 10)))) 0 0 (sgA 52 h sz) := by
  refine sg_ofWi (cc := cX3_does) (maxL := 7) RX3 (by decide) rfl rfl (Nat.le_of_ble_eq_true rfl) ?_
  intro p e s m below meth cd Qz ls hx hb hml hown hts hK hZ hP hS hl hret
  have hA := sgY.self (n := 52) (h := h) (sz := s.heap.size)
  have hl : lv_has ls 7 [(0, .ref (h 36)), (1, .int 7), (2, .int 0), (3, .int x2), (4, .int 4)] := hl
  obtain ⟨H, hH⟩ : ∃ z : Heap, z = s.heap := ⟨_, rfl⟩
  obtain ⟨locs, hlo⟩ : ∃ z : List Loc, z = [] := ⟨_, rfl⟩
  have hP : va_P D vwCl (sgw 52 h (eX ca h) f L Q) H := by rw [hH]; exact hP
  have hS : va_S (sgA 52 h s.heap.size) s.heap H locs := by rw [hH, hlo]; exact hS
  suffices hgo : W p l e ({ frames := 3, cells := 0, slots := 0, locals := 74 }) s m ([.ref (h 36), .int 7, .int 0, .int x2, .int 4] : List Value).toArray below meth cd H locs 0 0 Qz (F0 m 0 ls []) by rw [hH, hlo] at hgo; exact hgo
  clear hH hlo
  have o_1 : (f 36 3).toInt = 8 := (congrArg Int32.toInt (show f 36 3 = 8 from hf_36_3)).trans (by decide)
  have hF : sgK WkX3_does_7_0_4_f8_f7 f f := sgK.rf
  have blk_53 : ∀ (fp_53 : sg_F) (H : Heap) (locs : List Loc) (ls : Array Slot), 8 ≤ (fp_53 36 3).toInt ∧ (fp_53 36 3).toInt ≤ 8 → 7 ≤ (fp_53 36 4).toInt ∧ (fp_53 36 4).toInt ≤ 7 → sgI loX hiX fp_53 → sgK WkX3_does_7_0_4_f8_f7 f fp_53 → va_P D vwCl (sgw 52 h (eX ca h) fp_53 L Q) H → va_S (sgA 52 h s.heap.size) s.heap H locs → lv_has ls 7 [(0, .ref (h 36)), (3, .int x2), (4, .int 4), (5, .int 1), (6, .int 20)] → W p l e ({ frames := 3, cells := 0, slots := 0, locals := 74 }) s m ([.ref (h 36), .int 7, .int 0, .int x2, .int 4] : List Value).toArray below meth cd H locs 0 0 Qz (F0 m 53 ls []) := by
    intro fp_53 H locs ls hy0_53 hy1_53 hI hF hP hS hl
    obtain ⟨v_2, ev_2⟩ : ∃ z : Int32, z = fp_53 36 3 := ⟨_, rfl⟩
    have q_3 : 0 ≤ v_2.toInt ∧ v_2.toInt ≤ 19 := by rw [ev_2]; exact hI 36 3
    have q_4 : (fp_53 36 3).toInt = v_2.toInt := by rw [ev_2]
    obtain ⟨v_5, ev_5⟩ : ∃ z : Int32, z = fp_53 36 4 := ⟨_, rfl⟩
    have q_6 : 0 ≤ v_5.toInt ∧ v_5.toInt ≤ 7 := by rw [ev_5]; exact hI 36 4
    have q_7 : (fp_53 36 4).toInt = v_5.toInt := by rw [ev_5]
    have m_8 : fp_53 36 4 = 7 := (hF 36 4 (by decide)).trans hf_36_4
    refine lv_aload_n hx hb dX3_does_53 rfl (lv_at hl 0 rfl) ?_
    refine lv_dup hx hb dX3_does_54 rfl ?_
    refine sg_get (ci := 3) (v := .int v_2) (C := RX3) (T := TX3) (N := 6) hx hb hts (fun w h => List.mem_cons_of_mem _ (gx_3 w h)) hown hK hP 36 (by decide) rfl rfl 3 (by decide) (hts _ (List.mem_cons_of_mem _ mw_16)) (fun _ h9 => h9) (congrArg (fun z => some (Value.int z)) (show fp_53 36 3 = v_2 from ev_2.symm)) dX3_does_55 ?_
    refine lv_iconst (v := 1) hx hb dX3_does_58 (by decide) ?_
    refine lv_iadd hx hb dX3_does_59 ?_
    refine lv_topi (fun v_9 ev_9 => ?_)
    have q_10 : v_9.toInt = v_2.toInt + 1 := by rw [ev_9]; have k1 : (1 : Int32).toInt = 1 := (by decide); exact (bn_addI (by omega) (by omega)).trans (by omega)
    refine sg_put (ci := 3) (x := v_9) (ty := .int) (C := RX3) (T := TX3) (N := 6) hx hb hts (fun w h => List.mem_cons_of_mem _ (gx_3 w h)) tyX3 tyX3_ok nmX3 hown hh hA hK hP hS 36 (by decide) rfl rfl 3 (by decide) (hts _ (List.mem_cons_of_mem _ mw_16)) (fun _ h9 => h9) rfl rfl (by decide +kernel) rfl rfl (Nat.le_of_ble_eq_true rfl) dX3_does_60 (fun f_11 H locs ef_11 hP hS => ?_)
    have hI : sgI loX hiX f_11 := by rw [ef_11]; exact sgI.put hI 36 3 (show 0 ≤ (v_9 : Int32).toInt ∧ (v_9 : Int32).toInt ≤ 19 from by omega)
    have hF : sgK WkX3_does_7_0_4_f8_f7 f f_11 := sgK.put hF ef_11 (by rfl)
    refine lv_aload_n hx hb dX3_does_63 rfl (lv_at hl 0 rfl) ?_
    refine lv_iload hx hb dX3_does_64 (lv_at hl 4 rfl) ?_
    refine sg_gets hx hb hZ 2 rfl hS hown (hts _ (List.mem_cons_of_mem _ mw_174)) (fun _ h9 => h9) dX3_does_66 ?_
    refine lv_iload hx hb dX3_does_69 (lv_at hl 3 rfl) ?_
    refine sg_sald hx hb hZ 2 rfl hS (y := 1) (N := 8) (vp_in_iff.mpr (by decide)) dX3_does_71 ?_
    refine W.eq (g2 := F0 m 72 ls [.int 0, .int 20, .ref (h 36)]) (by rfl) ?_
    refine lv_iload_n hx hb dX3_does_72 rfl (lv_at hl 1 rfl) ?_
    refine lv_iload hx hb dX3_does_73 (lv_at hl 2 rfl) ?_
    refine lv_iconst (v := 1) hx hb dX3_does_75 (by decide) ?_
    refine lv_iadd hx hb dX3_does_76 ?_
    refine W.eq (g2 := F0 m 77 ls [.int 5, .int x2, .int 0, .int 20, .ref (h 36)]) (by rw [show (4 + 1 : Int32) = 5 from by decide]) ?_
    have c_12 : v_9 = 9 := Int32.toInt_inj.mp (by have k9 : (9 : Int32).toInt = 9 := (by decide); omega)
    have q_13 : (f_11 36 3).toInt = 9 := (congrArg Int32.toInt (show f_11 36 3 = 9 from (Eq.trans (by rw [ef_11, sg_up_s, sgu_s]) c_12))).trans (by decide)
    have q_14 : (f_11 36 3).toInt = 9 := (congrArg Int32.toInt (show f_11 36 3 = 9 from (Eq.trans (by rw [ef_11, sg_up_s, sgu_s]) c_12))).trans (by decide)
    refine sg_calli (va_runV (As := [.int 20, .int 0, .int x2, .int 5]) (rest := []) ⟨hx, hb, hml, hown, hts⟩ (kX3_runs_20_0_5_f9_f7 l D ca za h hh f_11 L Q hI x2 (Eq.trans (by rw [ef_11, sg_up_s, sgu_s]) c_12) (by rw [ef_11, sg_up_s, sgu_n (by decide)]; exact m_8) (by omega) (by have k0 : (20 : Int32).toInt = 20 := (by decide); have k1 : (0 : Int32).toInt = 0 := (by decide); have k3 : (5 : Int32).toInt = 5 := (by decide); omega) H.size) (cwV 4 hts (gw_V (fun _ h => List.mem_cons_of_mem _ h) mw_311 mw_312 mw_313 mw_47 mw_310) rfl rfl rfl (by decide +kernel) ⟨Nat.le_of_ble_eq_true rfl, Nat.le_of_ble_eq_true rfl⟩) (sg_preV (ci := 3) (C := RX3) (T := TX3) (N := 6) hA hK hP hS hZ 36 (by decide) rfl rfl) rfl rfl hl.1 rfl (lv_room (Nat.le_of_ble_eq_true rfl)) dX3_does_77 ⟨Nat.le_refl _, Nat.le_refl _⟩) hA hS (fun r_18 f_15 L_16 Q_17 H locs hq hP hS => ?_)
    obtain ⟨⟨hI, hk_f_15, eL9, eQ9⟩, hq, p_19⟩ := hq
    rw [eL9, eQ9] at hP; clear eL9 eQ9
    have hF : sgK WkX3_does_7_0_4_f8_f7 f f_15 := sgK.tr hF hk_f_15 (by decide)
    obtain ⟨v_20, ev_20⟩ : ∃ z : Int32, z = f_15 36 3 := ⟨_, rfl⟩
    have q_21 : 0 ≤ v_20.toInt ∧ v_20.toInt ≤ 19 := by rw [ev_20]; exact hI 36 3
    have q_22 : (f_15 36 3).toInt = v_20.toInt := (congrArg Int32.toInt (show f_15 36 3 = v_20 from ev_20.symm))
    have q_23 : (f_15 36 3).toInt = v_20.toInt := (congrArg Int32.toInt (show f_15 36 3 = v_20 from ev_20.symm))
    have k_24 : (20 : Int32).toInt = 20 := by decide
    have k_25 : (0 : Int32).toInt = 0 := by decide
    have k_26 : (5 : Int32).toInt = 5 := by decide
    have q_27 : (f_15 36 3).toInt = v_20.toInt := (congrArg Int32.toInt (show f_15 36 3 = v_20 from ev_20.symm))
    have q_28 : (f_15 36 3).toInt = v_20.toInt := (congrArg Int32.toInt (show f_15 36 3 = v_20 from ev_20.symm))
    exact hret _ _ _ _ (r_18) f_15 L Q dX3_does_80 hP hS ⟨⟨hI, hF, rfl, rfl⟩, (by omega), (by omega)⟩
  refine lv_iload_n hx hb dX3_does_0 rfl (lv_at hl 1 rfl) ?_
  refine lv_iload_n hx hb dX3_does_1 rfl (lv_at hl 2 rfl) ?_
  refine sg_calli (va_runS (As := [.int 7, .int 0]) (rest := []) ⟨hx, hb, hml, hown, hts⟩ (kX3_ownerOf_7_0 l D ca za h hh f L Q hI H.size) (va_cwS 2 hts (gw_S (fun _ h => List.mem_cons_of_mem _ h) mw_189 mw_190 mw_47 mw_188) rfl rfl rfl (by decide +kernel) ⟨Nat.le_of_ble_eq_true rfl, Nat.le_of_ble_eq_true rfl⟩) (sg_preS hA hK hP hS hZ) rfl rfl hl.1 rfl (lv_room (Nat.le_of_ble_eq_true rfl)) dX3_does_2 ⟨Nat.le_refl _, Nat.le_refl _⟩) hA hS (fun r_32 f_29 L_30 Q_31 H locs hq hP hS => ?_)
  obtain ⟨⟨ef9, eL9, eQ9⟩, hq⟩ := hq
  rw [ef9, eL9, eQ9] at hP; clear ef9 eL9 eQ9
  obtain rfl : r_32 = 1 := Int32.toInt_inj.mp (by have k9 : (1 : Int32).toInt = 1 := (by decide); omega)
  refine lv_istore (lv' := [(5, .int 1), (0, .ref (h 36)), (1, .int 7), (2, .int 0), (3, .int x2), (4, .int 4)]) hx hb dX3_does_5 hl (by decide) rfl (fun ls hl => ?_)
  refine lv_iload hx hb dX3_does_7 (lv_at hl 0 rfl) ?_
  refine lv_if_lt (tgt := 19) hx hb dX3_does_9 (by decide) (fun c => absurd c (by decide)) (fun c => ?_)
  refine lv_iload hx hb dX3_does_12 (lv_at hl 5 rfl) ?_
  refine lv_bipush (v := 40) hx hb dX3_does_14 (by decide) ?_
  refine lv_icmp_le (tgt := 21) hx hb dX3_does_16 (by decide) (fun c => ?_) (fun c => absurd c (by decide))
  refine sg_gets hx hb hZ 3 rfl hS hown (hts _ (List.mem_cons_of_mem _ mw_173)) (fun _ h9 => h9) dX3_does_21 ?_
  refine lv_iload hx hb dX3_does_24 (lv_at hl 0 rfl) ?_
  refine lv_iconst (v := 4) hx hb dX3_does_26 (by decide) ?_
  refine lv_imul hx hb dX3_does_27 ?_
  refine W.eq (g2 := F0 m 28 ls [.int 4, .ref (za 3)]) (by rw [show (1 * 4 : Int32) = 4 from by decide]) ?_
  refine lv_iload_n hx hb dX3_does_28 rfl (lv_at hl 3 rfl) ?_
  refine lv_iadd hx hb dX3_does_29 ?_
  refine W.eq (g2 := F0 m 30 ls [.int 4, .ref (za 3)]) (by rw [show (4 + 0 : Int32) = 4 from by decide]) ?_
  refine sg_sald hx hb hZ 3 rfl hS (y := 4) (N := 32) (vp_in_iff.mpr (by decide)) dX3_does_30 ?_
  refine W.eq (g2 := F0 m 31 ls [.int 20]) (by rfl) ?_
  refine lv_istore (lv' := [(6, .int 20), (5, .int 1), (0, .ref (h 36)), (1, .int 7), (2, .int 0), (3, .int x2), (4, .int 4)]) hx hb dX3_does_31 hl (by decide) rfl (fun ls hl => ?_)
  refine lv_aload_n hx hb dX3_does_33 rfl (lv_at hl 2 rfl) ?_
  refine sg_get (ci := 3) (v := .int 8) (C := RX3) (T := TX3) (N := 6) hx hb hts (fun w h => List.mem_cons_of_mem _ (gx_3 w h)) hown hK hP 36 (by decide) rfl rfl 3 (by decide) (hts _ (List.mem_cons_of_mem _ mw_16)) (fun _ h9 => h9) (congrArg (fun z => some (Value.int z)) (show f 36 3 = 8 from hf_36_3)) dX3_does_34 ?_
  refine lv_bipush (v := 24) hx hb dX3_does_37 (by decide) ?_
  refine lv_icmp_ge (tgt := 53) hx hb dX3_does_39 (by decide) (fun c => absurd c (by decide)) (fun c => ?_)
  refine lv_aload_n hx hb dX3_does_42 rfl (lv_at hl 2 rfl) ?_
  refine sg_get (ci := 3) (v := .ref (h 38)) (C := RX3) (T := TX3) (N := 6) hx hb hts (fun w h => List.mem_cons_of_mem _ (gx_3 w h)) hown hK hP 36 (by decide) rfl rfl 1 (by decide) (hts _ (List.mem_cons_of_mem _ mw_191)) (fun _ h9 => h9) rfl dX3_does_43 ?_
  refine lv_aload_n hx hb dX3_does_46 rfl (lv_at hl 2 rfl) ?_
  refine sg_get (ci := 3) (v := .int 8) (C := RX3) (T := TX3) (N := 6) hx hb hts (fun w h => List.mem_cons_of_mem _ (gx_3 w h)) hown hK hP 36 (by decide) rfl rfl 3 (by decide) (hts _ (List.mem_cons_of_mem _ mw_16)) (fun _ h9 => h9) (congrArg (fun z => some (Value.int z)) (show f 36 3 = 8 from hf_36_3)) dX3_does_47 ?_
  refine lv_iload hx hb dX3_does_50 (lv_at hl 0 rfl) ?_
  refine sg_iast hx hb hh hA hK hP hS 38 (by decide) 0 (fun _ => rfl) rfl (i := 8) (x := 20) (vp_in_iff.mpr (by decide)) dX3_does_52 (fun f_33 H locs ef_33 hP hS => ?_)
  have hI : sgI loX hiX f_33 := by rw [ef_33]; exact sgI.put hI 38 (Int32.toNatClampNeg 8) (show 0 ≤ (20 : Int32).toInt ∧ (20 : Int32).toInt ≤ 81 from by decide)
  have hF : sgK WkX3_does_7_0_4_f8_f7 f f_33 := sgK.put hF ef_33 (by rfl)
  exact blk_53 f_33 _ _ _ (by have zz36_3 : (f_33 36 3).toInt = 8 := (congrArg Int32.toInt (show f_33 36 3 = 8 from (by rw [ef_33, sg_up_n (by decide)]; exact hf_36_3))).trans (by decide); omega) (by have zz36_4 : (f_33 36 4).toInt = 7 := (congrArg Int32.toInt (show f_33 36 4 = 7 from (by rw [ef_33, sg_up_n (by decide)]; exact hf_36_4))).trans (by decide); omega) hI hF hP hS (lv_sub hl [2, 5, 6, 1, 0] rfl)

abbrev WkX3_runs_50_1_4_f7_f7 : List (Nat × Nat × Option Nat) := [(36, 36, some 3), (38, 38, none)]
set_option maxHeartbeats 4000000 in
set_option maxRecDepth 100000 in
theorem kX3_runs_50_1_4_f7_f7 (l : Launch) (D : va_G) (ca : Nat → ClassId) (za h : Nat → Nat) (hh : sgH 52 h) (f : sg_F) (L : sg_L) (Q : sg_Q) (hI : sgI loX hiX f) (x2 : Int32) (hf_36_3 : f 36 3 = 7) (hf_36_4 : f 36 4 = 7) (b2 : 2 ≤ x2.toInt ∧ x2.toInt ≤ 2) (p0 : 7 ≤ (f 36 3).toInt ∧ (f 36 3).toInt ≤ 7) (sz : Nat) : Met l yX3_runs gwX3_runs { frames := 4, cells := 0, slots := 0, locals := 100 } (sgP D vwCl (tyX ca) 52 h (eX ca h) zcX za f L Q sz [.ref (h 36), .int 50, .int 1, .int x2, .int 4]) (sgQi D vwCl 52 h (eX ca h) sz (fun r f1 L1 Q1 => ((sgI loX hiX f1 ∧ sgK WkX3_runs_50_1_4_f7_f7 f f1 ∧ L1 = L ∧ Q1 = Q) ∧ True ∧ (10 ≤ (f1 36 3).toInt ∧ (f1 36 3).toInt ≤ 10)))) 0 0 (sgA 52 h sz) := by
  refine sg_ofWi (cc := cX3_runs) (maxL := 5) RX3 (by decide) rfl rfl (Nat.le_of_ble_eq_true rfl) ?_
  intro p e s m below meth cd Qz ls hx hb hml hown hts hK hZ hP hS hl hret
  have hA := sgY.self (n := 52) (h := h) (sz := s.heap.size)
  have hl : lv_has ls 5 [(0, .ref (h 36)), (1, .int 50), (2, .int 1), (3, .int x2), (4, .int 4)] := hl
  obtain ⟨H, hH⟩ : ∃ z : Heap, z = s.heap := ⟨_, rfl⟩
  obtain ⟨locs, hlo⟩ : ∃ z : List Loc, z = [] := ⟨_, rfl⟩
  have hP : va_P D vwCl (sgw 52 h (eX ca h) f L Q) H := by rw [hH]; exact hP
  have hS : va_S (sgA 52 h s.heap.size) s.heap H locs := by rw [hH, hlo]; exact hS
  suffices hgo : W p l e ({ frames := 4, cells := 0, slots := 0, locals := 100 }) s m ([.ref (h 36), .int 50, .int 1, .int x2, .int 4] : List Value).toArray below meth cd H locs 0 0 Qz (F0 m 0 ls []) by rw [hH, hlo] at hgo; exact hgo
  clear hH hlo
  have o_1 : (f 36 3).toInt = 7 := (congrArg Int32.toInt (show f 36 3 = 7 from hf_36_3)).trans (by decide)
  have hF : sgK WkX3_runs_50_1_4_f7_f7 f f := sgK.rf
  refine lv_iload_n hx hb dX3_runs_0 rfl (lv_at hl 1 rfl) ?_
  refine lv_lookup (x := 50) (off := 217) (tgt := 218) hx hb dX3_runs_1 (by decide) (by decide) (by decide) ?_
  refine lv_aload_n hx hb dX3_runs_218 rfl (lv_at hl 0 rfl) ?_
  refine lv_iload_n hx hb dX3_runs_219 rfl (lv_at hl 2 rfl) ?_
  refine lv_iconst (v := 2) hx hb dX3_runs_220 (by decide) ?_
  refine lv_iload_n hx hb dX3_runs_221 rfl (lv_at hl 3 rfl) ?_
  refine lv_iload hx hb dX3_runs_222 (lv_at hl 4 rfl) ?_
  have q_2 : (f 36 3).toInt = 7 := (congrArg Int32.toInt (show f 36 3 = 7 from hf_36_3)).trans (by decide)
  have q_3 : (f 36 3).toInt = 7 := (congrArg Int32.toInt (show f 36 3 = 7 from hf_36_3)).trans (by decide)
  refine sg_calli (va_runV (As := [.int 1, .int 2, .int x2, .int 4]) (rest := []) ⟨hx, hb, hml, hown, hts⟩ (kX3_does_1_2_4_f7_f7 l D ca za h hh f L Q hI x2 hf_36_3 hf_36_4 (by omega) (by have k0 : (1 : Int32).toInt = 1 := (by decide); have k1 : (2 : Int32).toInt = 2 := (by decide); have k3 : (4 : Int32).toInt = 4 := (by decide); omega) H.size) (cwV 4 hts (gw_V (fun _ h => List.mem_cons_of_mem _ h) mw_318 mw_319 mw_320 mw_47 mw_317) rfl rfl rfl (by decide +kernel) ⟨Nat.le_of_ble_eq_true rfl, Nat.le_of_ble_eq_true rfl⟩) (sg_preV (ci := 3) (C := RX3) (T := TX3) (N := 6) hA hK hP hS hZ 36 (by decide) rfl rfl) rfl rfl hl.1 rfl (lv_room (Nat.le_of_ble_eq_true rfl)) dX3_runs_224 ⟨Nat.le_refl _, Nat.le_refl _⟩) hA hS (fun r_7 f_4 L_5 Q_6 H locs hq hP hS => ?_)
  obtain ⟨⟨hI, hk_f_4, eL9, eQ9⟩, hq, p_8⟩ := hq
  rw [eL9, eQ9] at hP; clear eL9 eQ9
  have hF : sgK WkX3_runs_50_1_4_f7_f7 f f_4 := sgK.tr hF hk_f_4 (by decide)
  obtain ⟨v_9, ev_9⟩ : ∃ z : Int32, z = f_4 36 3 := ⟨_, rfl⟩
  have q_10 : 0 ≤ v_9.toInt ∧ v_9.toInt ≤ 19 := by rw [ev_9]; exact hI 36 3
  have q_11 : (f_4 36 3).toInt = v_9.toInt := (congrArg Int32.toInt (show f_4 36 3 = v_9 from ev_9.symm))
  have q_12 : (f_4 36 3).toInt = v_9.toInt := (congrArg Int32.toInt (show f_4 36 3 = v_9 from ev_9.symm))
  have k_13 : (1 : Int32).toInt = 1 := by decide
  have k_14 : (2 : Int32).toInt = 2 := by decide
  have k_15 : (4 : Int32).toInt = 4 := by decide
  refine lv_aload_n hx hb dX3_runs_227 rfl (lv_at hl 0 rfl) ?_
  refine lv_aload_n hx hb dX3_runs_228 rfl (lv_at hl 0 rfl) ?_
  refine sg_get (ci := 3) (v := .int 7) (C := RX3) (T := TX3) (N := 6) hx hb hts (fun w h => List.mem_cons_of_mem _ (gx_3 w h)) hown hK hP 36 (by decide) rfl rfl 4 (by decide) (hts _ (List.mem_cons_of_mem _ mw_105)) (fun _ h9 => h9) (congrArg (fun z => some (Value.int z)) (show f_4 36 4 = 7 from ((hk_f_4 36 4 (by decide)).trans hf_36_4))) dX3_runs_229 ?_
  refine lv_iconst (v := 0) hx hb dX3_runs_232 (by decide) ?_
  refine lv_iconst (v := 2) hx hb dX3_runs_233 (by decide) ?_
  refine lv_iload hx hb dX3_runs_234 (lv_at hl 4 rfl) ?_
  have c_16 : v_9 = 8 := Int32.toInt_inj.mp (by have k9 : (8 : Int32).toInt = 8 := (by decide); omega)
  have q_17 : (f_4 36 3).toInt = 8 := (congrArg Int32.toInt (show f_4 36 3 = 8 from (Eq.trans ev_9.symm c_16))).trans (by decide)
  have q_18 : (f_4 36 3).toInt = 8 := (congrArg Int32.toInt (show f_4 36 3 = 8 from (Eq.trans ev_9.symm c_16))).trans (by decide)
  refine sg_calli (va_runV (As := [.int 7, .int 0, .int 2, .int 4]) (rest := [.int r_7]) ⟨hx, hb, hml, hown, hts⟩ (kX3_does_7_0_4_f8_f7 l D ca za h hh f_4 L Q hI 2 (Eq.trans ev_9.symm c_16) ((hk_f_4 36 4 (by decide)).trans hf_36_4) (by decide) (by have k0 : (7 : Int32).toInt = 7 := (by decide); have k1 : (0 : Int32).toInt = 0 := (by decide); have k2 : (2 : Int32).toInt = 2 := (by decide); have k3 : (4 : Int32).toInt = 4 := (by decide); omega) H.size) (cwV 4 hts (gw_V (fun _ h => List.mem_cons_of_mem _ h) mw_318 mw_319 mw_320 mw_47 mw_317) rfl rfl rfl (by decide +kernel) ⟨Nat.le_of_ble_eq_true rfl, Nat.le_of_ble_eq_true rfl⟩) (sg_preV (ci := 3) (C := RX3) (T := TX3) (N := 6) hA hK hP hS hZ 36 (by decide) rfl rfl) rfl rfl hl.1 rfl (lv_room (Nat.le_of_ble_eq_true rfl)) dX3_runs_236 ⟨Nat.le_refl _, Nat.le_refl _⟩) hA hS (fun r_22 f_19 L_20 Q_21 H locs hq hP hS => ?_)
  obtain ⟨⟨hI, hk_f_19, eL9, eQ9⟩, hq, p_23⟩ := hq
  rw [eL9, eQ9] at hP; clear eL9 eQ9
  have hF : sgK WkX3_runs_50_1_4_f7_f7 f f_19 := sgK.tr hF hk_f_19 (by decide)
  obtain ⟨v_24, ev_24⟩ : ∃ z : Int32, z = f_19 36 3 := ⟨_, rfl⟩
  have q_25 : 0 ≤ v_24.toInt ∧ v_24.toInt ≤ 19 := by rw [ev_24]; exact hI 36 3
  have q_26 : (f_19 36 3).toInt = v_24.toInt := (congrArg Int32.toInt (show f_19 36 3 = v_24 from ev_24.symm))
  have q_27 : (f_19 36 3).toInt = v_24.toInt := (congrArg Int32.toInt (show f_19 36 3 = v_24 from ev_24.symm))
  have k_28 : (7 : Int32).toInt = 7 := by decide
  have k_29 : (0 : Int32).toInt = 0 := by decide
  have k_30 : (2 : Int32).toInt = 2 := by decide
  have k_31 : (4 : Int32).toInt = 4 := by decide
  refine lv_isub hx hb dX3_runs_239 ?_
  refine lv_topi (fun v_32 ev_32 => ?_)
  have q_33 : (f_19 36 3).toInt = v_24.toInt := (congrArg Int32.toInt (show f_19 36 3 = v_24 from ev_24.symm))
  have q_34 : (f_19 36 3).toInt = v_24.toInt := (congrArg Int32.toInt (show f_19 36 3 = v_24 from ev_24.symm))
  exact hret _ _ _ _ (v_32) f_19 L Q dX3_runs_240 hP hS ⟨⟨hI, hF, rfl, rfl⟩, trivial, (by omega)⟩

abbrev WkX3_does_7_2_3_f6_f7 : List (Nat × Nat × Option Nat) := [(36, 36, some 3), (38, 38, none)]
set_option maxHeartbeats 4000000 in
set_option maxRecDepth 100000 in
theorem kX3_does_7_2_3_f6_f7 (l : Launch) (D : va_G) (ca : Nat → ClassId) (za h : Nat → Nat) (hh : sgH 52 h) (f : sg_F) (L : sg_L) (Q : sg_Q) (hI : sgI loX hiX f) (x2 : Int32) (hf_36_3 : f 36 3 = 6) (hf_36_4 : f 36 4 = 7) (b2 : 2 ≤ x2.toInt ∧ x2.toInt ≤ 2) (p0 : 6 ≤ (f 36 3).toInt ∧ (f 36 3).toInt ≤ 6) (sz : Nat) : Met l yX3_does gwX3_does { frames := 5, cells := 0, slots := 0, locals := 124 } (sgP D vwCl (tyX ca) 52 h (eX ca h) zcX za f L Q sz [.ref (h 36), .int 7, .int 2, .int x2, .int 3]) (sgQi D vwCl 52 h (eX ca h) sz (fun r f1 L1 Q1 => ((sgI loX hiX f1 ∧ sgK WkX3_does_7_2_3_f6_f7 f f1 ∧ L1 = L ∧ Q1 = Q) ∧ True ∧ (10 ≤ (f1 36 3).toInt ∧ (f1 36 3).toInt ≤ 10)))) 0 0 (sgA 52 h sz) := by
  refine sg_ofWi (cc := cX3_does) (maxL := 7) RX3 (by decide) rfl rfl (Nat.le_of_ble_eq_true rfl) ?_
  intro p e s m below meth cd Qz ls hx hb hml hown hts hK hZ hP hS hl hret
  have hA := sgY.self (n := 52) (h := h) (sz := s.heap.size)
  have hl : lv_has ls 7 [(0, .ref (h 36)), (1, .int 7), (2, .int 2), (3, .int x2), (4, .int 3)] := hl
  obtain ⟨H, hH⟩ : ∃ z : Heap, z = s.heap := ⟨_, rfl⟩
  obtain ⟨locs, hlo⟩ : ∃ z : List Loc, z = [] := ⟨_, rfl⟩
  have hP : va_P D vwCl (sgw 52 h (eX ca h) f L Q) H := by rw [hH]; exact hP
  have hS : va_S (sgA 52 h s.heap.size) s.heap H locs := by rw [hH, hlo]; exact hS
  suffices hgo : W p l e ({ frames := 5, cells := 0, slots := 0, locals := 124 }) s m ([.ref (h 36), .int 7, .int 2, .int x2, .int 3] : List Value).toArray below meth cd H locs 0 0 Qz (F0 m 0 ls []) by rw [hH, hlo] at hgo; exact hgo
  clear hH hlo
  have o_1 : (f 36 3).toInt = 6 := (congrArg Int32.toInt (show f 36 3 = 6 from hf_36_3)).trans (by decide)
  have hF : sgK WkX3_does_7_2_3_f6_f7 f f := sgK.rf
  have blk_53 : ∀ (fp_53 : sg_F) (H : Heap) (locs : List Loc) (ls : Array Slot), 6 ≤ (fp_53 36 3).toInt ∧ (fp_53 36 3).toInt ≤ 6 → 7 ≤ (fp_53 36 4).toInt ∧ (fp_53 36 4).toInt ≤ 7 → sgI loX hiX fp_53 → sgK WkX3_does_7_2_3_f6_f7 f fp_53 → va_P D vwCl (sgw 52 h (eX ca h) fp_53 L Q) H → va_S (sgA 52 h s.heap.size) s.heap H locs → lv_has ls 7 [(0, .ref (h 36)), (3, .int x2), (4, .int 3), (5, .int 4), (6, .int 50)] → W p l e ({ frames := 5, cells := 0, slots := 0, locals := 124 }) s m ([.ref (h 36), .int 7, .int 2, .int x2, .int 3] : List Value).toArray below meth cd H locs 0 0 Qz (F0 m 53 ls []) := by
    intro fp_53 H locs ls hy0_53 hy1_53 hI hF hP hS hl
    obtain ⟨v_2, ev_2⟩ : ∃ z : Int32, z = fp_53 36 3 := ⟨_, rfl⟩
    have q_3 : 0 ≤ v_2.toInt ∧ v_2.toInt ≤ 19 := by rw [ev_2]; exact hI 36 3
    have q_4 : (fp_53 36 3).toInt = v_2.toInt := by rw [ev_2]
    obtain ⟨v_5, ev_5⟩ : ∃ z : Int32, z = fp_53 36 4 := ⟨_, rfl⟩
    have q_6 : 0 ≤ v_5.toInt ∧ v_5.toInt ≤ 7 := by rw [ev_5]; exact hI 36 4
    have q_7 : (fp_53 36 4).toInt = v_5.toInt := by rw [ev_5]
    have m_8 : fp_53 36 4 = 7 := (hF 36 4 (by decide)).trans hf_36_4
    refine lv_aload_n hx hb dX3_does_53 rfl (lv_at hl 0 rfl) ?_
    refine lv_dup hx hb dX3_does_54 rfl ?_
    refine sg_get (ci := 3) (v := .int v_2) (C := RX3) (T := TX3) (N := 6) hx hb hts (fun w h => List.mem_cons_of_mem _ (gx_3 w h)) hown hK hP 36 (by decide) rfl rfl 3 (by decide) (hts _ (List.mem_cons_of_mem _ mw_16)) (fun _ h9 => h9) (congrArg (fun z => some (Value.int z)) (show fp_53 36 3 = v_2 from ev_2.symm)) dX3_does_55 ?_
    refine lv_iconst (v := 1) hx hb dX3_does_58 (by decide) ?_
    refine lv_iadd hx hb dX3_does_59 ?_
    refine lv_topi (fun v_9 ev_9 => ?_)
    have q_10 : v_9.toInt = v_2.toInt + 1 := by rw [ev_9]; have k1 : (1 : Int32).toInt = 1 := (by decide); exact (bn_addI (by omega) (by omega)).trans (by omega)
    refine sg_put (ci := 3) (x := v_9) (ty := .int) (C := RX3) (T := TX3) (N := 6) hx hb hts (fun w h => List.mem_cons_of_mem _ (gx_3 w h)) tyX3 tyX3_ok nmX3 hown hh hA hK hP hS 36 (by decide) rfl rfl 3 (by decide) (hts _ (List.mem_cons_of_mem _ mw_16)) (fun _ h9 => h9) rfl rfl (by decide +kernel) rfl rfl (Nat.le_of_ble_eq_true rfl) dX3_does_60 (fun f_11 H locs ef_11 hP hS => ?_)
    have hI : sgI loX hiX f_11 := by rw [ef_11]; exact sgI.put hI 36 3 (show 0 ≤ (v_9 : Int32).toInt ∧ (v_9 : Int32).toInt ≤ 19 from by omega)
    have hF : sgK WkX3_does_7_2_3_f6_f7 f f_11 := sgK.put hF ef_11 (by rfl)
    refine lv_aload_n hx hb dX3_does_63 rfl (lv_at hl 0 rfl) ?_
    refine lv_iload hx hb dX3_does_64 (lv_at hl 4 rfl) ?_
    refine sg_gets hx hb hZ 2 rfl hS hown (hts _ (List.mem_cons_of_mem _ mw_174)) (fun _ h9 => h9) dX3_does_66 ?_
    refine lv_iload hx hb dX3_does_69 (lv_at hl 3 rfl) ?_
    refine sg_sald hx hb hZ 2 rfl hS (y := 4) (N := 8) (vp_in_iff.mpr (by decide)) dX3_does_71 ?_
    refine W.eq (g2 := F0 m 72 ls [.int 1, .int 50, .ref (h 36)]) (by rfl) ?_
    refine lv_iload_n hx hb dX3_does_72 rfl (lv_at hl 1 rfl) ?_
    refine lv_iload hx hb dX3_does_73 (lv_at hl 2 rfl) ?_
    refine lv_iconst (v := 1) hx hb dX3_does_75 (by decide) ?_
    refine lv_iadd hx hb dX3_does_76 ?_
    refine W.eq (g2 := F0 m 77 ls [.int 4, .int x2, .int 1, .int 50, .ref (h 36)]) (by rw [show (3 + 1 : Int32) = 4 from by decide]) ?_
    have c_12 : v_9 = 7 := Int32.toInt_inj.mp (by have k9 : (7 : Int32).toInt = 7 := (by decide); omega)
    have q_13 : (f_11 36 3).toInt = 7 := (congrArg Int32.toInt (show f_11 36 3 = 7 from (Eq.trans (by rw [ef_11, sg_up_s, sgu_s]) c_12))).trans (by decide)
    have q_14 : (f_11 36 3).toInt = 7 := (congrArg Int32.toInt (show f_11 36 3 = 7 from (Eq.trans (by rw [ef_11, sg_up_s, sgu_s]) c_12))).trans (by decide)
    refine sg_calli (va_runV (As := [.int 50, .int 1, .int x2, .int 4]) (rest := []) ⟨hx, hb, hml, hown, hts⟩ (kX3_runs_50_1_4_f7_f7 l D ca za h hh f_11 L Q hI x2 (Eq.trans (by rw [ef_11, sg_up_s, sgu_s]) c_12) (by rw [ef_11, sg_up_s, sgu_n (by decide)]; exact m_8) (by omega) (by have k0 : (50 : Int32).toInt = 50 := (by decide); have k1 : (1 : Int32).toInt = 1 := (by decide); have k3 : (4 : Int32).toInt = 4 := (by decide); omega) H.size) (cwV 4 hts (gw_V (fun _ h => List.mem_cons_of_mem _ h) mw_311 mw_312 mw_313 mw_47 mw_310) rfl rfl rfl (by decide +kernel) ⟨Nat.le_of_ble_eq_true rfl, Nat.le_of_ble_eq_true rfl⟩) (sg_preV (ci := 3) (C := RX3) (T := TX3) (N := 6) hA hK hP hS hZ 36 (by decide) rfl rfl) rfl rfl hl.1 rfl (lv_room (Nat.le_of_ble_eq_true rfl)) dX3_does_77 ⟨Nat.le_refl _, Nat.le_refl _⟩) hA hS (fun r_18 f_15 L_16 Q_17 H locs hq hP hS => ?_)
    obtain ⟨⟨hI, hk_f_15, eL9, eQ9⟩, hq, p_19⟩ := hq
    rw [eL9, eQ9] at hP; clear eL9 eQ9
    have hF : sgK WkX3_does_7_2_3_f6_f7 f f_15 := sgK.tr hF hk_f_15 (by decide)
    obtain ⟨v_20, ev_20⟩ : ∃ z : Int32, z = f_15 36 3 := ⟨_, rfl⟩
    have q_21 : 0 ≤ v_20.toInt ∧ v_20.toInt ≤ 19 := by rw [ev_20]; exact hI 36 3
    have q_22 : (f_15 36 3).toInt = v_20.toInt := (congrArg Int32.toInt (show f_15 36 3 = v_20 from ev_20.symm))
    have q_23 : (f_15 36 3).toInt = v_20.toInt := (congrArg Int32.toInt (show f_15 36 3 = v_20 from ev_20.symm))
    have k_24 : (50 : Int32).toInt = 50 := by decide
    have k_25 : (1 : Int32).toInt = 1 := by decide
    have k_26 : (4 : Int32).toInt = 4 := by decide
    have q_27 : (f_15 36 3).toInt = v_20.toInt := (congrArg Int32.toInt (show f_15 36 3 = v_20 from ev_20.symm))
    have q_28 : (f_15 36 3).toInt = v_20.toInt := (congrArg Int32.toInt (show f_15 36 3 = v_20 from ev_20.symm))
    exact hret _ _ _ _ (r_18) f_15 L Q dX3_does_80 hP hS ⟨⟨hI, hF, rfl, rfl⟩, trivial, (by omega)⟩
  refine lv_iload_n hx hb dX3_does_0 rfl (lv_at hl 1 rfl) ?_
  refine lv_iload_n hx hb dX3_does_1 rfl (lv_at hl 2 rfl) ?_
  refine sg_calli (va_runS (As := [.int 7, .int 2]) (rest := []) ⟨hx, hb, hml, hown, hts⟩ (kX3_ownerOf_7_2 l D ca za h hh f L Q hI H.size) (va_cwS 2 hts (gw_S (fun _ h => List.mem_cons_of_mem _ h) mw_189 mw_190 mw_47 mw_188) rfl rfl rfl (by decide +kernel) ⟨Nat.le_of_ble_eq_true rfl, Nat.le_of_ble_eq_true rfl⟩) (sg_preS hA hK hP hS hZ) rfl rfl hl.1 rfl (lv_room (Nat.le_of_ble_eq_true rfl)) dX3_does_2 ⟨Nat.le_refl _, Nat.le_refl _⟩) hA hS (fun r_32 f_29 L_30 Q_31 H locs hq hP hS => ?_)
  obtain ⟨⟨ef9, eL9, eQ9⟩, hq⟩ := hq
  rw [ef9, eL9, eQ9] at hP; clear ef9 eL9 eQ9
  obtain rfl : r_32 = 4 := Int32.toInt_inj.mp (by have k9 : (4 : Int32).toInt = 4 := (by decide); omega)
  refine lv_istore (lv' := [(5, .int 4), (0, .ref (h 36)), (1, .int 7), (2, .int 2), (3, .int x2), (4, .int 3)]) hx hb dX3_does_5 hl (by decide) rfl (fun ls hl => ?_)
  refine lv_iload hx hb dX3_does_7 (lv_at hl 0 rfl) ?_
  refine lv_if_lt (tgt := 19) hx hb dX3_does_9 (by decide) (fun c => absurd c (by decide)) (fun c => ?_)
  refine lv_iload hx hb dX3_does_12 (lv_at hl 5 rfl) ?_
  refine lv_bipush (v := 40) hx hb dX3_does_14 (by decide) ?_
  refine lv_icmp_le (tgt := 21) hx hb dX3_does_16 (by decide) (fun c => ?_) (fun c => absurd c (by decide))
  refine sg_gets hx hb hZ 3 rfl hS hown (hts _ (List.mem_cons_of_mem _ mw_173)) (fun _ h9 => h9) dX3_does_21 ?_
  refine lv_iload hx hb dX3_does_24 (lv_at hl 0 rfl) ?_
  refine lv_iconst (v := 4) hx hb dX3_does_26 (by decide) ?_
  refine lv_imul hx hb dX3_does_27 ?_
  refine W.eq (g2 := F0 m 28 ls [.int 16, .ref (za 3)]) (by rw [show (4 * 4 : Int32) = 16 from by decide]) ?_
  refine lv_iload_n hx hb dX3_does_28 rfl (lv_at hl 3 rfl) ?_
  refine lv_iadd hx hb dX3_does_29 ?_
  refine W.eq (g2 := F0 m 30 ls [.int 18, .ref (za 3)]) (by rw [show (16 + 2 : Int32) = 18 from by decide]) ?_
  refine sg_sald hx hb hZ 3 rfl hS (y := 18) (N := 32) (vp_in_iff.mpr (by decide)) dX3_does_30 ?_
  refine W.eq (g2 := F0 m 31 ls [.int 50]) (by rfl) ?_
  refine lv_istore (lv' := [(6, .int 50), (5, .int 4), (0, .ref (h 36)), (1, .int 7), (2, .int 2), (3, .int x2), (4, .int 3)]) hx hb dX3_does_31 hl (by decide) rfl (fun ls hl => ?_)
  refine lv_aload_n hx hb dX3_does_33 rfl (lv_at hl 2 rfl) ?_
  refine sg_get (ci := 3) (v := .int 6) (C := RX3) (T := TX3) (N := 6) hx hb hts (fun w h => List.mem_cons_of_mem _ (gx_3 w h)) hown hK hP 36 (by decide) rfl rfl 3 (by decide) (hts _ (List.mem_cons_of_mem _ mw_16)) (fun _ h9 => h9) (congrArg (fun z => some (Value.int z)) (show f 36 3 = 6 from hf_36_3)) dX3_does_34 ?_
  refine lv_bipush (v := 24) hx hb dX3_does_37 (by decide) ?_
  refine lv_icmp_ge (tgt := 53) hx hb dX3_does_39 (by decide) (fun c => absurd c (by decide)) (fun c => ?_)
  refine lv_aload_n hx hb dX3_does_42 rfl (lv_at hl 2 rfl) ?_
  refine sg_get (ci := 3) (v := .ref (h 38)) (C := RX3) (T := TX3) (N := 6) hx hb hts (fun w h => List.mem_cons_of_mem _ (gx_3 w h)) hown hK hP 36 (by decide) rfl rfl 1 (by decide) (hts _ (List.mem_cons_of_mem _ mw_191)) (fun _ h9 => h9) rfl dX3_does_43 ?_
  refine lv_aload_n hx hb dX3_does_46 rfl (lv_at hl 2 rfl) ?_
  refine sg_get (ci := 3) (v := .int 6) (C := RX3) (T := TX3) (N := 6) hx hb hts (fun w h => List.mem_cons_of_mem _ (gx_3 w h)) hown hK hP 36 (by decide) rfl rfl 3 (by decide) (hts _ (List.mem_cons_of_mem _ mw_16)) (fun _ h9 => h9) (congrArg (fun z => some (Value.int z)) (show f 36 3 = 6 from hf_36_3)) dX3_does_47 ?_
  refine lv_iload hx hb dX3_does_50 (lv_at hl 0 rfl) ?_
  refine sg_iast hx hb hh hA hK hP hS 38 (by decide) 0 (fun _ => rfl) rfl (i := 6) (x := 50) (vp_in_iff.mpr (by decide)) dX3_does_52 (fun f_33 H locs ef_33 hP hS => ?_)
  have hI : sgI loX hiX f_33 := by rw [ef_33]; exact sgI.put hI 38 (Int32.toNatClampNeg 6) (show 0 ≤ (50 : Int32).toInt ∧ (50 : Int32).toInt ≤ 81 from by decide)
  have hF : sgK WkX3_does_7_2_3_f6_f7 f f_33 := sgK.put hF ef_33 (by rfl)
  exact blk_53 f_33 _ _ _ (by have zz36_3 : (f_33 36 3).toInt = 6 := (congrArg Int32.toInt (show f_33 36 3 = 6 from (by rw [ef_33, sg_up_n (by decide)]; exact hf_36_3))).trans (by decide); omega) (by have zz36_4 : (f_33 36 4).toInt = 7 := (congrArg Int32.toInt (show f_33 36 4 = 7 from (by rw [ef_33, sg_up_n (by decide)]; exact hf_36_4))).trans (by decide); omega) hI hF hP hS (lv_sub hl [2, 5, 6, 1, 0] rfl)

abbrev WkX3_runs_80_4_3_f3_f7 : List (Nat × Nat × Option Nat) := [(36, 36, some 3), (38, 38, none)]
set_option maxHeartbeats 4000000 in
set_option maxRecDepth 100000 in
theorem kX3_runs_80_4_3_f3_f7 (l : Launch) (D : va_G) (ca : Nat → ClassId) (za h : Nat → Nat) (hh : sgH 52 h) (f : sg_F) (L : sg_L) (Q : sg_Q) (hI : sgI loX hiX f) (x2 : Int32) (hf_36_3 : f 36 3 = 3) (hf_36_4 : f 36 4 = 7) (p0 : 3 ≤ (f 36 3).toInt ∧ (f 36 3).toInt ≤ 3) (sz : Nat) : Met l yX3_runs gwX3_runs { frames := 6, cells := 0, slots := 0, locals := 150 } (sgP D vwCl (tyX ca) 52 h (eX ca h) zcX za f L Q sz [.ref (h 36), .int 80, .int 4, .int x2, .int 3]) (sgQi D vwCl 52 h (eX ca h) sz (fun r f1 L1 Q1 => ((sgI loX hiX f1 ∧ sgK WkX3_runs_80_4_3_f3_f7 f f1 ∧ L1 = L ∧ Q1 = Q) ∧ True ∧ (10 ≤ (f1 36 3).toInt ∧ (f1 36 3).toInt ≤ 10)))) 0 0 (sgA 52 h sz) := by
  refine sg_ofWi (cc := cX3_runs) (maxL := 5) RX3 (by decide) rfl rfl (Nat.le_of_ble_eq_true rfl) ?_
  intro p e s m below meth cd Qz ls hx hb hml hown hts hK hZ hP hS hl hret
  have hA := sgY.self (n := 52) (h := h) (sz := s.heap.size)
  have hl : lv_has ls 5 [(0, .ref (h 36)), (1, .int 80), (2, .int 4), (3, .int x2), (4, .int 3)] := hl
  obtain ⟨H, hH⟩ : ∃ z : Heap, z = s.heap := ⟨_, rfl⟩
  obtain ⟨locs, hlo⟩ : ∃ z : List Loc, z = [] := ⟨_, rfl⟩
  have hP : va_P D vwCl (sgw 52 h (eX ca h) f L Q) H := by rw [hH]; exact hP
  have hS : va_S (sgA 52 h s.heap.size) s.heap H locs := by rw [hH, hlo]; exact hS
  suffices hgo : W p l e ({ frames := 6, cells := 0, slots := 0, locals := 150 }) s m ([.ref (h 36), .int 80, .int 4, .int x2, .int 3] : List Value).toArray below meth cd H locs 0 0 Qz (F0 m 0 ls []) by rw [hH, hlo] at hgo; exact hgo
  clear hH hlo
  have o_1 : (f 36 3).toInt = 3 := (congrArg Int32.toInt (show f 36 3 = 3 from hf_36_3)).trans (by decide)
  have hF : sgK WkX3_runs_80_4_3_f3_f7 f f := sgK.rf
  refine lv_iload_n hx hb dX3_runs_0 rfl (lv_at hl 1 rfl) ?_
  refine lv_lookup (x := 80) (off := 264) (tgt := 265) hx hb dX3_runs_1 (by decide) (by decide) (by decide) ?_
  refine lv_aload_n hx hb dX3_runs_265 rfl (lv_at hl 0 rfl) ?_
  refine lv_iload_n hx hb dX3_runs_266 rfl (lv_at hl 2 rfl) ?_
  refine lv_iconst (v := 1) hx hb dX3_runs_267 (by decide) ?_
  refine lv_iload_n hx hb dX3_runs_268 rfl (lv_at hl 3 rfl) ?_
  refine lv_iload hx hb dX3_runs_269 (lv_at hl 4 rfl) ?_
  have q_2 : (f 36 3).toInt = 3 := (congrArg Int32.toInt (show f 36 3 = 3 from hf_36_3)).trans (by decide)
  have q_3 : (f 36 3).toInt = 3 := (congrArg Int32.toInt (show f 36 3 = 3 from hf_36_3)).trans (by decide)
  refine sg_calli (va_runV (As := [.int 4, .int 1, .int x2, .int 3]) (rest := []) ⟨hx, hb, hml, hown, hts⟩ (kX3_does_4_1_3_f3_f7 l D ca za h hh f L Q hI x2 hf_36_3 hf_36_4 (by have k0 : (4 : Int32).toInt = 4 := (by decide); have k1 : (1 : Int32).toInt = 1 := (by decide); have k3 : (3 : Int32).toInt = 3 := (by decide); omega) H.size) (cwV 4 hts (gw_V (fun _ h => List.mem_cons_of_mem _ h) mw_318 mw_319 mw_320 mw_47 mw_317) rfl rfl rfl (by decide +kernel) ⟨Nat.le_of_ble_eq_true rfl, Nat.le_of_ble_eq_true rfl⟩) (sg_preV (ci := 3) (C := RX3) (T := TX3) (N := 6) hA hK hP hS hZ 36 (by decide) rfl rfl) rfl rfl hl.1 rfl (lv_room (Nat.le_of_ble_eq_true rfl)) dX3_runs_271 ⟨Nat.le_refl _, Nat.le_refl _⟩) hA hS (fun r_7 f_4 L_5 Q_6 H locs hq hP hS => ?_)
  obtain ⟨⟨hI, hk_f_4, eL9, eQ9⟩, hq, p_8⟩ := hq
  rw [eL9, eQ9] at hP; clear eL9 eQ9
  have hF : sgK WkX3_runs_80_4_3_f3_f7 f f_4 := sgK.tr hF hk_f_4 (by decide)
  obtain ⟨v_9, ev_9⟩ : ∃ z : Int32, z = f_4 36 3 := ⟨_, rfl⟩
  have q_10 : 0 ≤ v_9.toInt ∧ v_9.toInt ≤ 19 := by rw [ev_9]; exact hI 36 3
  have q_11 : (f_4 36 3).toInt = v_9.toInt := (congrArg Int32.toInt (show f_4 36 3 = v_9 from ev_9.symm))
  have q_12 : (f_4 36 3).toInt = v_9.toInt := (congrArg Int32.toInt (show f_4 36 3 = v_9 from ev_9.symm))
  have k_13 : (4 : Int32).toInt = 4 := by decide
  have k_14 : (1 : Int32).toInt = 1 := by decide
  have k_15 : (3 : Int32).toInt = 3 := by decide
  refine lv_aload_n hx hb dX3_runs_274 rfl (lv_at hl 0 rfl) ?_
  refine lv_aload_n hx hb dX3_runs_275 rfl (lv_at hl 0 rfl) ?_
  refine sg_get (ci := 3) (v := .int 7) (C := RX3) (T := TX3) (N := 6) hx hb hts (fun w h => List.mem_cons_of_mem _ (gx_3 w h)) hown hK hP 36 (by decide) rfl rfl 4 (by decide) (hts _ (List.mem_cons_of_mem _ mw_105)) (fun _ h9 => h9) (congrArg (fun z => some (Value.int z)) (show f_4 36 4 = 7 from ((hk_f_4 36 4 (by decide)).trans hf_36_4))) dX3_runs_276 ?_
  refine lv_iconst (v := 2) hx hb dX3_runs_279 (by decide) ?_
  refine lv_iconst (v := 2) hx hb dX3_runs_280 (by decide) ?_
  refine lv_iload hx hb dX3_runs_281 (lv_at hl 4 rfl) ?_
  have c_16 : v_9 = 6 := Int32.toInt_inj.mp (by have k9 : (6 : Int32).toInt = 6 := (by decide); omega)
  have q_17 : (f_4 36 3).toInt = 6 := (congrArg Int32.toInt (show f_4 36 3 = 6 from (Eq.trans ev_9.symm c_16))).trans (by decide)
  have q_18 : (f_4 36 3).toInt = 6 := (congrArg Int32.toInt (show f_4 36 3 = 6 from (Eq.trans ev_9.symm c_16))).trans (by decide)
  refine sg_calli (va_runV (As := [.int 7, .int 2, .int 2, .int 3]) (rest := [.int r_7]) ⟨hx, hb, hml, hown, hts⟩ (kX3_does_7_2_3_f6_f7 l D ca za h hh f_4 L Q hI 2 (Eq.trans ev_9.symm c_16) ((hk_f_4 36 4 (by decide)).trans hf_36_4) (by decide) (by have k0 : (7 : Int32).toInt = 7 := (by decide); have k1 : (2 : Int32).toInt = 2 := (by decide); have k2 : (2 : Int32).toInt = 2 := (by decide); have k3 : (3 : Int32).toInt = 3 := (by decide); omega) H.size) (cwV 4 hts (gw_V (fun _ h => List.mem_cons_of_mem _ h) mw_318 mw_319 mw_320 mw_47 mw_317) rfl rfl rfl (by decide +kernel) ⟨Nat.le_of_ble_eq_true rfl, Nat.le_of_ble_eq_true rfl⟩) (sg_preV (ci := 3) (C := RX3) (T := TX3) (N := 6) hA hK hP hS hZ 36 (by decide) rfl rfl) rfl rfl hl.1 rfl (lv_room (Nat.le_of_ble_eq_true rfl)) dX3_runs_283 ⟨Nat.le_refl _, Nat.le_refl _⟩) hA hS (fun r_22 f_19 L_20 Q_21 H locs hq hP hS => ?_)
  obtain ⟨⟨hI, hk_f_19, eL9, eQ9⟩, hq, p_23⟩ := hq
  rw [eL9, eQ9] at hP; clear eL9 eQ9
  have hF : sgK WkX3_runs_80_4_3_f3_f7 f f_19 := sgK.tr hF hk_f_19 (by decide)
  obtain ⟨v_24, ev_24⟩ : ∃ z : Int32, z = f_19 36 3 := ⟨_, rfl⟩
  have q_25 : 0 ≤ v_24.toInt ∧ v_24.toInt ≤ 19 := by rw [ev_24]; exact hI 36 3
  have q_26 : (f_19 36 3).toInt = v_24.toInt := (congrArg Int32.toInt (show f_19 36 3 = v_24 from ev_24.symm))
  have q_27 : (f_19 36 3).toInt = v_24.toInt := (congrArg Int32.toInt (show f_19 36 3 = v_24 from ev_24.symm))
  have k_28 : (7 : Int32).toInt = 7 := by decide
  have k_29 : (2 : Int32).toInt = 2 := by decide
  have k_30 : (2 : Int32).toInt = 2 := by decide
  have k_31 : (3 : Int32).toInt = 3 := by decide
  refine lv_iadd hx hb dX3_runs_286 ?_
  refine lv_topi (fun v_32 ev_32 => ?_)
  have q_33 : (f_19 36 3).toInt = v_24.toInt := (congrArg Int32.toInt (show f_19 36 3 = v_24 from ev_24.symm))
  have q_34 : (f_19 36 3).toInt = v_24.toInt := (congrArg Int32.toInt (show f_19 36 3 = v_24 from ev_24.symm))
  exact hret _ _ _ _ (v_32) f_19 L Q dX3_runs_287 hP hS ⟨⟨hI, hF, rfl, rfl⟩, trivial, (by omega)⟩

abbrev WkX3_does_7_1_2_f2_f7 : List (Nat × Nat × Option Nat) := [(36, 36, some 3), (38, 38, none)]
set_option maxHeartbeats 4000000 in
set_option maxRecDepth 100000 in
theorem kX3_does_7_1_2_f2_f7 (l : Launch) (D : va_G) (ca : Nat → ClassId) (za h : Nat → Nat) (hh : sgH 52 h) (f : sg_F) (L : sg_L) (Q : sg_Q) (hI : sgI loX hiX f) (x2 : Int32) (hf_36_3 : f 36 3 = 2) (hf_36_4 : f 36 4 = 7) (p0 : 2 ≤ (f 36 3).toInt ∧ (f 36 3).toInt ≤ 2) (sz : Nat) : Met l yX3_does gwX3_does { frames := 7, cells := 0, slots := 0, locals := 174 } (sgP D vwCl (tyX ca) 52 h (eX ca h) zcX za f L Q sz [.ref (h 36), .int 7, .int 1, .int x2, .int 2]) (sgQi D vwCl 52 h (eX ca h) sz (fun r f1 L1 Q1 => ((sgI loX hiX f1 ∧ sgK WkX3_does_7_1_2_f2_f7 f f1 ∧ L1 = L ∧ Q1 = Q) ∧ True ∧ (10 ≤ (f1 36 3).toInt ∧ (f1 36 3).toInt ≤ 10)))) 0 0 (sgA 52 h sz) := by
  refine sg_ofWi (cc := cX3_does) (maxL := 7) RX3 (by decide) rfl rfl (Nat.le_of_ble_eq_true rfl) ?_
  intro p e s m below meth cd Qz ls hx hb hml hown hts hK hZ hP hS hl hret
  have hA := sgY.self (n := 52) (h := h) (sz := s.heap.size)
  have hl : lv_has ls 7 [(0, .ref (h 36)), (1, .int 7), (2, .int 1), (3, .int x2), (4, .int 2)] := hl
  obtain ⟨H, hH⟩ : ∃ z : Heap, z = s.heap := ⟨_, rfl⟩
  obtain ⟨locs, hlo⟩ : ∃ z : List Loc, z = [] := ⟨_, rfl⟩
  have hP : va_P D vwCl (sgw 52 h (eX ca h) f L Q) H := by rw [hH]; exact hP
  have hS : va_S (sgA 52 h s.heap.size) s.heap H locs := by rw [hH, hlo]; exact hS
  suffices hgo : W p l e ({ frames := 7, cells := 0, slots := 0, locals := 174 }) s m ([.ref (h 36), .int 7, .int 1, .int x2, .int 2] : List Value).toArray below meth cd H locs 0 0 Qz (F0 m 0 ls []) by rw [hH, hlo] at hgo; exact hgo
  clear hH hlo
  have o_1 : (f 36 3).toInt = 2 := (congrArg Int32.toInt (show f 36 3 = 2 from hf_36_3)).trans (by decide)
  have hF : sgK WkX3_does_7_1_2_f2_f7 f f := sgK.rf
  have blk_53 : ∀ (fp_53 : sg_F) (H : Heap) (locs : List Loc) (ls : Array Slot), 2 ≤ (fp_53 36 3).toInt ∧ (fp_53 36 3).toInt ≤ 2 → 7 ≤ (fp_53 36 4).toInt ∧ (fp_53 36 4).toInt ≤ 7 → sgI loX hiX fp_53 → sgK WkX3_does_7_1_2_f2_f7 f fp_53 → va_P D vwCl (sgw 52 h (eX ca h) fp_53 L Q) H → va_S (sgA 52 h s.heap.size) s.heap H locs → lv_has ls 7 [(0, .ref (h 36)), (3, .int x2), (4, .int 2), (5, .int 7), (6, .int 80)] → W p l e ({ frames := 7, cells := 0, slots := 0, locals := 174 }) s m ([.ref (h 36), .int 7, .int 1, .int x2, .int 2] : List Value).toArray below meth cd H locs 0 0 Qz (F0 m 53 ls []) := by
    intro fp_53 H locs ls hy0_53 hy1_53 hI hF hP hS hl
    obtain ⟨v_2, ev_2⟩ : ∃ z : Int32, z = fp_53 36 3 := ⟨_, rfl⟩
    have q_3 : 0 ≤ v_2.toInt ∧ v_2.toInt ≤ 19 := by rw [ev_2]; exact hI 36 3
    have q_4 : (fp_53 36 3).toInt = v_2.toInt := by rw [ev_2]
    obtain ⟨v_5, ev_5⟩ : ∃ z : Int32, z = fp_53 36 4 := ⟨_, rfl⟩
    have q_6 : 0 ≤ v_5.toInt ∧ v_5.toInt ≤ 7 := by rw [ev_5]; exact hI 36 4
    have q_7 : (fp_53 36 4).toInt = v_5.toInt := by rw [ev_5]
    have m_8 : fp_53 36 4 = 7 := (hF 36 4 (by decide)).trans hf_36_4
    refine lv_aload_n hx hb dX3_does_53 rfl (lv_at hl 0 rfl) ?_
    refine lv_dup hx hb dX3_does_54 rfl ?_
    refine sg_get (ci := 3) (v := .int v_2) (C := RX3) (T := TX3) (N := 6) hx hb hts (fun w h => List.mem_cons_of_mem _ (gx_3 w h)) hown hK hP 36 (by decide) rfl rfl 3 (by decide) (hts _ (List.mem_cons_of_mem _ mw_16)) (fun _ h9 => h9) (congrArg (fun z => some (Value.int z)) (show fp_53 36 3 = v_2 from ev_2.symm)) dX3_does_55 ?_
    refine lv_iconst (v := 1) hx hb dX3_does_58 (by decide) ?_
    refine lv_iadd hx hb dX3_does_59 ?_
    refine lv_topi (fun v_9 ev_9 => ?_)
    have q_10 : v_9.toInt = v_2.toInt + 1 := by rw [ev_9]; have k1 : (1 : Int32).toInt = 1 := (by decide); exact (bn_addI (by omega) (by omega)).trans (by omega)
    refine sg_put (ci := 3) (x := v_9) (ty := .int) (C := RX3) (T := TX3) (N := 6) hx hb hts (fun w h => List.mem_cons_of_mem _ (gx_3 w h)) tyX3 tyX3_ok nmX3 hown hh hA hK hP hS 36 (by decide) rfl rfl 3 (by decide) (hts _ (List.mem_cons_of_mem _ mw_16)) (fun _ h9 => h9) rfl rfl (by decide +kernel) rfl rfl (Nat.le_of_ble_eq_true rfl) dX3_does_60 (fun f_11 H locs ef_11 hP hS => ?_)
    have hI : sgI loX hiX f_11 := by rw [ef_11]; exact sgI.put hI 36 3 (show 0 ≤ (v_9 : Int32).toInt ∧ (v_9 : Int32).toInt ≤ 19 from by omega)
    have hF : sgK WkX3_does_7_1_2_f2_f7 f f_11 := sgK.put hF ef_11 (by rfl)
    refine lv_aload_n hx hb dX3_does_63 rfl (lv_at hl 0 rfl) ?_
    refine lv_iload hx hb dX3_does_64 (lv_at hl 4 rfl) ?_
    refine sg_gets hx hb hZ 2 rfl hS hown (hts _ (List.mem_cons_of_mem _ mw_174)) (fun _ h9 => h9) dX3_does_66 ?_
    refine lv_iload hx hb dX3_does_69 (lv_at hl 3 rfl) ?_
    refine sg_sald hx hb hZ 2 rfl hS (y := 7) (N := 8) (vp_in_iff.mpr (by decide)) dX3_does_71 ?_
    refine W.eq (g2 := F0 m 72 ls [.int 4, .int 80, .ref (h 36)]) (by rfl) ?_
    refine lv_iload_n hx hb dX3_does_72 rfl (lv_at hl 1 rfl) ?_
    refine lv_iload hx hb dX3_does_73 (lv_at hl 2 rfl) ?_
    refine lv_iconst (v := 1) hx hb dX3_does_75 (by decide) ?_
    refine lv_iadd hx hb dX3_does_76 ?_
    refine W.eq (g2 := F0 m 77 ls [.int 3, .int x2, .int 4, .int 80, .ref (h 36)]) (by rw [show (2 + 1 : Int32) = 3 from by decide]) ?_
    have c_12 : v_9 = 3 := Int32.toInt_inj.mp (by have k9 : (3 : Int32).toInt = 3 := (by decide); omega)
    have q_13 : (f_11 36 3).toInt = 3 := (congrArg Int32.toInt (show f_11 36 3 = 3 from (Eq.trans (by rw [ef_11, sg_up_s, sgu_s]) c_12))).trans (by decide)
    have q_14 : (f_11 36 3).toInt = 3 := (congrArg Int32.toInt (show f_11 36 3 = 3 from (Eq.trans (by rw [ef_11, sg_up_s, sgu_s]) c_12))).trans (by decide)
    refine sg_calli (va_runV (As := [.int 80, .int 4, .int x2, .int 3]) (rest := []) ⟨hx, hb, hml, hown, hts⟩ (kX3_runs_80_4_3_f3_f7 l D ca za h hh f_11 L Q hI x2 (Eq.trans (by rw [ef_11, sg_up_s, sgu_s]) c_12) (by rw [ef_11, sg_up_s, sgu_n (by decide)]; exact m_8) (by have k0 : (80 : Int32).toInt = 80 := (by decide); have k1 : (4 : Int32).toInt = 4 := (by decide); have k3 : (3 : Int32).toInt = 3 := (by decide); omega) H.size) (cwV 4 hts (gw_V (fun _ h => List.mem_cons_of_mem _ h) mw_311 mw_312 mw_313 mw_47 mw_310) rfl rfl rfl (by decide +kernel) ⟨Nat.le_of_ble_eq_true rfl, Nat.le_of_ble_eq_true rfl⟩) (sg_preV (ci := 3) (C := RX3) (T := TX3) (N := 6) hA hK hP hS hZ 36 (by decide) rfl rfl) rfl rfl hl.1 rfl (lv_room (Nat.le_of_ble_eq_true rfl)) dX3_does_77 ⟨Nat.le_refl _, Nat.le_refl _⟩) hA hS (fun r_18 f_15 L_16 Q_17 H locs hq hP hS => ?_)
    obtain ⟨⟨hI, hk_f_15, eL9, eQ9⟩, hq, p_19⟩ := hq
    rw [eL9, eQ9] at hP; clear eL9 eQ9
    have hF : sgK WkX3_does_7_1_2_f2_f7 f f_15 := sgK.tr hF hk_f_15 (by decide)
    obtain ⟨v_20, ev_20⟩ : ∃ z : Int32, z = f_15 36 3 := ⟨_, rfl⟩
    have q_21 : 0 ≤ v_20.toInt ∧ v_20.toInt ≤ 19 := by rw [ev_20]; exact hI 36 3
    have q_22 : (f_15 36 3).toInt = v_20.toInt := (congrArg Int32.toInt (show f_15 36 3 = v_20 from ev_20.symm))
    have q_23 : (f_15 36 3).toInt = v_20.toInt := (congrArg Int32.toInt (show f_15 36 3 = v_20 from ev_20.symm))
    have k_24 : (80 : Int32).toInt = 80 := by decide
    have k_25 : (4 : Int32).toInt = 4 := by decide
    have k_26 : (3 : Int32).toInt = 3 := by decide
    have q_27 : (f_15 36 3).toInt = v_20.toInt := (congrArg Int32.toInt (show f_15 36 3 = v_20 from ev_20.symm))
    have q_28 : (f_15 36 3).toInt = v_20.toInt := (congrArg Int32.toInt (show f_15 36 3 = v_20 from ev_20.symm))
    exact hret _ _ _ _ (r_18) f_15 L Q dX3_does_80 hP hS ⟨⟨hI, hF, rfl, rfl⟩, trivial, (by omega)⟩
  refine lv_iload_n hx hb dX3_does_0 rfl (lv_at hl 1 rfl) ?_
  refine lv_iload_n hx hb dX3_does_1 rfl (lv_at hl 2 rfl) ?_
  refine sg_calli (va_runS (As := [.int 7, .int 1]) (rest := []) ⟨hx, hb, hml, hown, hts⟩ (kX3_ownerOf_7_1 l D ca za h hh f L Q hI H.size) (va_cwS 2 hts (gw_S (fun _ h => List.mem_cons_of_mem _ h) mw_189 mw_190 mw_47 mw_188) rfl rfl rfl (by decide +kernel) ⟨Nat.le_of_ble_eq_true rfl, Nat.le_of_ble_eq_true rfl⟩) (sg_preS hA hK hP hS hZ) rfl rfl hl.1 rfl (lv_room (Nat.le_of_ble_eq_true rfl)) dX3_does_2 ⟨Nat.le_refl _, Nat.le_refl _⟩) hA hS (fun r_32 f_29 L_30 Q_31 H locs hq hP hS => ?_)
  obtain ⟨⟨ef9, eL9, eQ9⟩, hq⟩ := hq
  rw [ef9, eL9, eQ9] at hP; clear ef9 eL9 eQ9
  obtain rfl : r_32 = 7 := Int32.toInt_inj.mp (by have k9 : (7 : Int32).toInt = 7 := (by decide); omega)
  refine lv_istore (lv' := [(5, .int 7), (0, .ref (h 36)), (1, .int 7), (2, .int 1), (3, .int x2), (4, .int 2)]) hx hb dX3_does_5 hl (by decide) rfl (fun ls hl => ?_)
  refine lv_iload hx hb dX3_does_7 (lv_at hl 0 rfl) ?_
  refine lv_if_lt (tgt := 19) hx hb dX3_does_9 (by decide) (fun c => absurd c (by decide)) (fun c => ?_)
  refine lv_iload hx hb dX3_does_12 (lv_at hl 5 rfl) ?_
  refine lv_bipush (v := 40) hx hb dX3_does_14 (by decide) ?_
  refine lv_icmp_le (tgt := 21) hx hb dX3_does_16 (by decide) (fun c => ?_) (fun c => absurd c (by decide))
  refine sg_gets hx hb hZ 3 rfl hS hown (hts _ (List.mem_cons_of_mem _ mw_173)) (fun _ h9 => h9) dX3_does_21 ?_
  refine lv_iload hx hb dX3_does_24 (lv_at hl 0 rfl) ?_
  refine lv_iconst (v := 4) hx hb dX3_does_26 (by decide) ?_
  refine lv_imul hx hb dX3_does_27 ?_
  refine W.eq (g2 := F0 m 28 ls [.int 28, .ref (za 3)]) (by rw [show (7 * 4 : Int32) = 28 from by decide]) ?_
  refine lv_iload_n hx hb dX3_does_28 rfl (lv_at hl 3 rfl) ?_
  refine lv_iadd hx hb dX3_does_29 ?_
  refine W.eq (g2 := F0 m 30 ls [.int 29, .ref (za 3)]) (by rw [show (28 + 1 : Int32) = 29 from by decide]) ?_
  refine sg_sald hx hb hZ 3 rfl hS (y := 29) (N := 32) (vp_in_iff.mpr (by decide)) dX3_does_30 ?_
  refine W.eq (g2 := F0 m 31 ls [.int 80]) (by rfl) ?_
  refine lv_istore (lv' := [(6, .int 80), (5, .int 7), (0, .ref (h 36)), (1, .int 7), (2, .int 1), (3, .int x2), (4, .int 2)]) hx hb dX3_does_31 hl (by decide) rfl (fun ls hl => ?_)
  refine lv_aload_n hx hb dX3_does_33 rfl (lv_at hl 2 rfl) ?_
  refine sg_get (ci := 3) (v := .int 2) (C := RX3) (T := TX3) (N := 6) hx hb hts (fun w h => List.mem_cons_of_mem _ (gx_3 w h)) hown hK hP 36 (by decide) rfl rfl 3 (by decide) (hts _ (List.mem_cons_of_mem _ mw_16)) (fun _ h9 => h9) (congrArg (fun z => some (Value.int z)) (show f 36 3 = 2 from hf_36_3)) dX3_does_34 ?_
  refine lv_bipush (v := 24) hx hb dX3_does_37 (by decide) ?_
  refine lv_icmp_ge (tgt := 53) hx hb dX3_does_39 (by decide) (fun c => absurd c (by decide)) (fun c => ?_)
  refine lv_aload_n hx hb dX3_does_42 rfl (lv_at hl 2 rfl) ?_
  refine sg_get (ci := 3) (v := .ref (h 38)) (C := RX3) (T := TX3) (N := 6) hx hb hts (fun w h => List.mem_cons_of_mem _ (gx_3 w h)) hown hK hP 36 (by decide) rfl rfl 1 (by decide) (hts _ (List.mem_cons_of_mem _ mw_191)) (fun _ h9 => h9) rfl dX3_does_43 ?_
  refine lv_aload_n hx hb dX3_does_46 rfl (lv_at hl 2 rfl) ?_
  refine sg_get (ci := 3) (v := .int 2) (C := RX3) (T := TX3) (N := 6) hx hb hts (fun w h => List.mem_cons_of_mem _ (gx_3 w h)) hown hK hP 36 (by decide) rfl rfl 3 (by decide) (hts _ (List.mem_cons_of_mem _ mw_16)) (fun _ h9 => h9) (congrArg (fun z => some (Value.int z)) (show f 36 3 = 2 from hf_36_3)) dX3_does_47 ?_
  refine lv_iload hx hb dX3_does_50 (lv_at hl 0 rfl) ?_
  refine sg_iast hx hb hh hA hK hP hS 38 (by decide) 0 (fun _ => rfl) rfl (i := 2) (x := 80) (vp_in_iff.mpr (by decide)) dX3_does_52 (fun f_33 H locs ef_33 hP hS => ?_)
  have hI : sgI loX hiX f_33 := by rw [ef_33]; exact sgI.put hI 38 (Int32.toNatClampNeg 2) (show 0 ≤ (80 : Int32).toInt ∧ (80 : Int32).toInt ≤ 81 from by decide)
  have hF : sgK WkX3_does_7_1_2_f2_f7 f f_33 := sgK.put hF ef_33 (by rfl)
  exact blk_53 f_33 _ _ _ (by have zz36_3 : (f_33 36 3).toInt = 2 := (congrArg Int32.toInt (show f_33 36 3 = 2 from (by rw [ef_33, sg_up_n (by decide)]; exact hf_36_3))).trans (by decide); omega) (by have zz36_4 : (f_33 36 4).toInt = 7 := (congrArg Int32.toInt (show f_33 36 4 = 7 from (by rw [ef_33, sg_up_n (by decide)]; exact hf_36_4))).trans (by decide); omega) hI hF hP hS (lv_sub hl [2, 5, 6, 1, 0] rfl)

set_option maxHeartbeats 4000000 in
set_option maxRecDepth 100000 in
theorem kX3_runs_11_m1_4_f12_f7 (l : Launch) (D : va_G) (ca : Nat → ClassId) (za h : Nat → Nat) (hh : sgH 52 h) (f : sg_F) (L : sg_L) (Q : sg_Q) (hI : sgI loX hiX f) (x2 : Int32) (hf_36_3 : f 36 3 = 12) (hf_36_4 : f 36 4 = 7) (b2 : 1 ≤ x2.toInt ∧ x2.toInt ≤ 1) (p0 : 12 ≤ (f 36 3).toInt ∧ (f 36 3).toInt ≤ 12) (sz : Nat) : Met l yX3_runs gwX3_runs { frames := 0, cells := 0, slots := 0, locals := 0 } (sgP D vwCl (tyX ca) 52 h (eX ca h) zcX za f L Q sz [.ref (h 36), .int 11, .int (-1), .int x2, .int 4]) (sgQi D vwCl 52 h (eX ca h) sz (fun r f1 L1 Q1 => ((f1 = f ∧ L1 = L ∧ Q1 = Q) ∧ True ∧ (12 ≤ (f1 36 3).toInt ∧ (f1 36 3).toInt ≤ 12)))) 0 0 (sgA 52 h sz) := by
  refine sg_ofWi (cc := cX3_runs) (maxL := 5) RX3 (by decide) rfl rfl (Nat.le_of_ble_eq_true rfl) ?_
  intro p e s m below meth cd Qz ls hx hb hml hown hts hK hZ hP hS hl hret
  have hA := sgY.self (n := 52) (h := h) (sz := s.heap.size)
  have hl : lv_has ls 5 [(0, .ref (h 36)), (1, .int 11), (2, .int (-1)), (3, .int x2), (4, .int 4)] := hl
  obtain ⟨H, hH⟩ : ∃ z : Heap, z = s.heap := ⟨_, rfl⟩
  obtain ⟨locs, hlo⟩ : ∃ z : List Loc, z = [] := ⟨_, rfl⟩
  have hP : va_P D vwCl (sgw 52 h (eX ca h) f L Q) H := by rw [hH]; exact hP
  have hS : va_S (sgA 52 h s.heap.size) s.heap H locs := by rw [hH, hlo]; exact hS
  suffices hgo : W p l e ({ frames := 0, cells := 0, slots := 0, locals := 0 }) s m ([.ref (h 36), .int 11, .int (-1), .int x2, .int 4] : List Value).toArray below meth cd H locs 0 0 Qz (F0 m 0 ls []) by rw [hH, hlo] at hgo; exact hgo
  clear hH hlo
  have o_1 : (f 36 3).toInt = 12 := (congrArg Int32.toInt (show f 36 3 = 12 from hf_36_3)).trans (by decide)
  refine lv_iload_n hx hb dX3_runs_0 rfl (lv_at hl 1 rfl) ?_
  refine lv_lookup (x := 11) (off := 163) (tgt := 164) hx hb dX3_runs_1 (by decide) (by decide) (by decide) ?_
  refine lv_iload_n hx hb dX3_runs_164 rfl (lv_at hl 3 rfl) ?_
  refine lv_aload_n hx hb dX3_runs_165 rfl (lv_at hl 0 rfl) ?_
  refine sg_get (ci := 3) (v := .int (f 36 5)) (C := RX3) (T := TX3) (N := 6) hx hb hts (fun w h => List.mem_cons_of_mem _ (gx_3 w h)) hown hK hP 36 (by decide) rfl rfl 5 (by decide) (hts _ (List.mem_cons_of_mem _ mw_106)) (fun _ h9 => h9) rfl dX3_runs_166 ?_
  refine lv_topi (fun v_2 ev_2 => ?_)
  have q_3 : 0 ≤ v_2.toInt ∧ v_2.toInt ≤ 49 := by rw [ev_2]; exact hI 36 5
  refine lv_ixor hx hb dX3_runs_169 ?_
  refine lv_topi (fun v_4 ev_4 => ?_)
  have q_5 : (f 36 3).toInt = 12 := (congrArg Int32.toInt (show f 36 3 = 12 from hf_36_3)).trans (by decide)
  have q_6 : (f 36 3).toInt = 12 := (congrArg Int32.toInt (show f 36 3 = 12 from hf_36_3)).trans (by decide)
  exact hret _ _ _ _ (v_4) f L Q dX3_runs_170 hP hS ⟨⟨rfl, rfl, rfl⟩, trivial, (by omega)⟩

abbrev WkX3_does_1_2_3_f11_f7 : List (Nat × Nat × Option Nat) := [(36, 36, some 3), (38, 38, none)]
set_option maxHeartbeats 4000000 in
set_option maxRecDepth 100000 in
theorem kX3_does_1_2_3_f11_f7 (l : Launch) (D : va_G) (ca : Nat → ClassId) (za h : Nat → Nat) (hh : sgH 52 h) (f : sg_F) (L : sg_L) (Q : sg_Q) (hI : sgI loX hiX f) (x2 : Int32) (hf_36_3 : f 36 3 = 11) (hf_36_4 : f 36 4 = 7) (b2 : 1 ≤ x2.toInt ∧ x2.toInt ≤ 1) (p0 : 11 ≤ (f 36 3).toInt ∧ (f 36 3).toInt ≤ 11) (sz : Nat) : Met l yX3_does gwX3_does { frames := 1, cells := 0, slots := 0, locals := 24 } (sgP D vwCl (tyX ca) 52 h (eX ca h) zcX za f L Q sz [.ref (h 36), .int 1, .int 2, .int x2, .int 3]) (sgQi D vwCl 52 h (eX ca h) sz (fun r f1 L1 Q1 => ((sgI loX hiX f1 ∧ sgK WkX3_does_1_2_3_f11_f7 f f1 ∧ L1 = L ∧ Q1 = Q) ∧ True ∧ (12 ≤ (f1 36 3).toInt ∧ (f1 36 3).toInt ≤ 12)))) 0 0 (sgA 52 h sz) := by
  refine sg_ofWi (cc := cX3_does) (maxL := 7) RX3 (by decide) rfl rfl (Nat.le_of_ble_eq_true rfl) ?_
  intro p e s m below meth cd Qz ls hx hb hml hown hts hK hZ hP hS hl hret
  have hA := sgY.self (n := 52) (h := h) (sz := s.heap.size)
  have hl : lv_has ls 7 [(0, .ref (h 36)), (1, .int 1), (2, .int 2), (3, .int x2), (4, .int 3)] := hl
  obtain ⟨H, hH⟩ : ∃ z : Heap, z = s.heap := ⟨_, rfl⟩
  obtain ⟨locs, hlo⟩ : ∃ z : List Loc, z = [] := ⟨_, rfl⟩
  have hP : va_P D vwCl (sgw 52 h (eX ca h) f L Q) H := by rw [hH]; exact hP
  have hS : va_S (sgA 52 h s.heap.size) s.heap H locs := by rw [hH, hlo]; exact hS
  suffices hgo : W p l e ({ frames := 1, cells := 0, slots := 0, locals := 24 }) s m ([.ref (h 36), .int 1, .int 2, .int x2, .int 3] : List Value).toArray below meth cd H locs 0 0 Qz (F0 m 0 ls []) by rw [hH, hlo] at hgo; exact hgo
  clear hH hlo
  have o_1 : (f 36 3).toInt = 11 := (congrArg Int32.toInt (show f 36 3 = 11 from hf_36_3)).trans (by decide)
  have hF : sgK WkX3_does_1_2_3_f11_f7 f f := sgK.rf
  have blk_53 : ∀ (fp_53 : sg_F) (H : Heap) (locs : List Loc) (ls : Array Slot), 11 ≤ (fp_53 36 3).toInt ∧ (fp_53 36 3).toInt ≤ 11 → 7 ≤ (fp_53 36 4).toInt ∧ (fp_53 36 4).toInt ≤ 7 → sgI loX hiX fp_53 → sgK WkX3_does_1_2_3_f11_f7 f fp_53 → va_P D vwCl (sgw 52 h (eX ca h) fp_53 L Q) H → va_S (sgA 52 h s.heap.size) s.heap H locs → lv_has ls 7 [(0, .ref (h 36)), (3, .int x2), (4, .int 3), (5, .int 0), (6, .int 11)] → W p l e ({ frames := 1, cells := 0, slots := 0, locals := 24 }) s m ([.ref (h 36), .int 1, .int 2, .int x2, .int 3] : List Value).toArray below meth cd H locs 0 0 Qz (F0 m 53 ls []) := by
    intro fp_53 H locs ls hy0_53 hy1_53 hI hF hP hS hl
    obtain ⟨v_2, ev_2⟩ : ∃ z : Int32, z = fp_53 36 3 := ⟨_, rfl⟩
    have q_3 : 0 ≤ v_2.toInt ∧ v_2.toInt ≤ 19 := by rw [ev_2]; exact hI 36 3
    have q_4 : (fp_53 36 3).toInt = v_2.toInt := by rw [ev_2]
    obtain ⟨v_5, ev_5⟩ : ∃ z : Int32, z = fp_53 36 4 := ⟨_, rfl⟩
    have q_6 : 0 ≤ v_5.toInt ∧ v_5.toInt ≤ 7 := by rw [ev_5]; exact hI 36 4
    have q_7 : (fp_53 36 4).toInt = v_5.toInt := by rw [ev_5]
    have m_8 : fp_53 36 4 = 7 := (hF 36 4 (by decide)).trans hf_36_4
    refine lv_aload_n hx hb dX3_does_53 rfl (lv_at hl 0 rfl) ?_
    refine lv_dup hx hb dX3_does_54 rfl ?_
    refine sg_get (ci := 3) (v := .int v_2) (C := RX3) (T := TX3) (N := 6) hx hb hts (fun w h => List.mem_cons_of_mem _ (gx_3 w h)) hown hK hP 36 (by decide) rfl rfl 3 (by decide) (hts _ (List.mem_cons_of_mem _ mw_16)) (fun _ h9 => h9) (congrArg (fun z => some (Value.int z)) (show fp_53 36 3 = v_2 from ev_2.symm)) dX3_does_55 ?_
    refine lv_iconst (v := 1) hx hb dX3_does_58 (by decide) ?_
    refine lv_iadd hx hb dX3_does_59 ?_
    refine lv_topi (fun v_9 ev_9 => ?_)
    have q_10 : v_9.toInt = v_2.toInt + 1 := by rw [ev_9]; have k1 : (1 : Int32).toInt = 1 := (by decide); exact (bn_addI (by omega) (by omega)).trans (by omega)
    refine sg_put (ci := 3) (x := v_9) (ty := .int) (C := RX3) (T := TX3) (N := 6) hx hb hts (fun w h => List.mem_cons_of_mem _ (gx_3 w h)) tyX3 tyX3_ok nmX3 hown hh hA hK hP hS 36 (by decide) rfl rfl 3 (by decide) (hts _ (List.mem_cons_of_mem _ mw_16)) (fun _ h9 => h9) rfl rfl (by decide +kernel) rfl rfl (Nat.le_of_ble_eq_true rfl) dX3_does_60 (fun f_11 H locs ef_11 hP hS => ?_)
    have hI : sgI loX hiX f_11 := by rw [ef_11]; exact sgI.put hI 36 3 (show 0 ≤ (v_9 : Int32).toInt ∧ (v_9 : Int32).toInt ≤ 19 from by omega)
    have hF : sgK WkX3_does_1_2_3_f11_f7 f f_11 := sgK.put hF ef_11 (by rfl)
    refine lv_aload_n hx hb dX3_does_63 rfl (lv_at hl 0 rfl) ?_
    refine lv_iload hx hb dX3_does_64 (lv_at hl 4 rfl) ?_
    refine sg_gets hx hb hZ 2 rfl hS hown (hts _ (List.mem_cons_of_mem _ mw_174)) (fun _ h9 => h9) dX3_does_66 ?_
    refine lv_iload hx hb dX3_does_69 (lv_at hl 3 rfl) ?_
    refine sg_sald hx hb hZ 2 rfl hS (y := 0) (N := 8) (vp_in_iff.mpr (by decide)) dX3_does_71 ?_
    refine W.eq (g2 := F0 m 72 ls [.int (-1), .int 11, .ref (h 36)]) (by rfl) ?_
    refine lv_iload_n hx hb dX3_does_72 rfl (lv_at hl 1 rfl) ?_
    refine lv_iload hx hb dX3_does_73 (lv_at hl 2 rfl) ?_
    refine lv_iconst (v := 1) hx hb dX3_does_75 (by decide) ?_
    refine lv_iadd hx hb dX3_does_76 ?_
    refine W.eq (g2 := F0 m 77 ls [.int 4, .int x2, .int (-1), .int 11, .ref (h 36)]) (by rw [show (3 + 1 : Int32) = 4 from by decide]) ?_
    have c_12 : v_9 = 12 := Int32.toInt_inj.mp (by have k9 : (12 : Int32).toInt = 12 := (by decide); omega)
    have q_13 : (f_11 36 3).toInt = 12 := (congrArg Int32.toInt (show f_11 36 3 = 12 from (Eq.trans (by rw [ef_11, sg_up_s, sgu_s]) c_12))).trans (by decide)
    have q_14 : (f_11 36 3).toInt = 12 := (congrArg Int32.toInt (show f_11 36 3 = 12 from (Eq.trans (by rw [ef_11, sg_up_s, sgu_s]) c_12))).trans (by decide)
    refine sg_calli (va_runV (As := [.int 11, .int (-1), .int x2, .int 4]) (rest := []) ⟨hx, hb, hml, hown, hts⟩ (kX3_runs_11_m1_4_f12_f7 l D ca za h hh f_11 L Q hI x2 (Eq.trans (by rw [ef_11, sg_up_s, sgu_s]) c_12) (by rw [ef_11, sg_up_s, sgu_n (by decide)]; exact m_8) (by omega) (by have k0 : (11 : Int32).toInt = 11 := (by decide); have k1 : ((-1) : Int32).toInt = (-1) := (by decide); have k3 : (4 : Int32).toInt = 4 := (by decide); omega) H.size) (cwV 4 hts (gw_V (fun _ h => List.mem_cons_of_mem _ h) mw_311 mw_312 mw_313 mw_47 mw_310) rfl rfl rfl (by decide +kernel) ⟨Nat.le_of_ble_eq_true rfl, Nat.le_of_ble_eq_true rfl⟩) (sg_preV (ci := 3) (C := RX3) (T := TX3) (N := 6) hA hK hP hS hZ 36 (by decide) rfl rfl) rfl rfl hl.1 rfl (lv_room (Nat.le_of_ble_eq_true rfl)) dX3_does_77 ⟨Nat.le_refl _, Nat.le_refl _⟩) hA hS (fun r_18 f_15 L_16 Q_17 H locs hq hP hS => ?_)
    obtain ⟨⟨ef9, eL9, eQ9⟩, hq, p_19⟩ := hq
    rw [ef9, eL9, eQ9] at hP; clear ef9 eL9 eQ9
    have q_20 : (f_11 36 3).toInt = 12 := (congrArg Int32.toInt (show f_11 36 3 = 12 from (Eq.trans (by rw [ef_11, sg_up_s, sgu_s]) c_12))).trans (by decide)
    have q_21 : (f_11 36 3).toInt = 12 := (congrArg Int32.toInt (show f_11 36 3 = 12 from (Eq.trans (by rw [ef_11, sg_up_s, sgu_s]) c_12))).trans (by decide)
    have k_22 : (11 : Int32).toInt = 11 := by decide
    have k_23 : ((-1) : Int32).toInt = (-1) := by decide
    have k_24 : (4 : Int32).toInt = 4 := by decide
    have q_25 : (f_11 36 3).toInt = 12 := (congrArg Int32.toInt (show f_11 36 3 = 12 from (Eq.trans (by rw [ef_11, sg_up_s, sgu_s]) c_12))).trans (by decide)
    have q_26 : (f_11 36 3).toInt = 12 := (congrArg Int32.toInt (show f_11 36 3 = 12 from (Eq.trans (by rw [ef_11, sg_up_s, sgu_s]) c_12))).trans (by decide)
    exact hret _ _ _ _ (r_18) f_11 L Q dX3_does_80 hP hS ⟨⟨hI, hF, rfl, rfl⟩, trivial, (by omega)⟩
  refine lv_iload_n hx hb dX3_does_0 rfl (lv_at hl 1 rfl) ?_
  refine lv_iload_n hx hb dX3_does_1 rfl (lv_at hl 2 rfl) ?_
  refine sg_calli (va_runS (As := [.int 1, .int 2]) (rest := []) ⟨hx, hb, hml, hown, hts⟩ (kX3_ownerOf_1_2 l D ca za h hh f L Q hI H.size) (va_cwS 2 hts (gw_S (fun _ h => List.mem_cons_of_mem _ h) mw_189 mw_190 mw_47 mw_188) rfl rfl rfl (by decide +kernel) ⟨Nat.le_of_ble_eq_true rfl, Nat.le_of_ble_eq_true rfl⟩) (sg_preS hA hK hP hS hZ) rfl rfl hl.1 rfl (lv_room (Nat.le_of_ble_eq_true rfl)) dX3_does_2 ⟨Nat.le_refl _, Nat.le_refl _⟩) hA hS (fun r_30 f_27 L_28 Q_29 H locs hq hP hS => ?_)
  obtain ⟨⟨ef9, eL9, eQ9⟩, hq⟩ := hq
  rw [ef9, eL9, eQ9] at hP; clear ef9 eL9 eQ9
  obtain rfl : r_30 = 0 := Int32.toInt_inj.mp (by have k9 : (0 : Int32).toInt = 0 := (by decide); omega)
  refine lv_istore (lv' := [(5, .int 0), (0, .ref (h 36)), (1, .int 1), (2, .int 2), (3, .int x2), (4, .int 3)]) hx hb dX3_does_5 hl (by decide) rfl (fun ls hl => ?_)
  refine lv_iload hx hb dX3_does_7 (lv_at hl 0 rfl) ?_
  refine lv_if_lt (tgt := 19) hx hb dX3_does_9 (by decide) (fun c => absurd c (by decide)) (fun c => ?_)
  refine lv_iload hx hb dX3_does_12 (lv_at hl 5 rfl) ?_
  refine lv_bipush (v := 40) hx hb dX3_does_14 (by decide) ?_
  refine lv_icmp_le (tgt := 21) hx hb dX3_does_16 (by decide) (fun c => ?_) (fun c => absurd c (by decide))
  refine sg_gets hx hb hZ 3 rfl hS hown (hts _ (List.mem_cons_of_mem _ mw_173)) (fun _ h9 => h9) dX3_does_21 ?_
  refine lv_iload hx hb dX3_does_24 (lv_at hl 0 rfl) ?_
  refine lv_iconst (v := 4) hx hb dX3_does_26 (by decide) ?_
  refine lv_imul hx hb dX3_does_27 ?_
  refine W.eq (g2 := F0 m 28 ls [.int 0, .ref (za 3)]) (by rw [show (0 * 4 : Int32) = 0 from by decide]) ?_
  refine lv_iload_n hx hb dX3_does_28 rfl (lv_at hl 3 rfl) ?_
  refine lv_iadd hx hb dX3_does_29 ?_
  refine W.eq (g2 := F0 m 30 ls [.int 2, .ref (za 3)]) (by rw [show (0 + 2 : Int32) = 2 from by decide]) ?_
  refine sg_sald hx hb hZ 3 rfl hS (y := 2) (N := 32) (vp_in_iff.mpr (by decide)) dX3_does_30 ?_
  refine W.eq (g2 := F0 m 31 ls [.int 11]) (by rfl) ?_
  refine lv_istore (lv' := [(6, .int 11), (5, .int 0), (0, .ref (h 36)), (1, .int 1), (2, .int 2), (3, .int x2), (4, .int 3)]) hx hb dX3_does_31 hl (by decide) rfl (fun ls hl => ?_)
  refine lv_aload_n hx hb dX3_does_33 rfl (lv_at hl 2 rfl) ?_
  refine sg_get (ci := 3) (v := .int 11) (C := RX3) (T := TX3) (N := 6) hx hb hts (fun w h => List.mem_cons_of_mem _ (gx_3 w h)) hown hK hP 36 (by decide) rfl rfl 3 (by decide) (hts _ (List.mem_cons_of_mem _ mw_16)) (fun _ h9 => h9) (congrArg (fun z => some (Value.int z)) (show f 36 3 = 11 from hf_36_3)) dX3_does_34 ?_
  refine lv_bipush (v := 24) hx hb dX3_does_37 (by decide) ?_
  refine lv_icmp_ge (tgt := 53) hx hb dX3_does_39 (by decide) (fun c => absurd c (by decide)) (fun c => ?_)
  refine lv_aload_n hx hb dX3_does_42 rfl (lv_at hl 2 rfl) ?_
  refine sg_get (ci := 3) (v := .ref (h 38)) (C := RX3) (T := TX3) (N := 6) hx hb hts (fun w h => List.mem_cons_of_mem _ (gx_3 w h)) hown hK hP 36 (by decide) rfl rfl 1 (by decide) (hts _ (List.mem_cons_of_mem _ mw_191)) (fun _ h9 => h9) rfl dX3_does_43 ?_
  refine lv_aload_n hx hb dX3_does_46 rfl (lv_at hl 2 rfl) ?_
  refine sg_get (ci := 3) (v := .int 11) (C := RX3) (T := TX3) (N := 6) hx hb hts (fun w h => List.mem_cons_of_mem _ (gx_3 w h)) hown hK hP 36 (by decide) rfl rfl 3 (by decide) (hts _ (List.mem_cons_of_mem _ mw_16)) (fun _ h9 => h9) (congrArg (fun z => some (Value.int z)) (show f 36 3 = 11 from hf_36_3)) dX3_does_47 ?_
  refine lv_iload hx hb dX3_does_50 (lv_at hl 0 rfl) ?_
  refine sg_iast hx hb hh hA hK hP hS 38 (by decide) 0 (fun _ => rfl) rfl (i := 11) (x := 11) (vp_in_iff.mpr (by decide)) dX3_does_52 (fun f_31 H locs ef_31 hP hS => ?_)
  have hI : sgI loX hiX f_31 := by rw [ef_31]; exact sgI.put hI 38 (Int32.toNatClampNeg 11) (show 0 ≤ (11 : Int32).toInt ∧ (11 : Int32).toInt ≤ 81 from by decide)
  have hF : sgK WkX3_does_1_2_3_f11_f7 f f_31 := sgK.put hF ef_31 (by rfl)
  exact blk_53 f_31 _ _ _ (by have zz36_3 : (f_31 36 3).toInt = 11 := (congrArg Int32.toInt (show f_31 36 3 = 11 from (by rw [ef_31, sg_up_n (by decide)]; exact hf_36_3))).trans (by decide); omega) (by have zz36_4 : (f_31 36 4).toInt = 7 := (congrArg Int32.toInt (show f_31 36 4 = 7 from (by rw [ef_31, sg_up_n (by decide)]; exact hf_36_4))).trans (by decide); omega) hI hF hP hS (lv_sub hl [2, 5, 6, 1, 0] rfl)

set_option maxHeartbeats 4000000 in
set_option maxRecDepth 100000 in
theorem kX3_runs_1_m1_5_f14_f7 (l : Launch) (D : va_G) (ca : Nat → ClassId) (za h : Nat → Nat) (hh : sgH 52 h) (f : sg_F) (L : sg_L) (Q : sg_Q) (hI : sgI loX hiX f) (x2 : Int32) (hf_36_3 : f 36 3 = 14) (hf_36_4 : f 36 4 = 7) (b2 : 2 ≤ x2.toInt ∧ x2.toInt ≤ 2) (p0 : 14 ≤ (f 36 3).toInt ∧ (f 36 3).toInt ≤ 14) (sz : Nat) : Met l yX3_runs gwX3_runs { frames := 0, cells := 0, slots := 0, locals := 0 } (sgP D vwCl (tyX ca) 52 h (eX ca h) zcX za f L Q sz [.ref (h 36), .int 1, .int (-1), .int x2, .int 5]) (sgQi D vwCl 52 h (eX ca h) sz (fun r f1 L1 Q1 => ((f1 = f ∧ L1 = L ∧ Q1 = Q) ∧ (2 ≤ r.toInt ∧ r.toInt ≤ 51) ∧ (14 ≤ (f1 36 3).toInt ∧ (f1 36 3).toInt ≤ 14)))) 0 0 (sgA 52 h sz) := by
  refine sg_ofWi (cc := cX3_runs) (maxL := 5) RX3 (by decide) rfl rfl (Nat.le_of_ble_eq_true rfl) ?_
  intro p e s m below meth cd Qz ls hx hb hml hown hts hK hZ hP hS hl hret
  have hA := sgY.self (n := 52) (h := h) (sz := s.heap.size)
  have hl : lv_has ls 5 [(0, .ref (h 36)), (1, .int 1), (2, .int (-1)), (3, .int x2), (4, .int 5)] := hl
  obtain ⟨H, hH⟩ : ∃ z : Heap, z = s.heap := ⟨_, rfl⟩
  obtain ⟨locs, hlo⟩ : ∃ z : List Loc, z = [] := ⟨_, rfl⟩
  have hP : va_P D vwCl (sgw 52 h (eX ca h) f L Q) H := by rw [hH]; exact hP
  have hS : va_S (sgA 52 h s.heap.size) s.heap H locs := by rw [hH, hlo]; exact hS
  suffices hgo : W p l e ({ frames := 0, cells := 0, slots := 0, locals := 0 }) s m ([.ref (h 36), .int 1, .int (-1), .int x2, .int 5] : List Value).toArray below meth cd H locs 0 0 Qz (F0 m 0 ls []) by rw [hH, hlo] at hgo; exact hgo
  clear hH hlo
  have o_1 : (f 36 3).toInt = 14 := (congrArg Int32.toInt (show f 36 3 = 14 from hf_36_3)).trans (by decide)
  refine lv_iload_n hx hb dX3_runs_0 rfl (lv_at hl 1 rfl) ?_
  refine lv_lookup (x := 1) (off := 115) (tgt := 116) hx hb dX3_runs_1 (by decide) (by decide) (by decide) ?_
  refine lv_iload_n hx hb dX3_runs_116 rfl (lv_at hl 3 rfl) ?_
  refine lv_aload_n hx hb dX3_runs_117 rfl (lv_at hl 0 rfl) ?_
  refine sg_get (ci := 3) (v := .int (f 36 5)) (C := RX3) (T := TX3) (N := 6) hx hb hts (fun w h => List.mem_cons_of_mem _ (gx_3 w h)) hown hK hP 36 (by decide) rfl rfl 5 (by decide) (hts _ (List.mem_cons_of_mem _ mw_106)) (fun _ h9 => h9) rfl dX3_runs_118 ?_
  refine lv_topi (fun v_2 ev_2 => ?_)
  have q_3 : 0 ≤ v_2.toInt ∧ v_2.toInt ≤ 49 := by rw [ev_2]; exact hI 36 5
  refine lv_iadd hx hb dX3_runs_121 ?_
  refine lv_topi (fun v_4 ev_4 => ?_)
  have q_5 : v_4.toInt = x2.toInt + v_2.toInt := by rw [ev_4]; exact (bn_addI (by omega) (by omega)).trans (by omega)
  have q_6 : (f 36 3).toInt = 14 := (congrArg Int32.toInt (show f 36 3 = 14 from hf_36_3)).trans (by decide)
  have q_7 : (f 36 3).toInt = 14 := (congrArg Int32.toInt (show f 36 3 = 14 from hf_36_3)).trans (by decide)
  exact hret _ _ _ _ (v_4) f L Q dX3_runs_122 hP hS ⟨⟨rfl, rfl, rfl⟩, (by omega), (by omega)⟩

abbrev WkX3_does_0_0_4_f13_f7 : List (Nat × Nat × Option Nat) := [(36, 36, some 3), (38, 38, none)]
set_option maxHeartbeats 4000000 in
set_option maxRecDepth 100000 in
theorem kX3_does_0_0_4_f13_f7 (l : Launch) (D : va_G) (ca : Nat → ClassId) (za h : Nat → Nat) (hh : sgH 52 h) (f : sg_F) (L : sg_L) (Q : sg_Q) (hI : sgI loX hiX f) (x2 : Int32) (hf_36_3 : f 36 3 = 13) (hf_36_4 : f 36 4 = 7) (b2 : 2 ≤ x2.toInt ∧ x2.toInt ≤ 2) (p0 : 13 ≤ (f 36 3).toInt ∧ (f 36 3).toInt ≤ 13) (sz : Nat) : Met l yX3_does gwX3_does { frames := 1, cells := 0, slots := 0, locals := 24 } (sgP D vwCl (tyX ca) 52 h (eX ca h) zcX za f L Q sz [.ref (h 36), .int 0, .int 0, .int x2, .int 4]) (sgQi D vwCl 52 h (eX ca h) sz (fun r f1 L1 Q1 => ((sgI loX hiX f1 ∧ sgK WkX3_does_0_0_4_f13_f7 f f1 ∧ L1 = L ∧ Q1 = Q) ∧ (2 ≤ r.toInt ∧ r.toInt ≤ 51) ∧ (14 ≤ (f1 36 3).toInt ∧ (f1 36 3).toInt ≤ 14)))) 0 0 (sgA 52 h sz) := by
  refine sg_ofWi (cc := cX3_does) (maxL := 7) RX3 (by decide) rfl rfl (Nat.le_of_ble_eq_true rfl) ?_
  intro p e s m below meth cd Qz ls hx hb hml hown hts hK hZ hP hS hl hret
  have hA := sgY.self (n := 52) (h := h) (sz := s.heap.size)
  have hl : lv_has ls 7 [(0, .ref (h 36)), (1, .int 0), (2, .int 0), (3, .int x2), (4, .int 4)] := hl
  obtain ⟨H, hH⟩ : ∃ z : Heap, z = s.heap := ⟨_, rfl⟩
  obtain ⟨locs, hlo⟩ : ∃ z : List Loc, z = [] := ⟨_, rfl⟩
  have hP : va_P D vwCl (sgw 52 h (eX ca h) f L Q) H := by rw [hH]; exact hP
  have hS : va_S (sgA 52 h s.heap.size) s.heap H locs := by rw [hH, hlo]; exact hS
  suffices hgo : W p l e ({ frames := 1, cells := 0, slots := 0, locals := 24 }) s m ([.ref (h 36), .int 0, .int 0, .int x2, .int 4] : List Value).toArray below meth cd H locs 0 0 Qz (F0 m 0 ls []) by rw [hH, hlo] at hgo; exact hgo
  clear hH hlo
  have o_1 : (f 36 3).toInt = 13 := (congrArg Int32.toInt (show f 36 3 = 13 from hf_36_3)).trans (by decide)
  have hF : sgK WkX3_does_0_0_4_f13_f7 f f := sgK.rf
  have blk_53 : ∀ (fp_53 : sg_F) (H : Heap) (locs : List Loc) (ls : Array Slot), 13 ≤ (fp_53 36 3).toInt ∧ (fp_53 36 3).toInt ≤ 13 → 7 ≤ (fp_53 36 4).toInt ∧ (fp_53 36 4).toInt ≤ 7 → sgI loX hiX fp_53 → sgK WkX3_does_0_0_4_f13_f7 f fp_53 → va_P D vwCl (sgw 52 h (eX ca h) fp_53 L Q) H → va_S (sgA 52 h s.heap.size) s.heap H locs → lv_has ls 7 [(0, .ref (h 36)), (3, .int x2), (4, .int 4), (5, .int 0), (6, .int 1)] → W p l e ({ frames := 1, cells := 0, slots := 0, locals := 24 }) s m ([.ref (h 36), .int 0, .int 0, .int x2, .int 4] : List Value).toArray below meth cd H locs 0 0 Qz (F0 m 53 ls []) := by
    intro fp_53 H locs ls hy0_53 hy1_53 hI hF hP hS hl
    obtain ⟨v_2, ev_2⟩ : ∃ z : Int32, z = fp_53 36 3 := ⟨_, rfl⟩
    have q_3 : 0 ≤ v_2.toInt ∧ v_2.toInt ≤ 19 := by rw [ev_2]; exact hI 36 3
    have q_4 : (fp_53 36 3).toInt = v_2.toInt := by rw [ev_2]
    obtain ⟨v_5, ev_5⟩ : ∃ z : Int32, z = fp_53 36 4 := ⟨_, rfl⟩
    have q_6 : 0 ≤ v_5.toInt ∧ v_5.toInt ≤ 7 := by rw [ev_5]; exact hI 36 4
    have q_7 : (fp_53 36 4).toInt = v_5.toInt := by rw [ev_5]
    have m_8 : fp_53 36 4 = 7 := (hF 36 4 (by decide)).trans hf_36_4
    refine lv_aload_n hx hb dX3_does_53 rfl (lv_at hl 0 rfl) ?_
    refine lv_dup hx hb dX3_does_54 rfl ?_
    refine sg_get (ci := 3) (v := .int v_2) (C := RX3) (T := TX3) (N := 6) hx hb hts (fun w h => List.mem_cons_of_mem _ (gx_3 w h)) hown hK hP 36 (by decide) rfl rfl 3 (by decide) (hts _ (List.mem_cons_of_mem _ mw_16)) (fun _ h9 => h9) (congrArg (fun z => some (Value.int z)) (show fp_53 36 3 = v_2 from ev_2.symm)) dX3_does_55 ?_
    refine lv_iconst (v := 1) hx hb dX3_does_58 (by decide) ?_
    refine lv_iadd hx hb dX3_does_59 ?_
    refine lv_topi (fun v_9 ev_9 => ?_)
    have q_10 : v_9.toInt = v_2.toInt + 1 := by rw [ev_9]; have k1 : (1 : Int32).toInt = 1 := (by decide); exact (bn_addI (by omega) (by omega)).trans (by omega)
    refine sg_put (ci := 3) (x := v_9) (ty := .int) (C := RX3) (T := TX3) (N := 6) hx hb hts (fun w h => List.mem_cons_of_mem _ (gx_3 w h)) tyX3 tyX3_ok nmX3 hown hh hA hK hP hS 36 (by decide) rfl rfl 3 (by decide) (hts _ (List.mem_cons_of_mem _ mw_16)) (fun _ h9 => h9) rfl rfl (by decide +kernel) rfl rfl (Nat.le_of_ble_eq_true rfl) dX3_does_60 (fun f_11 H locs ef_11 hP hS => ?_)
    have hI : sgI loX hiX f_11 := by rw [ef_11]; exact sgI.put hI 36 3 (show 0 ≤ (v_9 : Int32).toInt ∧ (v_9 : Int32).toInt ≤ 19 from by omega)
    have hF : sgK WkX3_does_0_0_4_f13_f7 f f_11 := sgK.put hF ef_11 (by rfl)
    refine lv_aload_n hx hb dX3_does_63 rfl (lv_at hl 0 rfl) ?_
    refine lv_iload hx hb dX3_does_64 (lv_at hl 4 rfl) ?_
    refine sg_gets hx hb hZ 2 rfl hS hown (hts _ (List.mem_cons_of_mem _ mw_174)) (fun _ h9 => h9) dX3_does_66 ?_
    refine lv_iload hx hb dX3_does_69 (lv_at hl 3 rfl) ?_
    refine sg_sald hx hb hZ 2 rfl hS (y := 0) (N := 8) (vp_in_iff.mpr (by decide)) dX3_does_71 ?_
    refine W.eq (g2 := F0 m 72 ls [.int (-1), .int 1, .ref (h 36)]) (by rfl) ?_
    refine lv_iload_n hx hb dX3_does_72 rfl (lv_at hl 1 rfl) ?_
    refine lv_iload hx hb dX3_does_73 (lv_at hl 2 rfl) ?_
    refine lv_iconst (v := 1) hx hb dX3_does_75 (by decide) ?_
    refine lv_iadd hx hb dX3_does_76 ?_
    refine W.eq (g2 := F0 m 77 ls [.int 5, .int x2, .int (-1), .int 1, .ref (h 36)]) (by rw [show (4 + 1 : Int32) = 5 from by decide]) ?_
    have c_12 : v_9 = 14 := Int32.toInt_inj.mp (by have k9 : (14 : Int32).toInt = 14 := (by decide); omega)
    have q_13 : (f_11 36 3).toInt = 14 := (congrArg Int32.toInt (show f_11 36 3 = 14 from (Eq.trans (by rw [ef_11, sg_up_s, sgu_s]) c_12))).trans (by decide)
    have q_14 : (f_11 36 3).toInt = 14 := (congrArg Int32.toInt (show f_11 36 3 = 14 from (Eq.trans (by rw [ef_11, sg_up_s, sgu_s]) c_12))).trans (by decide)
    refine sg_calli (va_runV (As := [.int 1, .int (-1), .int x2, .int 5]) (rest := []) ⟨hx, hb, hml, hown, hts⟩ (kX3_runs_1_m1_5_f14_f7 l D ca za h hh f_11 L Q hI x2 (Eq.trans (by rw [ef_11, sg_up_s, sgu_s]) c_12) (by rw [ef_11, sg_up_s, sgu_n (by decide)]; exact m_8) (by omega) (by have k0 : (1 : Int32).toInt = 1 := (by decide); have k1 : ((-1) : Int32).toInt = (-1) := (by decide); have k3 : (5 : Int32).toInt = 5 := (by decide); omega) H.size) (cwV 4 hts (gw_V (fun _ h => List.mem_cons_of_mem _ h) mw_311 mw_312 mw_313 mw_47 mw_310) rfl rfl rfl (by decide +kernel) ⟨Nat.le_of_ble_eq_true rfl, Nat.le_of_ble_eq_true rfl⟩) (sg_preV (ci := 3) (C := RX3) (T := TX3) (N := 6) hA hK hP hS hZ 36 (by decide) rfl rfl) rfl rfl hl.1 rfl (lv_room (Nat.le_of_ble_eq_true rfl)) dX3_does_77 ⟨Nat.le_refl _, Nat.le_refl _⟩) hA hS (fun r_18 f_15 L_16 Q_17 H locs hq hP hS => ?_)
    obtain ⟨⟨ef9, eL9, eQ9⟩, hq, p_19⟩ := hq
    rw [ef9, eL9, eQ9] at hP; clear ef9 eL9 eQ9
    have q_20 : (f_11 36 3).toInt = 14 := (congrArg Int32.toInt (show f_11 36 3 = 14 from (Eq.trans (by rw [ef_11, sg_up_s, sgu_s]) c_12))).trans (by decide)
    have q_21 : (f_11 36 3).toInt = 14 := (congrArg Int32.toInt (show f_11 36 3 = 14 from (Eq.trans (by rw [ef_11, sg_up_s, sgu_s]) c_12))).trans (by decide)
    have k_22 : (1 : Int32).toInt = 1 := by decide
    have k_23 : ((-1) : Int32).toInt = (-1) := by decide
    have k_24 : (5 : Int32).toInt = 5 := by decide
    have q_25 : (f_11 36 3).toInt = 14 := (congrArg Int32.toInt (show f_11 36 3 = 14 from (Eq.trans (by rw [ef_11, sg_up_s, sgu_s]) c_12))).trans (by decide)
    have q_26 : (f_11 36 3).toInt = 14 := (congrArg Int32.toInt (show f_11 36 3 = 14 from (Eq.trans (by rw [ef_11, sg_up_s, sgu_s]) c_12))).trans (by decide)
    exact hret _ _ _ _ (r_18) f_11 L Q dX3_does_80 hP hS ⟨⟨hI, hF, rfl, rfl⟩, (by omega), (by omega)⟩
  refine lv_iload_n hx hb dX3_does_0 rfl (lv_at hl 1 rfl) ?_
  refine lv_iload_n hx hb dX3_does_1 rfl (lv_at hl 2 rfl) ?_
  refine sg_calli (va_runS (As := [.int 0, .int 0]) (rest := []) ⟨hx, hb, hml, hown, hts⟩ (kX3_ownerOf_0_0 l D ca za h hh f L Q hI H.size) (va_cwS 2 hts (gw_S (fun _ h => List.mem_cons_of_mem _ h) mw_189 mw_190 mw_47 mw_188) rfl rfl rfl (by decide +kernel) ⟨Nat.le_of_ble_eq_true rfl, Nat.le_of_ble_eq_true rfl⟩) (sg_preS hA hK hP hS hZ) rfl rfl hl.1 rfl (lv_room (Nat.le_of_ble_eq_true rfl)) dX3_does_2 ⟨Nat.le_refl _, Nat.le_refl _⟩) hA hS (fun r_30 f_27 L_28 Q_29 H locs hq hP hS => ?_)
  obtain ⟨⟨ef9, eL9, eQ9⟩, hq⟩ := hq
  rw [ef9, eL9, eQ9] at hP; clear ef9 eL9 eQ9
  obtain rfl : r_30 = 0 := Int32.toInt_inj.mp (by have k9 : (0 : Int32).toInt = 0 := (by decide); omega)
  refine lv_istore (lv' := [(5, .int 0), (0, .ref (h 36)), (1, .int 0), (2, .int 0), (3, .int x2), (4, .int 4)]) hx hb dX3_does_5 hl (by decide) rfl (fun ls hl => ?_)
  refine lv_iload hx hb dX3_does_7 (lv_at hl 0 rfl) ?_
  refine lv_if_lt (tgt := 19) hx hb dX3_does_9 (by decide) (fun c => absurd c (by decide)) (fun c => ?_)
  refine lv_iload hx hb dX3_does_12 (lv_at hl 5 rfl) ?_
  refine lv_bipush (v := 40) hx hb dX3_does_14 (by decide) ?_
  refine lv_icmp_le (tgt := 21) hx hb dX3_does_16 (by decide) (fun c => ?_) (fun c => absurd c (by decide))
  refine sg_gets hx hb hZ 3 rfl hS hown (hts _ (List.mem_cons_of_mem _ mw_173)) (fun _ h9 => h9) dX3_does_21 ?_
  refine lv_iload hx hb dX3_does_24 (lv_at hl 0 rfl) ?_
  refine lv_iconst (v := 4) hx hb dX3_does_26 (by decide) ?_
  refine lv_imul hx hb dX3_does_27 ?_
  refine W.eq (g2 := F0 m 28 ls [.int 0, .ref (za 3)]) (by rw [show (0 * 4 : Int32) = 0 from by decide]) ?_
  refine lv_iload_n hx hb dX3_does_28 rfl (lv_at hl 3 rfl) ?_
  refine lv_iadd hx hb dX3_does_29 ?_
  refine W.eq (g2 := F0 m 30 ls [.int 0, .ref (za 3)]) (by rw [show (0 + 0 : Int32) = 0 from by decide]) ?_
  refine sg_sald hx hb hZ 3 rfl hS (y := 0) (N := 32) (vp_in_iff.mpr (by decide)) dX3_does_30 ?_
  refine W.eq (g2 := F0 m 31 ls [.int 1]) (by rfl) ?_
  refine lv_istore (lv' := [(6, .int 1), (5, .int 0), (0, .ref (h 36)), (1, .int 0), (2, .int 0), (3, .int x2), (4, .int 4)]) hx hb dX3_does_31 hl (by decide) rfl (fun ls hl => ?_)
  refine lv_aload_n hx hb dX3_does_33 rfl (lv_at hl 2 rfl) ?_
  refine sg_get (ci := 3) (v := .int 13) (C := RX3) (T := TX3) (N := 6) hx hb hts (fun w h => List.mem_cons_of_mem _ (gx_3 w h)) hown hK hP 36 (by decide) rfl rfl 3 (by decide) (hts _ (List.mem_cons_of_mem _ mw_16)) (fun _ h9 => h9) (congrArg (fun z => some (Value.int z)) (show f 36 3 = 13 from hf_36_3)) dX3_does_34 ?_
  refine lv_bipush (v := 24) hx hb dX3_does_37 (by decide) ?_
  refine lv_icmp_ge (tgt := 53) hx hb dX3_does_39 (by decide) (fun c => absurd c (by decide)) (fun c => ?_)
  refine lv_aload_n hx hb dX3_does_42 rfl (lv_at hl 2 rfl) ?_
  refine sg_get (ci := 3) (v := .ref (h 38)) (C := RX3) (T := TX3) (N := 6) hx hb hts (fun w h => List.mem_cons_of_mem _ (gx_3 w h)) hown hK hP 36 (by decide) rfl rfl 1 (by decide) (hts _ (List.mem_cons_of_mem _ mw_191)) (fun _ h9 => h9) rfl dX3_does_43 ?_
  refine lv_aload_n hx hb dX3_does_46 rfl (lv_at hl 2 rfl) ?_
  refine sg_get (ci := 3) (v := .int 13) (C := RX3) (T := TX3) (N := 6) hx hb hts (fun w h => List.mem_cons_of_mem _ (gx_3 w h)) hown hK hP 36 (by decide) rfl rfl 3 (by decide) (hts _ (List.mem_cons_of_mem _ mw_16)) (fun _ h9 => h9) (congrArg (fun z => some (Value.int z)) (show f 36 3 = 13 from hf_36_3)) dX3_does_47 ?_
  refine lv_iload hx hb dX3_does_50 (lv_at hl 0 rfl) ?_
  refine sg_iast hx hb hh hA hK hP hS 38 (by decide) 0 (fun _ => rfl) rfl (i := 13) (x := 1) (vp_in_iff.mpr (by decide)) dX3_does_52 (fun f_31 H locs ef_31 hP hS => ?_)
  have hI : sgI loX hiX f_31 := by rw [ef_31]; exact sgI.put hI 38 (Int32.toNatClampNeg 13) (show 0 ≤ (1 : Int32).toInt ∧ (1 : Int32).toInt ≤ 81 from by decide)
  have hF : sgK WkX3_does_0_0_4_f13_f7 f f_31 := sgK.put hF ef_31 (by rfl)
  exact blk_53 f_31 _ _ _ (by have zz36_3 : (f_31 36 3).toInt = 13 := (congrArg Int32.toInt (show f_31 36 3 = 13 from (by rw [ef_31, sg_up_n (by decide)]; exact hf_36_3))).trans (by decide); omega) (by have zz36_4 : (f_31 36 4).toInt = 7 := (congrArg Int32.toInt (show f_31 36 4 = 7 from (by rw [ef_31, sg_up_n (by decide)]; exact hf_36_4))).trans (by decide); omega) hI hF hP hS (lv_sub hl [2, 5, 6, 1, 0] rfl)

abbrev WkX3_runs_20_0_4_f13_f7 : List (Nat × Nat × Option Nat) := [(36, 36, some 3), (38, 38, none)]
set_option maxHeartbeats 4000000 in
set_option maxRecDepth 100000 in
theorem kX3_runs_20_0_4_f13_f7 (l : Launch) (D : va_G) (ca : Nat → ClassId) (za h : Nat → Nat) (hh : sgH 52 h) (f : sg_F) (L : sg_L) (Q : sg_Q) (hI : sgI loX hiX f) (x2 : Int32) (hf_36_3 : f 36 3 = 13) (hf_36_4 : f 36 4 = 7) (b2 : 2 ≤ x2.toInt ∧ x2.toInt ≤ 2) (p0 : 13 ≤ (f 36 3).toInt ∧ (f 36 3).toInt ≤ 13) (sz : Nat) : Met l yX3_runs gwX3_runs { frames := 2, cells := 0, slots := 0, locals := 50 } (sgP D vwCl (tyX ca) 52 h (eX ca h) zcX za f L Q sz [.ref (h 36), .int 20, .int 0, .int x2, .int 4]) (sgQi D vwCl 52 h (eX ca h) sz (fun r f1 L1 Q1 => ((sgI loX hiX f1 ∧ sgK WkX3_runs_20_0_4_f13_f7 f f1 ∧ L1 = L ∧ Q1 = Q) ∧ (5 ≤ r.toInt ∧ r.toInt ≤ 54) ∧ (14 ≤ (f1 36 3).toInt ∧ (f1 36 3).toInt ≤ 14)))) 0 0 (sgA 52 h sz) := by
  refine sg_ofWi (cc := cX3_runs) (maxL := 5) RX3 (by decide) rfl rfl (Nat.le_of_ble_eq_true rfl) ?_
  intro p e s m below meth cd Qz ls hx hb hml hown hts hK hZ hP hS hl hret
  have hA := sgY.self (n := 52) (h := h) (sz := s.heap.size)
  have hl : lv_has ls 5 [(0, .ref (h 36)), (1, .int 20), (2, .int 0), (3, .int x2), (4, .int 4)] := hl
  obtain ⟨H, hH⟩ : ∃ z : Heap, z = s.heap := ⟨_, rfl⟩
  obtain ⟨locs, hlo⟩ : ∃ z : List Loc, z = [] := ⟨_, rfl⟩
  have hP : va_P D vwCl (sgw 52 h (eX ca h) f L Q) H := by rw [hH]; exact hP
  have hS : va_S (sgA 52 h s.heap.size) s.heap H locs := by rw [hH, hlo]; exact hS
  suffices hgo : W p l e ({ frames := 2, cells := 0, slots := 0, locals := 50 }) s m ([.ref (h 36), .int 20, .int 0, .int x2, .int 4] : List Value).toArray below meth cd H locs 0 0 Qz (F0 m 0 ls []) by rw [hH, hlo] at hgo; exact hgo
  clear hH hlo
  have o_1 : (f 36 3).toInt = 13 := (congrArg Int32.toInt (show f 36 3 = 13 from hf_36_3)).trans (by decide)
  have hF : sgK WkX3_runs_20_0_4_f13_f7 f f := sgK.rf
  refine lv_iload_n hx hb dX3_runs_0 rfl (lv_at hl 1 rfl) ?_
  refine lv_lookup (x := 20) (off := 170) (tgt := 171) hx hb dX3_runs_1 (by decide) (by decide) (by decide) ?_
  refine lv_aload_n hx hb dX3_runs_171 rfl (lv_at hl 0 rfl) ?_
  refine lv_iload_n hx hb dX3_runs_172 rfl (lv_at hl 2 rfl) ?_
  refine lv_iconst (v := 0) hx hb dX3_runs_173 (by decide) ?_
  refine lv_iload_n hx hb dX3_runs_174 rfl (lv_at hl 3 rfl) ?_
  refine lv_iload hx hb dX3_runs_175 (lv_at hl 4 rfl) ?_
  have q_2 : (f 36 3).toInt = 13 := (congrArg Int32.toInt (show f 36 3 = 13 from hf_36_3)).trans (by decide)
  have q_3 : (f 36 3).toInt = 13 := (congrArg Int32.toInt (show f 36 3 = 13 from hf_36_3)).trans (by decide)
  refine sg_calli (va_runV (As := [.int 0, .int 0, .int x2, .int 4]) (rest := []) ⟨hx, hb, hml, hown, hts⟩ (kX3_does_0_0_4_f13_f7 l D ca za h hh f L Q hI x2 hf_36_3 hf_36_4 (by omega) (by have k0 : (0 : Int32).toInt = 0 := (by decide); have k1 : (0 : Int32).toInt = 0 := (by decide); have k3 : (4 : Int32).toInt = 4 := (by decide); omega) H.size) (cwV 4 hts (gw_V (fun _ h => List.mem_cons_of_mem _ h) mw_318 mw_319 mw_320 mw_47 mw_317) rfl rfl rfl (by decide +kernel) ⟨Nat.le_of_ble_eq_true rfl, Nat.le_of_ble_eq_true rfl⟩) (sg_preV (ci := 3) (C := RX3) (T := TX3) (N := 6) hA hK hP hS hZ 36 (by decide) rfl rfl) rfl rfl hl.1 rfl (lv_room (Nat.le_of_ble_eq_true rfl)) dX3_runs_177 ⟨Nat.le_refl _, Nat.le_refl _⟩) hA hS (fun r_7 f_4 L_5 Q_6 H locs hq hP hS => ?_)
  obtain ⟨⟨hI, hk_f_4, eL9, eQ9⟩, hq, p_8⟩ := hq
  rw [eL9, eQ9] at hP; clear eL9 eQ9
  have hF : sgK WkX3_runs_20_0_4_f13_f7 f f_4 := sgK.tr hF hk_f_4 (by decide)
  obtain ⟨v_9, ev_9⟩ : ∃ z : Int32, z = f_4 36 3 := ⟨_, rfl⟩
  have q_10 : 0 ≤ v_9.toInt ∧ v_9.toInt ≤ 19 := by rw [ev_9]; exact hI 36 3
  have q_11 : (f_4 36 3).toInt = v_9.toInt := (congrArg Int32.toInt (show f_4 36 3 = v_9 from ev_9.symm))
  have q_12 : (f_4 36 3).toInt = v_9.toInt := (congrArg Int32.toInt (show f_4 36 3 = v_9 from ev_9.symm))
  have k_13 : (0 : Int32).toInt = 0 := by decide
  have k_14 : (0 : Int32).toInt = 0 := by decide
  have k_15 : (4 : Int32).toInt = 4 := by decide
  refine lv_iconst (v := 3) hx hb dX3_runs_180 (by decide) ?_
  refine lv_iadd hx hb dX3_runs_181 ?_
  refine lv_topi (fun v_16 ev_16 => ?_)
  have q_17 : v_16.toInt = r_7.toInt + 3 := by rw [ev_16]; have k1 : (3 : Int32).toInt = 3 := (by decide); exact (bn_addI (by omega) (by omega)).trans (by omega)
  have q_18 : (f_4 36 3).toInt = v_9.toInt := (congrArg Int32.toInt (show f_4 36 3 = v_9 from ev_9.symm))
  have q_19 : (f_4 36 3).toInt = v_9.toInt := (congrArg Int32.toInt (show f_4 36 3 = v_9 from ev_9.symm))
  exact hret _ _ _ _ (v_16) f_4 L Q dX3_runs_182 hP hS ⟨⟨hI, hF, rfl, rfl⟩, (by omega), (by omega)⟩

abbrev WkX3_does_7_0_3_f12_f7 : List (Nat × Nat × Option Nat) := [(36, 36, some 3), (38, 38, none)]
set_option maxHeartbeats 4000000 in
set_option maxRecDepth 100000 in
theorem kX3_does_7_0_3_f12_f7 (l : Launch) (D : va_G) (ca : Nat → ClassId) (za h : Nat → Nat) (hh : sgH 52 h) (f : sg_F) (L : sg_L) (Q : sg_Q) (hI : sgI loX hiX f) (x2 : Int32) (hf_36_3 : f 36 3 = 12) (hf_36_4 : f 36 4 = 7) (b2 : 2 ≤ x2.toInt ∧ x2.toInt ≤ 2) (p0 : 12 ≤ (f 36 3).toInt ∧ (f 36 3).toInt ≤ 12) (sz : Nat) : Met l yX3_does gwX3_does { frames := 3, cells := 0, slots := 0, locals := 74 } (sgP D vwCl (tyX ca) 52 h (eX ca h) zcX za f L Q sz [.ref (h 36), .int 7, .int 0, .int x2, .int 3]) (sgQi D vwCl 52 h (eX ca h) sz (fun r f1 L1 Q1 => ((sgI loX hiX f1 ∧ sgK WkX3_does_7_0_3_f12_f7 f f1 ∧ L1 = L ∧ Q1 = Q) ∧ (5 ≤ r.toInt ∧ r.toInt ≤ 54) ∧ (14 ≤ (f1 36 3).toInt ∧ (f1 36 3).toInt ≤ 14)))) 0 0 (sgA 52 h sz) := by
  refine sg_ofWi (cc := cX3_does) (maxL := 7) RX3 (by decide) rfl rfl (Nat.le_of_ble_eq_true rfl) ?_
  intro p e s m below meth cd Qz ls hx hb hml hown hts hK hZ hP hS hl hret
  have hA := sgY.self (n := 52) (h := h) (sz := s.heap.size)
  have hl : lv_has ls 7 [(0, .ref (h 36)), (1, .int 7), (2, .int 0), (3, .int x2), (4, .int 3)] := hl
  obtain ⟨H, hH⟩ : ∃ z : Heap, z = s.heap := ⟨_, rfl⟩
  obtain ⟨locs, hlo⟩ : ∃ z : List Loc, z = [] := ⟨_, rfl⟩
  have hP : va_P D vwCl (sgw 52 h (eX ca h) f L Q) H := by rw [hH]; exact hP
  have hS : va_S (sgA 52 h s.heap.size) s.heap H locs := by rw [hH, hlo]; exact hS
  suffices hgo : W p l e ({ frames := 3, cells := 0, slots := 0, locals := 74 }) s m ([.ref (h 36), .int 7, .int 0, .int x2, .int 3] : List Value).toArray below meth cd H locs 0 0 Qz (F0 m 0 ls []) by rw [hH, hlo] at hgo; exact hgo
  clear hH hlo
  have o_1 : (f 36 3).toInt = 12 := (congrArg Int32.toInt (show f 36 3 = 12 from hf_36_3)).trans (by decide)
  have hF : sgK WkX3_does_7_0_3_f12_f7 f f := sgK.rf
  have blk_53 : ∀ (fp_53 : sg_F) (H : Heap) (locs : List Loc) (ls : Array Slot), 12 ≤ (fp_53 36 3).toInt ∧ (fp_53 36 3).toInt ≤ 12 → 7 ≤ (fp_53 36 4).toInt ∧ (fp_53 36 4).toInt ≤ 7 → sgI loX hiX fp_53 → sgK WkX3_does_7_0_3_f12_f7 f fp_53 → va_P D vwCl (sgw 52 h (eX ca h) fp_53 L Q) H → va_S (sgA 52 h s.heap.size) s.heap H locs → lv_has ls 7 [(0, .ref (h 36)), (3, .int x2), (4, .int 3), (5, .int 1), (6, .int 20)] → W p l e ({ frames := 3, cells := 0, slots := 0, locals := 74 }) s m ([.ref (h 36), .int 7, .int 0, .int x2, .int 3] : List Value).toArray below meth cd H locs 0 0 Qz (F0 m 53 ls []) := by
    intro fp_53 H locs ls hy0_53 hy1_53 hI hF hP hS hl
    obtain ⟨v_2, ev_2⟩ : ∃ z : Int32, z = fp_53 36 3 := ⟨_, rfl⟩
    have q_3 : 0 ≤ v_2.toInt ∧ v_2.toInt ≤ 19 := by rw [ev_2]; exact hI 36 3
    have q_4 : (fp_53 36 3).toInt = v_2.toInt := by rw [ev_2]
    obtain ⟨v_5, ev_5⟩ : ∃ z : Int32, z = fp_53 36 4 := ⟨_, rfl⟩
    have q_6 : 0 ≤ v_5.toInt ∧ v_5.toInt ≤ 7 := by rw [ev_5]; exact hI 36 4
    have q_7 : (fp_53 36 4).toInt = v_5.toInt := by rw [ev_5]
    have m_8 : fp_53 36 4 = 7 := (hF 36 4 (by decide)).trans hf_36_4
    refine lv_aload_n hx hb dX3_does_53 rfl (lv_at hl 0 rfl) ?_
    refine lv_dup hx hb dX3_does_54 rfl ?_
    refine sg_get (ci := 3) (v := .int v_2) (C := RX3) (T := TX3) (N := 6) hx hb hts (fun w h => List.mem_cons_of_mem _ (gx_3 w h)) hown hK hP 36 (by decide) rfl rfl 3 (by decide) (hts _ (List.mem_cons_of_mem _ mw_16)) (fun _ h9 => h9) (congrArg (fun z => some (Value.int z)) (show fp_53 36 3 = v_2 from ev_2.symm)) dX3_does_55 ?_
    refine lv_iconst (v := 1) hx hb dX3_does_58 (by decide) ?_
    refine lv_iadd hx hb dX3_does_59 ?_
    refine lv_topi (fun v_9 ev_9 => ?_)
    have q_10 : v_9.toInt = v_2.toInt + 1 := by rw [ev_9]; have k1 : (1 : Int32).toInt = 1 := (by decide); exact (bn_addI (by omega) (by omega)).trans (by omega)
    refine sg_put (ci := 3) (x := v_9) (ty := .int) (C := RX3) (T := TX3) (N := 6) hx hb hts (fun w h => List.mem_cons_of_mem _ (gx_3 w h)) tyX3 tyX3_ok nmX3 hown hh hA hK hP hS 36 (by decide) rfl rfl 3 (by decide) (hts _ (List.mem_cons_of_mem _ mw_16)) (fun _ h9 => h9) rfl rfl (by decide +kernel) rfl rfl (Nat.le_of_ble_eq_true rfl) dX3_does_60 (fun f_11 H locs ef_11 hP hS => ?_)
    have hI : sgI loX hiX f_11 := by rw [ef_11]; exact sgI.put hI 36 3 (show 0 ≤ (v_9 : Int32).toInt ∧ (v_9 : Int32).toInt ≤ 19 from by omega)
    have hF : sgK WkX3_does_7_0_3_f12_f7 f f_11 := sgK.put hF ef_11 (by rfl)
    refine lv_aload_n hx hb dX3_does_63 rfl (lv_at hl 0 rfl) ?_
    refine lv_iload hx hb dX3_does_64 (lv_at hl 4 rfl) ?_
    refine sg_gets hx hb hZ 2 rfl hS hown (hts _ (List.mem_cons_of_mem _ mw_174)) (fun _ h9 => h9) dX3_does_66 ?_
    refine lv_iload hx hb dX3_does_69 (lv_at hl 3 rfl) ?_
    refine sg_sald hx hb hZ 2 rfl hS (y := 1) (N := 8) (vp_in_iff.mpr (by decide)) dX3_does_71 ?_
    refine W.eq (g2 := F0 m 72 ls [.int 0, .int 20, .ref (h 36)]) (by rfl) ?_
    refine lv_iload_n hx hb dX3_does_72 rfl (lv_at hl 1 rfl) ?_
    refine lv_iload hx hb dX3_does_73 (lv_at hl 2 rfl) ?_
    refine lv_iconst (v := 1) hx hb dX3_does_75 (by decide) ?_
    refine lv_iadd hx hb dX3_does_76 ?_
    refine W.eq (g2 := F0 m 77 ls [.int 4, .int x2, .int 0, .int 20, .ref (h 36)]) (by rw [show (3 + 1 : Int32) = 4 from by decide]) ?_
    have c_12 : v_9 = 13 := Int32.toInt_inj.mp (by have k9 : (13 : Int32).toInt = 13 := (by decide); omega)
    have q_13 : (f_11 36 3).toInt = 13 := (congrArg Int32.toInt (show f_11 36 3 = 13 from (Eq.trans (by rw [ef_11, sg_up_s, sgu_s]) c_12))).trans (by decide)
    have q_14 : (f_11 36 3).toInt = 13 := (congrArg Int32.toInt (show f_11 36 3 = 13 from (Eq.trans (by rw [ef_11, sg_up_s, sgu_s]) c_12))).trans (by decide)
    refine sg_calli (va_runV (As := [.int 20, .int 0, .int x2, .int 4]) (rest := []) ⟨hx, hb, hml, hown, hts⟩ (kX3_runs_20_0_4_f13_f7 l D ca za h hh f_11 L Q hI x2 (Eq.trans (by rw [ef_11, sg_up_s, sgu_s]) c_12) (by rw [ef_11, sg_up_s, sgu_n (by decide)]; exact m_8) (by omega) (by have k0 : (20 : Int32).toInt = 20 := (by decide); have k1 : (0 : Int32).toInt = 0 := (by decide); have k3 : (4 : Int32).toInt = 4 := (by decide); omega) H.size) (cwV 4 hts (gw_V (fun _ h => List.mem_cons_of_mem _ h) mw_311 mw_312 mw_313 mw_47 mw_310) rfl rfl rfl (by decide +kernel) ⟨Nat.le_of_ble_eq_true rfl, Nat.le_of_ble_eq_true rfl⟩) (sg_preV (ci := 3) (C := RX3) (T := TX3) (N := 6) hA hK hP hS hZ 36 (by decide) rfl rfl) rfl rfl hl.1 rfl (lv_room (Nat.le_of_ble_eq_true rfl)) dX3_does_77 ⟨Nat.le_refl _, Nat.le_refl _⟩) hA hS (fun r_18 f_15 L_16 Q_17 H locs hq hP hS => ?_)
    obtain ⟨⟨hI, hk_f_15, eL9, eQ9⟩, hq, p_19⟩ := hq
    rw [eL9, eQ9] at hP; clear eL9 eQ9
    have hF : sgK WkX3_does_7_0_3_f12_f7 f f_15 := sgK.tr hF hk_f_15 (by decide)
    obtain ⟨v_20, ev_20⟩ : ∃ z : Int32, z = f_15 36 3 := ⟨_, rfl⟩
    have q_21 : 0 ≤ v_20.toInt ∧ v_20.toInt ≤ 19 := by rw [ev_20]; exact hI 36 3
    have q_22 : (f_15 36 3).toInt = v_20.toInt := (congrArg Int32.toInt (show f_15 36 3 = v_20 from ev_20.symm))
    have q_23 : (f_15 36 3).toInt = v_20.toInt := (congrArg Int32.toInt (show f_15 36 3 = v_20 from ev_20.symm))
    have k_24 : (20 : Int32).toInt = 20 := by decide
    have k_25 : (0 : Int32).toInt = 0 := by decide
    have k_26 : (4 : Int32).toInt = 4 := by decide
    have q_27 : (f_15 36 3).toInt = v_20.toInt := (congrArg Int32.toInt (show f_15 36 3 = v_20 from ev_20.symm))
    have q_28 : (f_15 36 3).toInt = v_20.toInt := (congrArg Int32.toInt (show f_15 36 3 = v_20 from ev_20.symm))
    exact hret _ _ _ _ (r_18) f_15 L Q dX3_does_80 hP hS ⟨⟨hI, hF, rfl, rfl⟩, (by omega), (by omega)⟩
  refine lv_iload_n hx hb dX3_does_0 rfl (lv_at hl 1 rfl) ?_
  refine lv_iload_n hx hb dX3_does_1 rfl (lv_at hl 2 rfl) ?_
  refine sg_calli (va_runS (As := [.int 7, .int 0]) (rest := []) ⟨hx, hb, hml, hown, hts⟩ (kX3_ownerOf_7_0 l D ca za h hh f L Q hI H.size) (va_cwS 2 hts (gw_S (fun _ h => List.mem_cons_of_mem _ h) mw_189 mw_190 mw_47 mw_188) rfl rfl rfl (by decide +kernel) ⟨Nat.le_of_ble_eq_true rfl, Nat.le_of_ble_eq_true rfl⟩) (sg_preS hA hK hP hS hZ) rfl rfl hl.1 rfl (lv_room (Nat.le_of_ble_eq_true rfl)) dX3_does_2 ⟨Nat.le_refl _, Nat.le_refl _⟩) hA hS (fun r_32 f_29 L_30 Q_31 H locs hq hP hS => ?_)
  obtain ⟨⟨ef9, eL9, eQ9⟩, hq⟩ := hq
  rw [ef9, eL9, eQ9] at hP; clear ef9 eL9 eQ9
  obtain rfl : r_32 = 1 := Int32.toInt_inj.mp (by have k9 : (1 : Int32).toInt = 1 := (by decide); omega)
  refine lv_istore (lv' := [(5, .int 1), (0, .ref (h 36)), (1, .int 7), (2, .int 0), (3, .int x2), (4, .int 3)]) hx hb dX3_does_5 hl (by decide) rfl (fun ls hl => ?_)
  refine lv_iload hx hb dX3_does_7 (lv_at hl 0 rfl) ?_
  refine lv_if_lt (tgt := 19) hx hb dX3_does_9 (by decide) (fun c => absurd c (by decide)) (fun c => ?_)
  refine lv_iload hx hb dX3_does_12 (lv_at hl 5 rfl) ?_
  refine lv_bipush (v := 40) hx hb dX3_does_14 (by decide) ?_
  refine lv_icmp_le (tgt := 21) hx hb dX3_does_16 (by decide) (fun c => ?_) (fun c => absurd c (by decide))
  refine sg_gets hx hb hZ 3 rfl hS hown (hts _ (List.mem_cons_of_mem _ mw_173)) (fun _ h9 => h9) dX3_does_21 ?_
  refine lv_iload hx hb dX3_does_24 (lv_at hl 0 rfl) ?_
  refine lv_iconst (v := 4) hx hb dX3_does_26 (by decide) ?_
  refine lv_imul hx hb dX3_does_27 ?_
  refine W.eq (g2 := F0 m 28 ls [.int 4, .ref (za 3)]) (by rw [show (1 * 4 : Int32) = 4 from by decide]) ?_
  refine lv_iload_n hx hb dX3_does_28 rfl (lv_at hl 3 rfl) ?_
  refine lv_iadd hx hb dX3_does_29 ?_
  refine W.eq (g2 := F0 m 30 ls [.int 4, .ref (za 3)]) (by rw [show (4 + 0 : Int32) = 4 from by decide]) ?_
  refine sg_sald hx hb hZ 3 rfl hS (y := 4) (N := 32) (vp_in_iff.mpr (by decide)) dX3_does_30 ?_
  refine W.eq (g2 := F0 m 31 ls [.int 20]) (by rfl) ?_
  refine lv_istore (lv' := [(6, .int 20), (5, .int 1), (0, .ref (h 36)), (1, .int 7), (2, .int 0), (3, .int x2), (4, .int 3)]) hx hb dX3_does_31 hl (by decide) rfl (fun ls hl => ?_)
  refine lv_aload_n hx hb dX3_does_33 rfl (lv_at hl 2 rfl) ?_
  refine sg_get (ci := 3) (v := .int 12) (C := RX3) (T := TX3) (N := 6) hx hb hts (fun w h => List.mem_cons_of_mem _ (gx_3 w h)) hown hK hP 36 (by decide) rfl rfl 3 (by decide) (hts _ (List.mem_cons_of_mem _ mw_16)) (fun _ h9 => h9) (congrArg (fun z => some (Value.int z)) (show f 36 3 = 12 from hf_36_3)) dX3_does_34 ?_
  refine lv_bipush (v := 24) hx hb dX3_does_37 (by decide) ?_
  refine lv_icmp_ge (tgt := 53) hx hb dX3_does_39 (by decide) (fun c => absurd c (by decide)) (fun c => ?_)
  refine lv_aload_n hx hb dX3_does_42 rfl (lv_at hl 2 rfl) ?_
  refine sg_get (ci := 3) (v := .ref (h 38)) (C := RX3) (T := TX3) (N := 6) hx hb hts (fun w h => List.mem_cons_of_mem _ (gx_3 w h)) hown hK hP 36 (by decide) rfl rfl 1 (by decide) (hts _ (List.mem_cons_of_mem _ mw_191)) (fun _ h9 => h9) rfl dX3_does_43 ?_
  refine lv_aload_n hx hb dX3_does_46 rfl (lv_at hl 2 rfl) ?_
  refine sg_get (ci := 3) (v := .int 12) (C := RX3) (T := TX3) (N := 6) hx hb hts (fun w h => List.mem_cons_of_mem _ (gx_3 w h)) hown hK hP 36 (by decide) rfl rfl 3 (by decide) (hts _ (List.mem_cons_of_mem _ mw_16)) (fun _ h9 => h9) (congrArg (fun z => some (Value.int z)) (show f 36 3 = 12 from hf_36_3)) dX3_does_47 ?_
  refine lv_iload hx hb dX3_does_50 (lv_at hl 0 rfl) ?_
  refine sg_iast hx hb hh hA hK hP hS 38 (by decide) 0 (fun _ => rfl) rfl (i := 12) (x := 20) (vp_in_iff.mpr (by decide)) dX3_does_52 (fun f_33 H locs ef_33 hP hS => ?_)
  have hI : sgI loX hiX f_33 := by rw [ef_33]; exact sgI.put hI 38 (Int32.toNatClampNeg 12) (show 0 ≤ (20 : Int32).toInt ∧ (20 : Int32).toInt ≤ 81 from by decide)
  have hF : sgK WkX3_does_7_0_3_f12_f7 f f_33 := sgK.put hF ef_33 (by rfl)
  exact blk_53 f_33 _ _ _ (by have zz36_3 : (f_33 36 3).toInt = 12 := (congrArg Int32.toInt (show f_33 36 3 = 12 from (by rw [ef_33, sg_up_n (by decide)]; exact hf_36_3))).trans (by decide); omega) (by have zz36_4 : (f_33 36 4).toInt = 7 := (congrArg Int32.toInt (show f_33 36 4 = 7 from (by rw [ef_33, sg_up_n (by decide)]; exact hf_36_4))).trans (by decide); omega) hI hF hP hS (lv_sub hl [2, 5, 6, 1, 0] rfl)

abbrev WkX3_runs_50_1_3_f11_f7 : List (Nat × Nat × Option Nat) := [(36, 36, some 3), (38, 38, none)]
set_option maxHeartbeats 4000000 in
set_option maxRecDepth 100000 in
theorem kX3_runs_50_1_3_f11_f7 (l : Launch) (D : va_G) (ca : Nat → ClassId) (za h : Nat → Nat) (hh : sgH 52 h) (f : sg_F) (L : sg_L) (Q : sg_Q) (hI : sgI loX hiX f) (x2 : Int32) (hf_36_3 : f 36 3 = 11) (hf_36_4 : f 36 4 = 7) (b2 : 1 ≤ x2.toInt ∧ x2.toInt ≤ 1) (p0 : 11 ≤ (f 36 3).toInt ∧ (f 36 3).toInt ≤ 11) (sz : Nat) : Met l yX3_runs gwX3_runs { frames := 4, cells := 0, slots := 0, locals := 100 } (sgP D vwCl (tyX ca) 52 h (eX ca h) zcX za f L Q sz [.ref (h 36), .int 50, .int 1, .int x2, .int 3]) (sgQi D vwCl 52 h (eX ca h) sz (fun r f1 L1 Q1 => ((sgI loX hiX f1 ∧ sgK WkX3_runs_50_1_3_f11_f7 f f1 ∧ L1 = L ∧ Q1 = Q) ∧ True ∧ (14 ≤ (f1 36 3).toInt ∧ (f1 36 3).toInt ≤ 14)))) 0 0 (sgA 52 h sz) := by
  refine sg_ofWi (cc := cX3_runs) (maxL := 5) RX3 (by decide) rfl rfl (Nat.le_of_ble_eq_true rfl) ?_
  intro p e s m below meth cd Qz ls hx hb hml hown hts hK hZ hP hS hl hret
  have hA := sgY.self (n := 52) (h := h) (sz := s.heap.size)
  have hl : lv_has ls 5 [(0, .ref (h 36)), (1, .int 50), (2, .int 1), (3, .int x2), (4, .int 3)] := hl
  obtain ⟨H, hH⟩ : ∃ z : Heap, z = s.heap := ⟨_, rfl⟩
  obtain ⟨locs, hlo⟩ : ∃ z : List Loc, z = [] := ⟨_, rfl⟩
  have hP : va_P D vwCl (sgw 52 h (eX ca h) f L Q) H := by rw [hH]; exact hP
  have hS : va_S (sgA 52 h s.heap.size) s.heap H locs := by rw [hH, hlo]; exact hS
  suffices hgo : W p l e ({ frames := 4, cells := 0, slots := 0, locals := 100 }) s m ([.ref (h 36), .int 50, .int 1, .int x2, .int 3] : List Value).toArray below meth cd H locs 0 0 Qz (F0 m 0 ls []) by rw [hH, hlo] at hgo; exact hgo
  clear hH hlo
  have o_1 : (f 36 3).toInt = 11 := (congrArg Int32.toInt (show f 36 3 = 11 from hf_36_3)).trans (by decide)
  have hF : sgK WkX3_runs_50_1_3_f11_f7 f f := sgK.rf
  refine lv_iload_n hx hb dX3_runs_0 rfl (lv_at hl 1 rfl) ?_
  refine lv_lookup (x := 50) (off := 217) (tgt := 218) hx hb dX3_runs_1 (by decide) (by decide) (by decide) ?_
  refine lv_aload_n hx hb dX3_runs_218 rfl (lv_at hl 0 rfl) ?_
  refine lv_iload_n hx hb dX3_runs_219 rfl (lv_at hl 2 rfl) ?_
  refine lv_iconst (v := 2) hx hb dX3_runs_220 (by decide) ?_
  refine lv_iload_n hx hb dX3_runs_221 rfl (lv_at hl 3 rfl) ?_
  refine lv_iload hx hb dX3_runs_222 (lv_at hl 4 rfl) ?_
  have q_2 : (f 36 3).toInt = 11 := (congrArg Int32.toInt (show f 36 3 = 11 from hf_36_3)).trans (by decide)
  have q_3 : (f 36 3).toInt = 11 := (congrArg Int32.toInt (show f 36 3 = 11 from hf_36_3)).trans (by decide)
  refine sg_calli (va_runV (As := [.int 1, .int 2, .int x2, .int 3]) (rest := []) ⟨hx, hb, hml, hown, hts⟩ (kX3_does_1_2_3_f11_f7 l D ca za h hh f L Q hI x2 hf_36_3 hf_36_4 (by omega) (by have k0 : (1 : Int32).toInt = 1 := (by decide); have k1 : (2 : Int32).toInt = 2 := (by decide); have k3 : (3 : Int32).toInt = 3 := (by decide); omega) H.size) (cwV 4 hts (gw_V (fun _ h => List.mem_cons_of_mem _ h) mw_318 mw_319 mw_320 mw_47 mw_317) rfl rfl rfl (by decide +kernel) ⟨Nat.le_of_ble_eq_true rfl, Nat.le_of_ble_eq_true rfl⟩) (sg_preV (ci := 3) (C := RX3) (T := TX3) (N := 6) hA hK hP hS hZ 36 (by decide) rfl rfl) rfl rfl hl.1 rfl (lv_room (Nat.le_of_ble_eq_true rfl)) dX3_runs_224 ⟨Nat.le_refl _, Nat.le_refl _⟩) hA hS (fun r_7 f_4 L_5 Q_6 H locs hq hP hS => ?_)
  obtain ⟨⟨hI, hk_f_4, eL9, eQ9⟩, hq, p_8⟩ := hq
  rw [eL9, eQ9] at hP; clear eL9 eQ9
  have hF : sgK WkX3_runs_50_1_3_f11_f7 f f_4 := sgK.tr hF hk_f_4 (by decide)
  obtain ⟨v_9, ev_9⟩ : ∃ z : Int32, z = f_4 36 3 := ⟨_, rfl⟩
  have q_10 : 0 ≤ v_9.toInt ∧ v_9.toInt ≤ 19 := by rw [ev_9]; exact hI 36 3
  have q_11 : (f_4 36 3).toInt = v_9.toInt := (congrArg Int32.toInt (show f_4 36 3 = v_9 from ev_9.symm))
  have q_12 : (f_4 36 3).toInt = v_9.toInt := (congrArg Int32.toInt (show f_4 36 3 = v_9 from ev_9.symm))
  have k_13 : (1 : Int32).toInt = 1 := by decide
  have k_14 : (2 : Int32).toInt = 2 := by decide
  have k_15 : (3 : Int32).toInt = 3 := by decide
  refine lv_aload_n hx hb dX3_runs_227 rfl (lv_at hl 0 rfl) ?_
  refine lv_aload_n hx hb dX3_runs_228 rfl (lv_at hl 0 rfl) ?_
  refine sg_get (ci := 3) (v := .int 7) (C := RX3) (T := TX3) (N := 6) hx hb hts (fun w h => List.mem_cons_of_mem _ (gx_3 w h)) hown hK hP 36 (by decide) rfl rfl 4 (by decide) (hts _ (List.mem_cons_of_mem _ mw_105)) (fun _ h9 => h9) (congrArg (fun z => some (Value.int z)) (show f_4 36 4 = 7 from ((hk_f_4 36 4 (by decide)).trans hf_36_4))) dX3_runs_229 ?_
  refine lv_iconst (v := 0) hx hb dX3_runs_232 (by decide) ?_
  refine lv_iconst (v := 2) hx hb dX3_runs_233 (by decide) ?_
  refine lv_iload hx hb dX3_runs_234 (lv_at hl 4 rfl) ?_
  have c_16 : v_9 = 12 := Int32.toInt_inj.mp (by have k9 : (12 : Int32).toInt = 12 := (by decide); omega)
  have q_17 : (f_4 36 3).toInt = 12 := (congrArg Int32.toInt (show f_4 36 3 = 12 from (Eq.trans ev_9.symm c_16))).trans (by decide)
  have q_18 : (f_4 36 3).toInt = 12 := (congrArg Int32.toInt (show f_4 36 3 = 12 from (Eq.trans ev_9.symm c_16))).trans (by decide)
  refine sg_calli (va_runV (As := [.int 7, .int 0, .int 2, .int 3]) (rest := [.int r_7]) ⟨hx, hb, hml, hown, hts⟩ (kX3_does_7_0_3_f12_f7 l D ca za h hh f_4 L Q hI 2 (Eq.trans ev_9.symm c_16) ((hk_f_4 36 4 (by decide)).trans hf_36_4) (by decide) (by have k0 : (7 : Int32).toInt = 7 := (by decide); have k1 : (0 : Int32).toInt = 0 := (by decide); have k2 : (2 : Int32).toInt = 2 := (by decide); have k3 : (3 : Int32).toInt = 3 := (by decide); omega) H.size) (cwV 4 hts (gw_V (fun _ h => List.mem_cons_of_mem _ h) mw_318 mw_319 mw_320 mw_47 mw_317) rfl rfl rfl (by decide +kernel) ⟨Nat.le_of_ble_eq_true rfl, Nat.le_of_ble_eq_true rfl⟩) (sg_preV (ci := 3) (C := RX3) (T := TX3) (N := 6) hA hK hP hS hZ 36 (by decide) rfl rfl) rfl rfl hl.1 rfl (lv_room (Nat.le_of_ble_eq_true rfl)) dX3_runs_236 ⟨Nat.le_refl _, Nat.le_refl _⟩) hA hS (fun r_22 f_19 L_20 Q_21 H locs hq hP hS => ?_)
  obtain ⟨⟨hI, hk_f_19, eL9, eQ9⟩, hq, p_23⟩ := hq
  rw [eL9, eQ9] at hP; clear eL9 eQ9
  have hF : sgK WkX3_runs_50_1_3_f11_f7 f f_19 := sgK.tr hF hk_f_19 (by decide)
  obtain ⟨v_24, ev_24⟩ : ∃ z : Int32, z = f_19 36 3 := ⟨_, rfl⟩
  have q_25 : 0 ≤ v_24.toInt ∧ v_24.toInt ≤ 19 := by rw [ev_24]; exact hI 36 3
  have q_26 : (f_19 36 3).toInt = v_24.toInt := (congrArg Int32.toInt (show f_19 36 3 = v_24 from ev_24.symm))
  have q_27 : (f_19 36 3).toInt = v_24.toInt := (congrArg Int32.toInt (show f_19 36 3 = v_24 from ev_24.symm))
  have k_28 : (7 : Int32).toInt = 7 := by decide
  have k_29 : (0 : Int32).toInt = 0 := by decide
  have k_30 : (2 : Int32).toInt = 2 := by decide
  have k_31 : (3 : Int32).toInt = 3 := by decide
  refine lv_isub hx hb dX3_runs_239 ?_
  refine lv_topi (fun v_32 ev_32 => ?_)
  have q_33 : (f_19 36 3).toInt = v_24.toInt := (congrArg Int32.toInt (show f_19 36 3 = v_24 from ev_24.symm))
  have q_34 : (f_19 36 3).toInt = v_24.toInt := (congrArg Int32.toInt (show f_19 36 3 = v_24 from ev_24.symm))
  exact hret _ _ _ _ (v_32) f_19 L Q dX3_runs_240 hP hS ⟨⟨hI, hF, rfl, rfl⟩, trivial, (by omega)⟩

abbrev WkX3_does_7_2_2_f10_f7 : List (Nat × Nat × Option Nat) := [(36, 36, some 3), (38, 38, none)]
set_option maxHeartbeats 4000000 in
set_option maxRecDepth 100000 in
theorem kX3_does_7_2_2_f10_f7 (l : Launch) (D : va_G) (ca : Nat → ClassId) (za h : Nat → Nat) (hh : sgH 52 h) (f : sg_F) (L : sg_L) (Q : sg_Q) (hI : sgI loX hiX f) (x2 : Int32) (hf_36_3 : f 36 3 = 10) (hf_36_4 : f 36 4 = 7) (b2 : 1 ≤ x2.toInt ∧ x2.toInt ≤ 1) (p0 : 10 ≤ (f 36 3).toInt ∧ (f 36 3).toInt ≤ 10) (sz : Nat) : Met l yX3_does gwX3_does { frames := 5, cells := 0, slots := 0, locals := 124 } (sgP D vwCl (tyX ca) 52 h (eX ca h) zcX za f L Q sz [.ref (h 36), .int 7, .int 2, .int x2, .int 2]) (sgQi D vwCl 52 h (eX ca h) sz (fun r f1 L1 Q1 => ((sgI loX hiX f1 ∧ sgK WkX3_does_7_2_2_f10_f7 f f1 ∧ L1 = L ∧ Q1 = Q) ∧ True ∧ (14 ≤ (f1 36 3).toInt ∧ (f1 36 3).toInt ≤ 14)))) 0 0 (sgA 52 h sz) := by
  refine sg_ofWi (cc := cX3_does) (maxL := 7) RX3 (by decide) rfl rfl (Nat.le_of_ble_eq_true rfl) ?_
  intro p e s m below meth cd Qz ls hx hb hml hown hts hK hZ hP hS hl hret
  have hA := sgY.self (n := 52) (h := h) (sz := s.heap.size)
  have hl : lv_has ls 7 [(0, .ref (h 36)), (1, .int 7), (2, .int 2), (3, .int x2), (4, .int 2)] := hl
  obtain ⟨H, hH⟩ : ∃ z : Heap, z = s.heap := ⟨_, rfl⟩
  obtain ⟨locs, hlo⟩ : ∃ z : List Loc, z = [] := ⟨_, rfl⟩
  have hP : va_P D vwCl (sgw 52 h (eX ca h) f L Q) H := by rw [hH]; exact hP
  have hS : va_S (sgA 52 h s.heap.size) s.heap H locs := by rw [hH, hlo]; exact hS
  suffices hgo : W p l e ({ frames := 5, cells := 0, slots := 0, locals := 124 }) s m ([.ref (h 36), .int 7, .int 2, .int x2, .int 2] : List Value).toArray below meth cd H locs 0 0 Qz (F0 m 0 ls []) by rw [hH, hlo] at hgo; exact hgo
  clear hH hlo
  have o_1 : (f 36 3).toInt = 10 := (congrArg Int32.toInt (show f 36 3 = 10 from hf_36_3)).trans (by decide)
  have hF : sgK WkX3_does_7_2_2_f10_f7 f f := sgK.rf
  have blk_53 : ∀ (fp_53 : sg_F) (H : Heap) (locs : List Loc) (ls : Array Slot), 10 ≤ (fp_53 36 3).toInt ∧ (fp_53 36 3).toInt ≤ 10 → 7 ≤ (fp_53 36 4).toInt ∧ (fp_53 36 4).toInt ≤ 7 → sgI loX hiX fp_53 → sgK WkX3_does_7_2_2_f10_f7 f fp_53 → va_P D vwCl (sgw 52 h (eX ca h) fp_53 L Q) H → va_S (sgA 52 h s.heap.size) s.heap H locs → lv_has ls 7 [(0, .ref (h 36)), (3, .int x2), (4, .int 2), (5, .int 4), (6, .int 50)] → W p l e ({ frames := 5, cells := 0, slots := 0, locals := 124 }) s m ([.ref (h 36), .int 7, .int 2, .int x2, .int 2] : List Value).toArray below meth cd H locs 0 0 Qz (F0 m 53 ls []) := by
    intro fp_53 H locs ls hy0_53 hy1_53 hI hF hP hS hl
    obtain ⟨v_2, ev_2⟩ : ∃ z : Int32, z = fp_53 36 3 := ⟨_, rfl⟩
    have q_3 : 0 ≤ v_2.toInt ∧ v_2.toInt ≤ 19 := by rw [ev_2]; exact hI 36 3
    have q_4 : (fp_53 36 3).toInt = v_2.toInt := by rw [ev_2]
    obtain ⟨v_5, ev_5⟩ : ∃ z : Int32, z = fp_53 36 4 := ⟨_, rfl⟩
    have q_6 : 0 ≤ v_5.toInt ∧ v_5.toInt ≤ 7 := by rw [ev_5]; exact hI 36 4
    have q_7 : (fp_53 36 4).toInt = v_5.toInt := by rw [ev_5]
    have m_8 : fp_53 36 4 = 7 := (hF 36 4 (by decide)).trans hf_36_4
    refine lv_aload_n hx hb dX3_does_53 rfl (lv_at hl 0 rfl) ?_
    refine lv_dup hx hb dX3_does_54 rfl ?_
    refine sg_get (ci := 3) (v := .int v_2) (C := RX3) (T := TX3) (N := 6) hx hb hts (fun w h => List.mem_cons_of_mem _ (gx_3 w h)) hown hK hP 36 (by decide) rfl rfl 3 (by decide) (hts _ (List.mem_cons_of_mem _ mw_16)) (fun _ h9 => h9) (congrArg (fun z => some (Value.int z)) (show fp_53 36 3 = v_2 from ev_2.symm)) dX3_does_55 ?_
    refine lv_iconst (v := 1) hx hb dX3_does_58 (by decide) ?_
    refine lv_iadd hx hb dX3_does_59 ?_
    refine lv_topi (fun v_9 ev_9 => ?_)
    have q_10 : v_9.toInt = v_2.toInt + 1 := by rw [ev_9]; have k1 : (1 : Int32).toInt = 1 := (by decide); exact (bn_addI (by omega) (by omega)).trans (by omega)
    refine sg_put (ci := 3) (x := v_9) (ty := .int) (C := RX3) (T := TX3) (N := 6) hx hb hts (fun w h => List.mem_cons_of_mem _ (gx_3 w h)) tyX3 tyX3_ok nmX3 hown hh hA hK hP hS 36 (by decide) rfl rfl 3 (by decide) (hts _ (List.mem_cons_of_mem _ mw_16)) (fun _ h9 => h9) rfl rfl (by decide +kernel) rfl rfl (Nat.le_of_ble_eq_true rfl) dX3_does_60 (fun f_11 H locs ef_11 hP hS => ?_)
    have hI : sgI loX hiX f_11 := by rw [ef_11]; exact sgI.put hI 36 3 (show 0 ≤ (v_9 : Int32).toInt ∧ (v_9 : Int32).toInt ≤ 19 from by omega)
    have hF : sgK WkX3_does_7_2_2_f10_f7 f f_11 := sgK.put hF ef_11 (by rfl)
    refine lv_aload_n hx hb dX3_does_63 rfl (lv_at hl 0 rfl) ?_
    refine lv_iload hx hb dX3_does_64 (lv_at hl 4 rfl) ?_
    refine sg_gets hx hb hZ 2 rfl hS hown (hts _ (List.mem_cons_of_mem _ mw_174)) (fun _ h9 => h9) dX3_does_66 ?_
    refine lv_iload hx hb dX3_does_69 (lv_at hl 3 rfl) ?_
    refine sg_sald hx hb hZ 2 rfl hS (y := 4) (N := 8) (vp_in_iff.mpr (by decide)) dX3_does_71 ?_
    refine W.eq (g2 := F0 m 72 ls [.int 1, .int 50, .ref (h 36)]) (by rfl) ?_
    refine lv_iload_n hx hb dX3_does_72 rfl (lv_at hl 1 rfl) ?_
    refine lv_iload hx hb dX3_does_73 (lv_at hl 2 rfl) ?_
    refine lv_iconst (v := 1) hx hb dX3_does_75 (by decide) ?_
    refine lv_iadd hx hb dX3_does_76 ?_
    refine W.eq (g2 := F0 m 77 ls [.int 3, .int x2, .int 1, .int 50, .ref (h 36)]) (by rw [show (2 + 1 : Int32) = 3 from by decide]) ?_
    have c_12 : v_9 = 11 := Int32.toInt_inj.mp (by have k9 : (11 : Int32).toInt = 11 := (by decide); omega)
    have q_13 : (f_11 36 3).toInt = 11 := (congrArg Int32.toInt (show f_11 36 3 = 11 from (Eq.trans (by rw [ef_11, sg_up_s, sgu_s]) c_12))).trans (by decide)
    have q_14 : (f_11 36 3).toInt = 11 := (congrArg Int32.toInt (show f_11 36 3 = 11 from (Eq.trans (by rw [ef_11, sg_up_s, sgu_s]) c_12))).trans (by decide)
    refine sg_calli (va_runV (As := [.int 50, .int 1, .int x2, .int 3]) (rest := []) ⟨hx, hb, hml, hown, hts⟩ (kX3_runs_50_1_3_f11_f7 l D ca za h hh f_11 L Q hI x2 (Eq.trans (by rw [ef_11, sg_up_s, sgu_s]) c_12) (by rw [ef_11, sg_up_s, sgu_n (by decide)]; exact m_8) (by omega) (by have k0 : (50 : Int32).toInt = 50 := (by decide); have k1 : (1 : Int32).toInt = 1 := (by decide); have k3 : (3 : Int32).toInt = 3 := (by decide); omega) H.size) (cwV 4 hts (gw_V (fun _ h => List.mem_cons_of_mem _ h) mw_311 mw_312 mw_313 mw_47 mw_310) rfl rfl rfl (by decide +kernel) ⟨Nat.le_of_ble_eq_true rfl, Nat.le_of_ble_eq_true rfl⟩) (sg_preV (ci := 3) (C := RX3) (T := TX3) (N := 6) hA hK hP hS hZ 36 (by decide) rfl rfl) rfl rfl hl.1 rfl (lv_room (Nat.le_of_ble_eq_true rfl)) dX3_does_77 ⟨Nat.le_refl _, Nat.le_refl _⟩) hA hS (fun r_18 f_15 L_16 Q_17 H locs hq hP hS => ?_)
    obtain ⟨⟨hI, hk_f_15, eL9, eQ9⟩, hq, p_19⟩ := hq
    rw [eL9, eQ9] at hP; clear eL9 eQ9
    have hF : sgK WkX3_does_7_2_2_f10_f7 f f_15 := sgK.tr hF hk_f_15 (by decide)
    obtain ⟨v_20, ev_20⟩ : ∃ z : Int32, z = f_15 36 3 := ⟨_, rfl⟩
    have q_21 : 0 ≤ v_20.toInt ∧ v_20.toInt ≤ 19 := by rw [ev_20]; exact hI 36 3
    have q_22 : (f_15 36 3).toInt = v_20.toInt := (congrArg Int32.toInt (show f_15 36 3 = v_20 from ev_20.symm))
    have q_23 : (f_15 36 3).toInt = v_20.toInt := (congrArg Int32.toInt (show f_15 36 3 = v_20 from ev_20.symm))
    have k_24 : (50 : Int32).toInt = 50 := by decide
    have k_25 : (1 : Int32).toInt = 1 := by decide
    have k_26 : (3 : Int32).toInt = 3 := by decide
    have q_27 : (f_15 36 3).toInt = v_20.toInt := (congrArg Int32.toInt (show f_15 36 3 = v_20 from ev_20.symm))
    have q_28 : (f_15 36 3).toInt = v_20.toInt := (congrArg Int32.toInt (show f_15 36 3 = v_20 from ev_20.symm))
    exact hret _ _ _ _ (r_18) f_15 L Q dX3_does_80 hP hS ⟨⟨hI, hF, rfl, rfl⟩, trivial, (by omega)⟩
  refine lv_iload_n hx hb dX3_does_0 rfl (lv_at hl 1 rfl) ?_
  refine lv_iload_n hx hb dX3_does_1 rfl (lv_at hl 2 rfl) ?_
  refine sg_calli (va_runS (As := [.int 7, .int 2]) (rest := []) ⟨hx, hb, hml, hown, hts⟩ (kX3_ownerOf_7_2 l D ca za h hh f L Q hI H.size) (va_cwS 2 hts (gw_S (fun _ h => List.mem_cons_of_mem _ h) mw_189 mw_190 mw_47 mw_188) rfl rfl rfl (by decide +kernel) ⟨Nat.le_of_ble_eq_true rfl, Nat.le_of_ble_eq_true rfl⟩) (sg_preS hA hK hP hS hZ) rfl rfl hl.1 rfl (lv_room (Nat.le_of_ble_eq_true rfl)) dX3_does_2 ⟨Nat.le_refl _, Nat.le_refl _⟩) hA hS (fun r_32 f_29 L_30 Q_31 H locs hq hP hS => ?_)
  obtain ⟨⟨ef9, eL9, eQ9⟩, hq⟩ := hq
  rw [ef9, eL9, eQ9] at hP; clear ef9 eL9 eQ9
  obtain rfl : r_32 = 4 := Int32.toInt_inj.mp (by have k9 : (4 : Int32).toInt = 4 := (by decide); omega)
  refine lv_istore (lv' := [(5, .int 4), (0, .ref (h 36)), (1, .int 7), (2, .int 2), (3, .int x2), (4, .int 2)]) hx hb dX3_does_5 hl (by decide) rfl (fun ls hl => ?_)
  refine lv_iload hx hb dX3_does_7 (lv_at hl 0 rfl) ?_
  refine lv_if_lt (tgt := 19) hx hb dX3_does_9 (by decide) (fun c => absurd c (by decide)) (fun c => ?_)
  refine lv_iload hx hb dX3_does_12 (lv_at hl 5 rfl) ?_
  refine lv_bipush (v := 40) hx hb dX3_does_14 (by decide) ?_
  refine lv_icmp_le (tgt := 21) hx hb dX3_does_16 (by decide) (fun c => ?_) (fun c => absurd c (by decide))
  refine sg_gets hx hb hZ 3 rfl hS hown (hts _ (List.mem_cons_of_mem _ mw_173)) (fun _ h9 => h9) dX3_does_21 ?_
  refine lv_iload hx hb dX3_does_24 (lv_at hl 0 rfl) ?_
  refine lv_iconst (v := 4) hx hb dX3_does_26 (by decide) ?_
  refine lv_imul hx hb dX3_does_27 ?_
  refine W.eq (g2 := F0 m 28 ls [.int 16, .ref (za 3)]) (by rw [show (4 * 4 : Int32) = 16 from by decide]) ?_
  refine lv_iload_n hx hb dX3_does_28 rfl (lv_at hl 3 rfl) ?_
  refine lv_iadd hx hb dX3_does_29 ?_
  refine W.eq (g2 := F0 m 30 ls [.int 18, .ref (za 3)]) (by rw [show (16 + 2 : Int32) = 18 from by decide]) ?_
  refine sg_sald hx hb hZ 3 rfl hS (y := 18) (N := 32) (vp_in_iff.mpr (by decide)) dX3_does_30 ?_
  refine W.eq (g2 := F0 m 31 ls [.int 50]) (by rfl) ?_
  refine lv_istore (lv' := [(6, .int 50), (5, .int 4), (0, .ref (h 36)), (1, .int 7), (2, .int 2), (3, .int x2), (4, .int 2)]) hx hb dX3_does_31 hl (by decide) rfl (fun ls hl => ?_)
  refine lv_aload_n hx hb dX3_does_33 rfl (lv_at hl 2 rfl) ?_
  refine sg_get (ci := 3) (v := .int 10) (C := RX3) (T := TX3) (N := 6) hx hb hts (fun w h => List.mem_cons_of_mem _ (gx_3 w h)) hown hK hP 36 (by decide) rfl rfl 3 (by decide) (hts _ (List.mem_cons_of_mem _ mw_16)) (fun _ h9 => h9) (congrArg (fun z => some (Value.int z)) (show f 36 3 = 10 from hf_36_3)) dX3_does_34 ?_
  refine lv_bipush (v := 24) hx hb dX3_does_37 (by decide) ?_
  refine lv_icmp_ge (tgt := 53) hx hb dX3_does_39 (by decide) (fun c => absurd c (by decide)) (fun c => ?_)
  refine lv_aload_n hx hb dX3_does_42 rfl (lv_at hl 2 rfl) ?_
  refine sg_get (ci := 3) (v := .ref (h 38)) (C := RX3) (T := TX3) (N := 6) hx hb hts (fun w h => List.mem_cons_of_mem _ (gx_3 w h)) hown hK hP 36 (by decide) rfl rfl 1 (by decide) (hts _ (List.mem_cons_of_mem _ mw_191)) (fun _ h9 => h9) rfl dX3_does_43 ?_
  refine lv_aload_n hx hb dX3_does_46 rfl (lv_at hl 2 rfl) ?_
  refine sg_get (ci := 3) (v := .int 10) (C := RX3) (T := TX3) (N := 6) hx hb hts (fun w h => List.mem_cons_of_mem _ (gx_3 w h)) hown hK hP 36 (by decide) rfl rfl 3 (by decide) (hts _ (List.mem_cons_of_mem _ mw_16)) (fun _ h9 => h9) (congrArg (fun z => some (Value.int z)) (show f 36 3 = 10 from hf_36_3)) dX3_does_47 ?_
  refine lv_iload hx hb dX3_does_50 (lv_at hl 0 rfl) ?_
  refine sg_iast hx hb hh hA hK hP hS 38 (by decide) 0 (fun _ => rfl) rfl (i := 10) (x := 50) (vp_in_iff.mpr (by decide)) dX3_does_52 (fun f_33 H locs ef_33 hP hS => ?_)
  have hI : sgI loX hiX f_33 := by rw [ef_33]; exact sgI.put hI 38 (Int32.toNatClampNeg 10) (show 0 ≤ (50 : Int32).toInt ∧ (50 : Int32).toInt ≤ 81 from by decide)
  have hF : sgK WkX3_does_7_2_2_f10_f7 f f_33 := sgK.put hF ef_33 (by rfl)
  exact blk_53 f_33 _ _ _ (by have zz36_3 : (f_33 36 3).toInt = 10 := (congrArg Int32.toInt (show f_33 36 3 = 10 from (by rw [ef_33, sg_up_n (by decide)]; exact hf_36_3))).trans (by decide); omega) (by have zz36_4 : (f_33 36 4).toInt = 7 := (congrArg Int32.toInt (show f_33 36 4 = 7 from (by rw [ef_33, sg_up_n (by decide)]; exact hf_36_4))).trans (by decide); omega) hI hF hP hS (lv_sub hl [2, 5, 6, 1, 0] rfl)

abbrev WkX3_runs_2_m1_2_f2_f7 : List (Nat × Nat × Option Nat) := [(36, 36, some 3), (38, 38, none)]
set_option maxHeartbeats 4000000 in
set_option maxRecDepth 100000 in
theorem kX3_runs_2_m1_2_f2_f7 (l : Launch) (D : va_G) (ca : Nat → ClassId) (za h : Nat → Nat) (hh : sgH 52 h) (f : sg_F) (L : sg_L) (Q : sg_Q) (hI : sgI loX hiX f) (x2 : Int32) (hf_36_3 : f 36 3 = 2) (hf_36_4 : f 36 4 = 7) (p0 : 2 ≤ (f 36 3).toInt ∧ (f 36 3).toInt ≤ 2) (sz : Nat) : Met l yX3_runs gwX3_runs { frames := 8, cells := 0, slots := 0, locals := 200 } (sgP D vwCl (tyX ca) 52 h (eX ca h) zcX za f L Q sz [.ref (h 36), .int 2, .int (-1), .int x2, .int 2]) (sgQi D vwCl 52 h (eX ca h) sz (fun r f1 L1 Q1 => ((sgI loX hiX f1 ∧ sgK WkX3_runs_2_m1_2_f2_f7 f f1 ∧ L1 = L ∧ Q1 = Q) ∧ True ∧ (14 ≤ (f1 36 3).toInt ∧ (f1 36 3).toInt ≤ 14)))) 0 0 (sgA 52 h sz) := by
  refine sg_ofWi (cc := cX3_runs) (maxL := 5) RX3 (by decide) rfl rfl (Nat.le_of_ble_eq_true rfl) ?_
  intro p e s m below meth cd Qz ls hx hb hml hown hts hK hZ hP hS hl hret
  have hA := sgY.self (n := 52) (h := h) (sz := s.heap.size)
  have hl : lv_has ls 5 [(0, .ref (h 36)), (1, .int 2), (2, .int (-1)), (3, .int x2), (4, .int 2)] := hl
  obtain ⟨H, hH⟩ : ∃ z : Heap, z = s.heap := ⟨_, rfl⟩
  obtain ⟨locs, hlo⟩ : ∃ z : List Loc, z = [] := ⟨_, rfl⟩
  have hP : va_P D vwCl (sgw 52 h (eX ca h) f L Q) H := by rw [hH]; exact hP
  have hS : va_S (sgA 52 h s.heap.size) s.heap H locs := by rw [hH, hlo]; exact hS
  suffices hgo : W p l e ({ frames := 8, cells := 0, slots := 0, locals := 200 }) s m ([.ref (h 36), .int 2, .int (-1), .int x2, .int 2] : List Value).toArray below meth cd H locs 0 0 Qz (F0 m 0 ls []) by rw [hH, hlo] at hgo; exact hgo
  clear hH hlo
  have o_1 : (f 36 3).toInt = 2 := (congrArg Int32.toInt (show f 36 3 = 2 from hf_36_3)).trans (by decide)
  have hF : sgK WkX3_runs_2_m1_2_f2_f7 f f := sgK.rf
  refine lv_iload_n hx hb dX3_runs_0 rfl (lv_at hl 1 rfl) ?_
  refine lv_lookup (x := 2) (off := 122) (tgt := 123) hx hb dX3_runs_1 (by decide) (by decide) (by decide) ?_
  refine lv_aload_n hx hb dX3_runs_123 rfl (lv_at hl 0 rfl) ?_
  refine lv_aload_n hx hb dX3_runs_124 rfl (lv_at hl 0 rfl) ?_
  refine sg_get (ci := 3) (v := .int 7) (C := RX3) (T := TX3) (N := 6) hx hb hts (fun w h => List.mem_cons_of_mem _ (gx_3 w h)) hown hK hP 36 (by decide) rfl rfl 4 (by decide) (hts _ (List.mem_cons_of_mem _ mw_105)) (fun _ h9 => h9) (congrArg (fun z => some (Value.int z)) (show f 36 4 = 7 from hf_36_4)) dX3_runs_125 ?_
  refine lv_iconst (v := 1) hx hb dX3_runs_128 (by decide) ?_
  refine lv_iload_n hx hb dX3_runs_129 rfl (lv_at hl 3 rfl) ?_
  refine lv_iload hx hb dX3_runs_130 (lv_at hl 4 rfl) ?_
  have q_2 : (f 36 3).toInt = 2 := (congrArg Int32.toInt (show f 36 3 = 2 from hf_36_3)).trans (by decide)
  have q_3 : (f 36 3).toInt = 2 := (congrArg Int32.toInt (show f 36 3 = 2 from hf_36_3)).trans (by decide)
  refine sg_calli (va_runV (As := [.int 7, .int 1, .int x2, .int 2]) (rest := []) ⟨hx, hb, hml, hown, hts⟩ (kX3_does_7_1_2_f2_f7 l D ca za h hh f L Q hI x2 hf_36_3 hf_36_4 (by have k0 : (7 : Int32).toInt = 7 := (by decide); have k1 : (1 : Int32).toInt = 1 := (by decide); have k3 : (2 : Int32).toInt = 2 := (by decide); omega) H.size) (cwV 4 hts (gw_V (fun _ h => List.mem_cons_of_mem _ h) mw_318 mw_319 mw_320 mw_47 mw_317) rfl rfl rfl (by decide +kernel) ⟨Nat.le_of_ble_eq_true rfl, Nat.le_of_ble_eq_true rfl⟩) (sg_preV (ci := 3) (C := RX3) (T := TX3) (N := 6) hA hK hP hS hZ 36 (by decide) rfl rfl) rfl rfl hl.1 rfl (lv_room (Nat.le_of_ble_eq_true rfl)) dX3_runs_132 ⟨Nat.le_refl _, Nat.le_refl _⟩) hA hS (fun r_7 f_4 L_5 Q_6 H locs hq hP hS => ?_)
  obtain ⟨⟨hI, hk_f_4, eL9, eQ9⟩, hq, p_8⟩ := hq
  rw [eL9, eQ9] at hP; clear eL9 eQ9
  have hF : sgK WkX3_runs_2_m1_2_f2_f7 f f_4 := sgK.tr hF hk_f_4 (by decide)
  obtain ⟨v_9, ev_9⟩ : ∃ z : Int32, z = f_4 36 3 := ⟨_, rfl⟩
  have q_10 : 0 ≤ v_9.toInt ∧ v_9.toInt ≤ 19 := by rw [ev_9]; exact hI 36 3
  have q_11 : (f_4 36 3).toInt = v_9.toInt := (congrArg Int32.toInt (show f_4 36 3 = v_9 from ev_9.symm))
  have q_12 : (f_4 36 3).toInt = v_9.toInt := (congrArg Int32.toInt (show f_4 36 3 = v_9 from ev_9.symm))
  have k_13 : (7 : Int32).toInt = 7 := by decide
  have k_14 : (1 : Int32).toInt = 1 := by decide
  have k_15 : (2 : Int32).toInt = 2 := by decide
  refine lv_aload_n hx hb dX3_runs_135 rfl (lv_at hl 0 rfl) ?_
  refine lv_aload_n hx hb dX3_runs_136 rfl (lv_at hl 0 rfl) ?_
  refine sg_get (ci := 3) (v := .int 7) (C := RX3) (T := TX3) (N := 6) hx hb hts (fun w h => List.mem_cons_of_mem _ (gx_3 w h)) hown hK hP 36 (by decide) rfl rfl 4 (by decide) (hts _ (List.mem_cons_of_mem _ mw_105)) (fun _ h9 => h9) (congrArg (fun z => some (Value.int z)) (show f_4 36 4 = 7 from ((hk_f_4 36 4 (by decide)).trans hf_36_4))) dX3_runs_137 ?_
  refine lv_iconst (v := 2) hx hb dX3_runs_140 (by decide) ?_
  refine lv_iconst (v := 1) hx hb dX3_runs_141 (by decide) ?_
  refine lv_iload hx hb dX3_runs_142 (lv_at hl 4 rfl) ?_
  have c_16 : v_9 = 10 := Int32.toInt_inj.mp (by have k9 : (10 : Int32).toInt = 10 := (by decide); omega)
  have q_17 : (f_4 36 3).toInt = 10 := (congrArg Int32.toInt (show f_4 36 3 = 10 from (Eq.trans ev_9.symm c_16))).trans (by decide)
  have q_18 : (f_4 36 3).toInt = 10 := (congrArg Int32.toInt (show f_4 36 3 = 10 from (Eq.trans ev_9.symm c_16))).trans (by decide)
  refine sg_calli (va_runV (As := [.int 7, .int 2, .int 1, .int 2]) (rest := [.int r_7]) ⟨hx, hb, hml, hown, hts⟩ (kX3_does_7_2_2_f10_f7 l D ca za h hh f_4 L Q hI 1 (Eq.trans ev_9.symm c_16) ((hk_f_4 36 4 (by decide)).trans hf_36_4) (by decide) (by have k0 : (7 : Int32).toInt = 7 := (by decide); have k1 : (2 : Int32).toInt = 2 := (by decide); have k2 : (1 : Int32).toInt = 1 := (by decide); have k3 : (2 : Int32).toInt = 2 := (by decide); omega) H.size) (cwV 4 hts (gw_V (fun _ h => List.mem_cons_of_mem _ h) mw_318 mw_319 mw_320 mw_47 mw_317) rfl rfl rfl (by decide +kernel) ⟨Nat.le_of_ble_eq_true rfl, Nat.le_of_ble_eq_true rfl⟩) (sg_preV (ci := 3) (C := RX3) (T := TX3) (N := 6) hA hK hP hS hZ 36 (by decide) rfl rfl) rfl rfl hl.1 rfl (lv_room (Nat.le_of_ble_eq_true rfl)) dX3_runs_144 ⟨Nat.le_refl _, Nat.le_refl _⟩) hA hS (fun r_22 f_19 L_20 Q_21 H locs hq hP hS => ?_)
  obtain ⟨⟨hI, hk_f_19, eL9, eQ9⟩, hq, p_23⟩ := hq
  rw [eL9, eQ9] at hP; clear eL9 eQ9
  have hF : sgK WkX3_runs_2_m1_2_f2_f7 f f_19 := sgK.tr hF hk_f_19 (by decide)
  obtain ⟨v_24, ev_24⟩ : ∃ z : Int32, z = f_19 36 3 := ⟨_, rfl⟩
  have q_25 : 0 ≤ v_24.toInt ∧ v_24.toInt ≤ 19 := by rw [ev_24]; exact hI 36 3
  have q_26 : (f_19 36 3).toInt = v_24.toInt := (congrArg Int32.toInt (show f_19 36 3 = v_24 from ev_24.symm))
  have q_27 : (f_19 36 3).toInt = v_24.toInt := (congrArg Int32.toInt (show f_19 36 3 = v_24 from ev_24.symm))
  have k_28 : (7 : Int32).toInt = 7 := by decide
  have k_29 : (2 : Int32).toInt = 2 := by decide
  have k_30 : (1 : Int32).toInt = 1 := by decide
  have k_31 : (2 : Int32).toInt = 2 := by decide
  refine lv_isub hx hb dX3_runs_147 ?_
  refine lv_topi (fun v_32 ev_32 => ?_)
  have q_33 : (f_19 36 3).toInt = v_24.toInt := (congrArg Int32.toInt (show f_19 36 3 = v_24 from ev_24.symm))
  have q_34 : (f_19 36 3).toInt = v_24.toInt := (congrArg Int32.toInt (show f_19 36 3 = v_24 from ev_24.symm))
  exact hret _ _ _ _ (v_32) f_19 L Q dX3_runs_148 hP hS ⟨⟨hI, hF, rfl, rfl⟩, trivial, (by omega)⟩

abbrev WkX3_does_4_3_1_f1_f7 : List (Nat × Nat × Option Nat) := [(36, 36, some 3), (38, 38, none)]
set_option maxHeartbeats 4000000 in
set_option maxRecDepth 100000 in
theorem kX3_does_4_3_1_f1_f7 (l : Launch) (D : va_G) (ca : Nat → ClassId) (za h : Nat → Nat) (hh : sgH 52 h) (f : sg_F) (L : sg_L) (Q : sg_Q) (hI : sgI loX hiX f) (x2 : Int32) (hf_36_3 : f 36 3 = 1) (hf_36_4 : f 36 4 = 7) (p0 : 1 ≤ (f 36 3).toInt ∧ (f 36 3).toInt ≤ 1) (sz : Nat) : Met l yX3_does gwX3_does { frames := 9, cells := 0, slots := 0, locals := 224 } (sgP D vwCl (tyX ca) 52 h (eX ca h) zcX za f L Q sz [.ref (h 36), .int 4, .int 3, .int x2, .int 1]) (sgQi D vwCl 52 h (eX ca h) sz (fun r f1 L1 Q1 => ((sgI loX hiX f1 ∧ sgK WkX3_does_4_3_1_f1_f7 f f1 ∧ L1 = L ∧ Q1 = Q) ∧ True ∧ (14 ≤ (f1 36 3).toInt ∧ (f1 36 3).toInt ≤ 14)))) 0 0 (sgA 52 h sz) := by
  refine sg_ofWi (cc := cX3_does) (maxL := 7) RX3 (by decide) rfl rfl (Nat.le_of_ble_eq_true rfl) ?_
  intro p e s m below meth cd Qz ls hx hb hml hown hts hK hZ hP hS hl hret
  have hA := sgY.self (n := 52) (h := h) (sz := s.heap.size)
  have hl : lv_has ls 7 [(0, .ref (h 36)), (1, .int 4), (2, .int 3), (3, .int x2), (4, .int 1)] := hl
  obtain ⟨H, hH⟩ : ∃ z : Heap, z = s.heap := ⟨_, rfl⟩
  obtain ⟨locs, hlo⟩ : ∃ z : List Loc, z = [] := ⟨_, rfl⟩
  have hP : va_P D vwCl (sgw 52 h (eX ca h) f L Q) H := by rw [hH]; exact hP
  have hS : va_S (sgA 52 h s.heap.size) s.heap H locs := by rw [hH, hlo]; exact hS
  suffices hgo : W p l e ({ frames := 9, cells := 0, slots := 0, locals := 224 }) s m ([.ref (h 36), .int 4, .int 3, .int x2, .int 1] : List Value).toArray below meth cd H locs 0 0 Qz (F0 m 0 ls []) by rw [hH, hlo] at hgo; exact hgo
  clear hH hlo
  have o_1 : (f 36 3).toInt = 1 := (congrArg Int32.toInt (show f 36 3 = 1 from hf_36_3)).trans (by decide)
  have hF : sgK WkX3_does_4_3_1_f1_f7 f f := sgK.rf
  have blk_53 : ∀ (fp_53 : sg_F) (H : Heap) (locs : List Loc) (ls : Array Slot), 1 ≤ (fp_53 36 3).toInt ∧ (fp_53 36 3).toInt ≤ 1 → 7 ≤ (fp_53 36 4).toInt ∧ (fp_53 36 4).toInt ≤ 7 → sgI loX hiX fp_53 → sgK WkX3_does_4_3_1_f1_f7 f fp_53 → va_P D vwCl (sgw 52 h (eX ca h) fp_53 L Q) H → va_S (sgA 52 h s.heap.size) s.heap H locs → lv_has ls 7 [(0, .ref (h 36)), (3, .int x2), (4, .int 1), (5, .int 0), (6, .int 2)] → W p l e ({ frames := 9, cells := 0, slots := 0, locals := 224 }) s m ([.ref (h 36), .int 4, .int 3, .int x2, .int 1] : List Value).toArray below meth cd H locs 0 0 Qz (F0 m 53 ls []) := by
    intro fp_53 H locs ls hy0_53 hy1_53 hI hF hP hS hl
    obtain ⟨v_2, ev_2⟩ : ∃ z : Int32, z = fp_53 36 3 := ⟨_, rfl⟩
    have q_3 : 0 ≤ v_2.toInt ∧ v_2.toInt ≤ 19 := by rw [ev_2]; exact hI 36 3
    have q_4 : (fp_53 36 3).toInt = v_2.toInt := by rw [ev_2]
    obtain ⟨v_5, ev_5⟩ : ∃ z : Int32, z = fp_53 36 4 := ⟨_, rfl⟩
    have q_6 : 0 ≤ v_5.toInt ∧ v_5.toInt ≤ 7 := by rw [ev_5]; exact hI 36 4
    have q_7 : (fp_53 36 4).toInt = v_5.toInt := by rw [ev_5]
    have m_8 : fp_53 36 4 = 7 := (hF 36 4 (by decide)).trans hf_36_4
    refine lv_aload_n hx hb dX3_does_53 rfl (lv_at hl 0 rfl) ?_
    refine lv_dup hx hb dX3_does_54 rfl ?_
    refine sg_get (ci := 3) (v := .int v_2) (C := RX3) (T := TX3) (N := 6) hx hb hts (fun w h => List.mem_cons_of_mem _ (gx_3 w h)) hown hK hP 36 (by decide) rfl rfl 3 (by decide) (hts _ (List.mem_cons_of_mem _ mw_16)) (fun _ h9 => h9) (congrArg (fun z => some (Value.int z)) (show fp_53 36 3 = v_2 from ev_2.symm)) dX3_does_55 ?_
    refine lv_iconst (v := 1) hx hb dX3_does_58 (by decide) ?_
    refine lv_iadd hx hb dX3_does_59 ?_
    refine lv_topi (fun v_9 ev_9 => ?_)
    have q_10 : v_9.toInt = v_2.toInt + 1 := by rw [ev_9]; have k1 : (1 : Int32).toInt = 1 := (by decide); exact (bn_addI (by omega) (by omega)).trans (by omega)
    refine sg_put (ci := 3) (x := v_9) (ty := .int) (C := RX3) (T := TX3) (N := 6) hx hb hts (fun w h => List.mem_cons_of_mem _ (gx_3 w h)) tyX3 tyX3_ok nmX3 hown hh hA hK hP hS 36 (by decide) rfl rfl 3 (by decide) (hts _ (List.mem_cons_of_mem _ mw_16)) (fun _ h9 => h9) rfl rfl (by decide +kernel) rfl rfl (Nat.le_of_ble_eq_true rfl) dX3_does_60 (fun f_11 H locs ef_11 hP hS => ?_)
    have hI : sgI loX hiX f_11 := by rw [ef_11]; exact sgI.put hI 36 3 (show 0 ≤ (v_9 : Int32).toInt ∧ (v_9 : Int32).toInt ≤ 19 from by omega)
    have hF : sgK WkX3_does_4_3_1_f1_f7 f f_11 := sgK.put hF ef_11 (by rfl)
    refine lv_aload_n hx hb dX3_does_63 rfl (lv_at hl 0 rfl) ?_
    refine lv_iload hx hb dX3_does_64 (lv_at hl 4 rfl) ?_
    refine sg_gets hx hb hZ 2 rfl hS hown (hts _ (List.mem_cons_of_mem _ mw_174)) (fun _ h9 => h9) dX3_does_66 ?_
    refine lv_iload hx hb dX3_does_69 (lv_at hl 3 rfl) ?_
    refine sg_sald hx hb hZ 2 rfl hS (y := 0) (N := 8) (vp_in_iff.mpr (by decide)) dX3_does_71 ?_
    refine W.eq (g2 := F0 m 72 ls [.int (-1), .int 2, .ref (h 36)]) (by rfl) ?_
    refine lv_iload_n hx hb dX3_does_72 rfl (lv_at hl 1 rfl) ?_
    refine lv_iload hx hb dX3_does_73 (lv_at hl 2 rfl) ?_
    refine lv_iconst (v := 1) hx hb dX3_does_75 (by decide) ?_
    refine lv_iadd hx hb dX3_does_76 ?_
    refine W.eq (g2 := F0 m 77 ls [.int 2, .int x2, .int (-1), .int 2, .ref (h 36)]) (by rw [show (1 + 1 : Int32) = 2 from by decide]) ?_
    have c_12 : v_9 = 2 := Int32.toInt_inj.mp (by have k9 : (2 : Int32).toInt = 2 := (by decide); omega)
    have q_13 : (f_11 36 3).toInt = 2 := (congrArg Int32.toInt (show f_11 36 3 = 2 from (Eq.trans (by rw [ef_11, sg_up_s, sgu_s]) c_12))).trans (by decide)
    have q_14 : (f_11 36 3).toInt = 2 := (congrArg Int32.toInt (show f_11 36 3 = 2 from (Eq.trans (by rw [ef_11, sg_up_s, sgu_s]) c_12))).trans (by decide)
    refine sg_calli (va_runV (As := [.int 2, .int (-1), .int x2, .int 2]) (rest := []) ⟨hx, hb, hml, hown, hts⟩ (kX3_runs_2_m1_2_f2_f7 l D ca za h hh f_11 L Q hI x2 (Eq.trans (by rw [ef_11, sg_up_s, sgu_s]) c_12) (by rw [ef_11, sg_up_s, sgu_n (by decide)]; exact m_8) (by have k0 : (2 : Int32).toInt = 2 := (by decide); have k1 : ((-1) : Int32).toInt = (-1) := (by decide); have k3 : (2 : Int32).toInt = 2 := (by decide); omega) H.size) (cwV 4 hts (gw_V (fun _ h => List.mem_cons_of_mem _ h) mw_311 mw_312 mw_313 mw_47 mw_310) rfl rfl rfl (by decide +kernel) ⟨Nat.le_of_ble_eq_true rfl, Nat.le_of_ble_eq_true rfl⟩) (sg_preV (ci := 3) (C := RX3) (T := TX3) (N := 6) hA hK hP hS hZ 36 (by decide) rfl rfl) rfl rfl hl.1 rfl (lv_room (Nat.le_of_ble_eq_true rfl)) dX3_does_77 ⟨Nat.le_refl _, Nat.le_refl _⟩) hA hS (fun r_18 f_15 L_16 Q_17 H locs hq hP hS => ?_)
    obtain ⟨⟨hI, hk_f_15, eL9, eQ9⟩, hq, p_19⟩ := hq
    rw [eL9, eQ9] at hP; clear eL9 eQ9
    have hF : sgK WkX3_does_4_3_1_f1_f7 f f_15 := sgK.tr hF hk_f_15 (by decide)
    obtain ⟨v_20, ev_20⟩ : ∃ z : Int32, z = f_15 36 3 := ⟨_, rfl⟩
    have q_21 : 0 ≤ v_20.toInt ∧ v_20.toInt ≤ 19 := by rw [ev_20]; exact hI 36 3
    have q_22 : (f_15 36 3).toInt = v_20.toInt := (congrArg Int32.toInt (show f_15 36 3 = v_20 from ev_20.symm))
    have q_23 : (f_15 36 3).toInt = v_20.toInt := (congrArg Int32.toInt (show f_15 36 3 = v_20 from ev_20.symm))
    have k_24 : (2 : Int32).toInt = 2 := by decide
    have k_25 : ((-1) : Int32).toInt = (-1) := by decide
    have k_26 : (2 : Int32).toInt = 2 := by decide
    have q_27 : (f_15 36 3).toInt = v_20.toInt := (congrArg Int32.toInt (show f_15 36 3 = v_20 from ev_20.symm))
    have q_28 : (f_15 36 3).toInt = v_20.toInt := (congrArg Int32.toInt (show f_15 36 3 = v_20 from ev_20.symm))
    exact hret _ _ _ _ (r_18) f_15 L Q dX3_does_80 hP hS ⟨⟨hI, hF, rfl, rfl⟩, trivial, (by omega)⟩
  refine lv_iload_n hx hb dX3_does_0 rfl (lv_at hl 1 rfl) ?_
  refine lv_iload_n hx hb dX3_does_1 rfl (lv_at hl 2 rfl) ?_
  refine sg_calli (va_runS (As := [.int 4, .int 3]) (rest := []) ⟨hx, hb, hml, hown, hts⟩ (kX3_ownerOf_4_3 l D ca za h hh f L Q hI H.size) (va_cwS 2 hts (gw_S (fun _ h => List.mem_cons_of_mem _ h) mw_189 mw_190 mw_47 mw_188) rfl rfl rfl (by decide +kernel) ⟨Nat.le_of_ble_eq_true rfl, Nat.le_of_ble_eq_true rfl⟩) (sg_preS hA hK hP hS hZ) rfl rfl hl.1 rfl (lv_room (Nat.le_of_ble_eq_true rfl)) dX3_does_2 ⟨Nat.le_refl _, Nat.le_refl _⟩) hA hS (fun r_32 f_29 L_30 Q_31 H locs hq hP hS => ?_)
  obtain ⟨⟨ef9, eL9, eQ9⟩, hq⟩ := hq
  rw [ef9, eL9, eQ9] at hP; clear ef9 eL9 eQ9
  obtain rfl : r_32 = 0 := Int32.toInt_inj.mp (by have k9 : (0 : Int32).toInt = 0 := (by decide); omega)
  refine lv_istore (lv' := [(5, .int 0), (0, .ref (h 36)), (1, .int 4), (2, .int 3), (3, .int x2), (4, .int 1)]) hx hb dX3_does_5 hl (by decide) rfl (fun ls hl => ?_)
  refine lv_iload hx hb dX3_does_7 (lv_at hl 0 rfl) ?_
  refine lv_if_lt (tgt := 19) hx hb dX3_does_9 (by decide) (fun c => absurd c (by decide)) (fun c => ?_)
  refine lv_iload hx hb dX3_does_12 (lv_at hl 5 rfl) ?_
  refine lv_bipush (v := 40) hx hb dX3_does_14 (by decide) ?_
  refine lv_icmp_le (tgt := 21) hx hb dX3_does_16 (by decide) (fun c => ?_) (fun c => absurd c (by decide))
  refine sg_gets hx hb hZ 3 rfl hS hown (hts _ (List.mem_cons_of_mem _ mw_173)) (fun _ h9 => h9) dX3_does_21 ?_
  refine lv_iload hx hb dX3_does_24 (lv_at hl 0 rfl) ?_
  refine lv_iconst (v := 4) hx hb dX3_does_26 (by decide) ?_
  refine lv_imul hx hb dX3_does_27 ?_
  refine W.eq (g2 := F0 m 28 ls [.int 0, .ref (za 3)]) (by rw [show (0 * 4 : Int32) = 0 from by decide]) ?_
  refine lv_iload_n hx hb dX3_does_28 rfl (lv_at hl 3 rfl) ?_
  refine lv_iadd hx hb dX3_does_29 ?_
  refine W.eq (g2 := F0 m 30 ls [.int 3, .ref (za 3)]) (by rw [show (0 + 3 : Int32) = 3 from by decide]) ?_
  refine sg_sald hx hb hZ 3 rfl hS (y := 3) (N := 32) (vp_in_iff.mpr (by decide)) dX3_does_30 ?_
  refine W.eq (g2 := F0 m 31 ls [.int 2]) (by rfl) ?_
  refine lv_istore (lv' := [(6, .int 2), (5, .int 0), (0, .ref (h 36)), (1, .int 4), (2, .int 3), (3, .int x2), (4, .int 1)]) hx hb dX3_does_31 hl (by decide) rfl (fun ls hl => ?_)
  refine lv_aload_n hx hb dX3_does_33 rfl (lv_at hl 2 rfl) ?_
  refine sg_get (ci := 3) (v := .int 1) (C := RX3) (T := TX3) (N := 6) hx hb hts (fun w h => List.mem_cons_of_mem _ (gx_3 w h)) hown hK hP 36 (by decide) rfl rfl 3 (by decide) (hts _ (List.mem_cons_of_mem _ mw_16)) (fun _ h9 => h9) (congrArg (fun z => some (Value.int z)) (show f 36 3 = 1 from hf_36_3)) dX3_does_34 ?_
  refine lv_bipush (v := 24) hx hb dX3_does_37 (by decide) ?_
  refine lv_icmp_ge (tgt := 53) hx hb dX3_does_39 (by decide) (fun c => absurd c (by decide)) (fun c => ?_)
  refine lv_aload_n hx hb dX3_does_42 rfl (lv_at hl 2 rfl) ?_
  refine sg_get (ci := 3) (v := .ref (h 38)) (C := RX3) (T := TX3) (N := 6) hx hb hts (fun w h => List.mem_cons_of_mem _ (gx_3 w h)) hown hK hP 36 (by decide) rfl rfl 1 (by decide) (hts _ (List.mem_cons_of_mem _ mw_191)) (fun _ h9 => h9) rfl dX3_does_43 ?_
  refine lv_aload_n hx hb dX3_does_46 rfl (lv_at hl 2 rfl) ?_
  refine sg_get (ci := 3) (v := .int 1) (C := RX3) (T := TX3) (N := 6) hx hb hts (fun w h => List.mem_cons_of_mem _ (gx_3 w h)) hown hK hP 36 (by decide) rfl rfl 3 (by decide) (hts _ (List.mem_cons_of_mem _ mw_16)) (fun _ h9 => h9) (congrArg (fun z => some (Value.int z)) (show f 36 3 = 1 from hf_36_3)) dX3_does_47 ?_
  refine lv_iload hx hb dX3_does_50 (lv_at hl 0 rfl) ?_
  refine sg_iast hx hb hh hA hK hP hS 38 (by decide) 0 (fun _ => rfl) rfl (i := 1) (x := 2) (vp_in_iff.mpr (by decide)) dX3_does_52 (fun f_33 H locs ef_33 hP hS => ?_)
  have hI : sgI loX hiX f_33 := by rw [ef_33]; exact sgI.put hI 38 (Int32.toNatClampNeg 1) (show 0 ≤ (2 : Int32).toInt ∧ (2 : Int32).toInt ≤ 81 from by decide)
  have hF : sgK WkX3_does_4_3_1_f1_f7 f f_33 := sgK.put hF ef_33 (by rfl)
  exact blk_53 f_33 _ _ _ (by have zz36_3 : (f_33 36 3).toInt = 1 := (congrArg Int32.toInt (show f_33 36 3 = 1 from (by rw [ef_33, sg_up_n (by decide)]; exact hf_36_3))).trans (by decide); omega) (by have zz36_4 : (f_33 36 4).toInt = 7 := (congrArg Int32.toInt (show f_33 36 4 = 7 from (by rw [ef_33, sg_up_n (by decide)]; exact hf_36_4))).trans (by decide); omega) hI hF hP hS (lv_sub hl [2, 5, 6, 1, 0] rfl)

abbrev WkX3_runs_81_4_1_f1_f7 : List (Nat × Nat × Option Nat) := [(36, 36, some 3), (38, 38, none)]
set_option maxHeartbeats 4000000 in
set_option maxRecDepth 100000 in
theorem kX3_runs_81_4_1_f1_f7 (l : Launch) (D : va_G) (ca : Nat → ClassId) (za h : Nat → Nat) (hh : sgH 52 h) (f : sg_F) (L : sg_L) (Q : sg_Q) (hI : sgI loX hiX f) (x2 : Int32) (hf_36_3 : f 36 3 = 1) (hf_36_4 : f 36 4 = 7) (p0 : 1 ≤ (f 36 3).toInt ∧ (f 36 3).toInt ≤ 1) (sz : Nat) : Met l yX3_runs gwX3_runs { frames := 10, cells := 0, slots := 0, locals := 250 } (sgP D vwCl (tyX ca) 52 h (eX ca h) zcX za f L Q sz [.ref (h 36), .int 81, .int 4, .int x2, .int 1]) (sgQi D vwCl 52 h (eX ca h) sz (fun r f1 L1 Q1 => ((sgI loX hiX f1 ∧ sgK WkX3_runs_81_4_1_f1_f7 f f1 ∧ L1 = L ∧ Q1 = Q) ∧ True ∧ (14 ≤ (f1 36 3).toInt ∧ (f1 36 3).toInt ≤ 14)))) 0 0 (sgA 52 h sz) := by
  refine sg_ofWi (cc := cX3_runs) (maxL := 5) RX3 (by decide) rfl rfl (Nat.le_of_ble_eq_true rfl) ?_
  intro p e s m below meth cd Qz ls hx hb hml hown hts hK hZ hP hS hl hret
  have hA := sgY.self (n := 52) (h := h) (sz := s.heap.size)
  have hl : lv_has ls 5 [(0, .ref (h 36)), (1, .int 81), (2, .int 4), (3, .int x2), (4, .int 1)] := hl
  obtain ⟨H, hH⟩ : ∃ z : Heap, z = s.heap := ⟨_, rfl⟩
  obtain ⟨locs, hlo⟩ : ∃ z : List Loc, z = [] := ⟨_, rfl⟩
  have hP : va_P D vwCl (sgw 52 h (eX ca h) f L Q) H := by rw [hH]; exact hP
  have hS : va_S (sgA 52 h s.heap.size) s.heap H locs := by rw [hH, hlo]; exact hS
  suffices hgo : W p l e ({ frames := 10, cells := 0, slots := 0, locals := 250 }) s m ([.ref (h 36), .int 81, .int 4, .int x2, .int 1] : List Value).toArray below meth cd H locs 0 0 Qz (F0 m 0 ls []) by rw [hH, hlo] at hgo; exact hgo
  clear hH hlo
  have o_1 : (f 36 3).toInt = 1 := (congrArg Int32.toInt (show f 36 3 = 1 from hf_36_3)).trans (by decide)
  have hF : sgK WkX3_runs_81_4_1_f1_f7 f f := sgK.rf
  refine lv_iload_n hx hb dX3_runs_0 rfl (lv_at hl 1 rfl) ?_
  refine lv_lookup (x := 81) (off := 287) (tgt := 288) hx hb dX3_runs_1 (by decide) (by decide) (by decide) ?_
  refine lv_aload_n hx hb dX3_runs_288 rfl (lv_at hl 0 rfl) ?_
  refine lv_iload_n hx hb dX3_runs_289 rfl (lv_at hl 2 rfl) ?_
  refine lv_iconst (v := 3) hx hb dX3_runs_290 (by decide) ?_
  refine lv_iload_n hx hb dX3_runs_291 rfl (lv_at hl 3 rfl) ?_
  refine lv_iload hx hb dX3_runs_292 (lv_at hl 4 rfl) ?_
  have q_2 : (f 36 3).toInt = 1 := (congrArg Int32.toInt (show f 36 3 = 1 from hf_36_3)).trans (by decide)
  have q_3 : (f 36 3).toInt = 1 := (congrArg Int32.toInt (show f 36 3 = 1 from hf_36_3)).trans (by decide)
  refine sg_calli (va_runV (As := [.int 4, .int 3, .int x2, .int 1]) (rest := []) ⟨hx, hb, hml, hown, hts⟩ (kX3_does_4_3_1_f1_f7 l D ca za h hh f L Q hI x2 hf_36_3 hf_36_4 (by have k0 : (4 : Int32).toInt = 4 := (by decide); have k1 : (3 : Int32).toInt = 3 := (by decide); have k3 : (1 : Int32).toInt = 1 := (by decide); omega) H.size) (cwV 4 hts (gw_V (fun _ h => List.mem_cons_of_mem _ h) mw_318 mw_319 mw_320 mw_47 mw_317) rfl rfl rfl (by decide +kernel) ⟨Nat.le_of_ble_eq_true rfl, Nat.le_of_ble_eq_true rfl⟩) (sg_preV (ci := 3) (C := RX3) (T := TX3) (N := 6) hA hK hP hS hZ 36 (by decide) rfl rfl) rfl rfl hl.1 rfl (lv_room (Nat.le_of_ble_eq_true rfl)) dX3_runs_294 ⟨Nat.le_refl _, Nat.le_refl _⟩) hA hS (fun r_7 f_4 L_5 Q_6 H locs hq hP hS => ?_)
  obtain ⟨⟨hI, hk_f_4, eL9, eQ9⟩, hq, p_8⟩ := hq
  rw [eL9, eQ9] at hP; clear eL9 eQ9
  have hF : sgK WkX3_runs_81_4_1_f1_f7 f f_4 := sgK.tr hF hk_f_4 (by decide)
  obtain ⟨v_9, ev_9⟩ : ∃ z : Int32, z = f_4 36 3 := ⟨_, rfl⟩
  have q_10 : 0 ≤ v_9.toInt ∧ v_9.toInt ≤ 19 := by rw [ev_9]; exact hI 36 3
  have q_11 : (f_4 36 3).toInt = v_9.toInt := (congrArg Int32.toInt (show f_4 36 3 = v_9 from ev_9.symm))
  have q_12 : (f_4 36 3).toInt = v_9.toInt := (congrArg Int32.toInt (show f_4 36 3 = v_9 from ev_9.symm))
  have k_13 : (4 : Int32).toInt = 4 := by decide
  have k_14 : (3 : Int32).toInt = 3 := by decide
  have k_15 : (1 : Int32).toInt = 1 := by decide
  refine lv_iconst (v := 1) hx hb dX3_runs_297 (by decide) ?_
  refine lv_isub hx hb dX3_runs_298 ?_
  refine lv_topi (fun v_16 ev_16 => ?_)
  have q_17 : (f_4 36 3).toInt = v_9.toInt := (congrArg Int32.toInt (show f_4 36 3 = v_9 from ev_9.symm))
  have q_18 : (f_4 36 3).toInt = v_9.toInt := (congrArg Int32.toInt (show f_4 36 3 = v_9 from ev_9.symm))
  exact hret _ _ _ _ (v_16) f_4 L Q dX3_runs_299 hP hS ⟨⟨hI, hF, rfl, rfl⟩, trivial, (by omega)⟩

abbrev WkX3_does_7_3_0_f0_f7 : List (Nat × Nat × Option Nat) := [(36, 36, some 3), (38, 38, none)]
set_option maxHeartbeats 4000000 in
set_option maxRecDepth 100000 in
theorem kX3_does_7_3_0_f0_f7 (l : Launch) (D : va_G) (ca : Nat → ClassId) (za h : Nat → Nat) (hh : sgH 52 h) (f : sg_F) (L : sg_L) (Q : sg_Q) (hI : sgI loX hiX f) (x2 : Int32) (hf_36_3 : f 36 3 = 0) (hf_36_4 : f 36 4 = 7) (p0 : 0 ≤ (f 36 3).toInt ∧ (f 36 3).toInt ≤ 0) (sz : Nat) : Met l yX3_does gwX3_does { frames := 11, cells := 0, slots := 0, locals := 274 } (sgP D vwCl (tyX ca) 52 h (eX ca h) zcX za f L Q sz [.ref (h 36), .int 7, .int 3, .int x2, .int 0]) (sgQi D vwCl 52 h (eX ca h) sz (fun r f1 L1 Q1 => ((sgI loX hiX f1 ∧ sgK WkX3_does_7_3_0_f0_f7 f f1 ∧ L1 = L ∧ Q1 = Q) ∧ True ∧ (14 ≤ (f1 36 3).toInt ∧ (f1 36 3).toInt ≤ 14)))) 0 0 (sgA 52 h sz) := by
  refine sg_ofWi (cc := cX3_does) (maxL := 7) RX3 (by decide) rfl rfl (Nat.le_of_ble_eq_true rfl) ?_
  intro p e s m below meth cd Qz ls hx hb hml hown hts hK hZ hP hS hl hret
  have hA := sgY.self (n := 52) (h := h) (sz := s.heap.size)
  have hl : lv_has ls 7 [(0, .ref (h 36)), (1, .int 7), (2, .int 3), (3, .int x2), (4, .int 0)] := hl
  obtain ⟨H, hH⟩ : ∃ z : Heap, z = s.heap := ⟨_, rfl⟩
  obtain ⟨locs, hlo⟩ : ∃ z : List Loc, z = [] := ⟨_, rfl⟩
  have hP : va_P D vwCl (sgw 52 h (eX ca h) f L Q) H := by rw [hH]; exact hP
  have hS : va_S (sgA 52 h s.heap.size) s.heap H locs := by rw [hH, hlo]; exact hS
  suffices hgo : W p l e ({ frames := 11, cells := 0, slots := 0, locals := 274 }) s m ([.ref (h 36), .int 7, .int 3, .int x2, .int 0] : List Value).toArray below meth cd H locs 0 0 Qz (F0 m 0 ls []) by rw [hH, hlo] at hgo; exact hgo
  clear hH hlo
  have o_1 : (f 36 3).toInt = 0 := (congrArg Int32.toInt (show f 36 3 = 0 from hf_36_3)).trans (by decide)
  have hF : sgK WkX3_does_7_3_0_f0_f7 f f := sgK.rf
  have blk_53 : ∀ (fp_53 : sg_F) (H : Heap) (locs : List Loc) (ls : Array Slot), 0 ≤ (fp_53 36 3).toInt ∧ (fp_53 36 3).toInt ≤ 0 → 7 ≤ (fp_53 36 4).toInt ∧ (fp_53 36 4).toInt ≤ 7 → sgI loX hiX fp_53 → sgK WkX3_does_7_3_0_f0_f7 f fp_53 → va_P D vwCl (sgw 52 h (eX ca h) fp_53 L Q) H → va_S (sgA 52 h s.heap.size) s.heap H locs → lv_has ls 7 [(0, .ref (h 36)), (3, .int x2), (4, .int 0), (5, .int 7), (6, .int 81)] → W p l e ({ frames := 11, cells := 0, slots := 0, locals := 274 }) s m ([.ref (h 36), .int 7, .int 3, .int x2, .int 0] : List Value).toArray below meth cd H locs 0 0 Qz (F0 m 53 ls []) := by
    intro fp_53 H locs ls hy0_53 hy1_53 hI hF hP hS hl
    obtain ⟨v_2, ev_2⟩ : ∃ z : Int32, z = fp_53 36 3 := ⟨_, rfl⟩
    have q_3 : 0 ≤ v_2.toInt ∧ v_2.toInt ≤ 19 := by rw [ev_2]; exact hI 36 3
    have q_4 : (fp_53 36 3).toInt = v_2.toInt := by rw [ev_2]
    obtain ⟨v_5, ev_5⟩ : ∃ z : Int32, z = fp_53 36 4 := ⟨_, rfl⟩
    have q_6 : 0 ≤ v_5.toInt ∧ v_5.toInt ≤ 7 := by rw [ev_5]; exact hI 36 4
    have q_7 : (fp_53 36 4).toInt = v_5.toInt := by rw [ev_5]
    have m_8 : fp_53 36 4 = 7 := (hF 36 4 (by decide)).trans hf_36_4
    refine lv_aload_n hx hb dX3_does_53 rfl (lv_at hl 0 rfl) ?_
    refine lv_dup hx hb dX3_does_54 rfl ?_
    refine sg_get (ci := 3) (v := .int v_2) (C := RX3) (T := TX3) (N := 6) hx hb hts (fun w h => List.mem_cons_of_mem _ (gx_3 w h)) hown hK hP 36 (by decide) rfl rfl 3 (by decide) (hts _ (List.mem_cons_of_mem _ mw_16)) (fun _ h9 => h9) (congrArg (fun z => some (Value.int z)) (show fp_53 36 3 = v_2 from ev_2.symm)) dX3_does_55 ?_
    refine lv_iconst (v := 1) hx hb dX3_does_58 (by decide) ?_
    refine lv_iadd hx hb dX3_does_59 ?_
    refine lv_topi (fun v_9 ev_9 => ?_)
    have q_10 : v_9.toInt = v_2.toInt + 1 := by rw [ev_9]; have k1 : (1 : Int32).toInt = 1 := (by decide); exact (bn_addI (by omega) (by omega)).trans (by omega)
    refine sg_put (ci := 3) (x := v_9) (ty := .int) (C := RX3) (T := TX3) (N := 6) hx hb hts (fun w h => List.mem_cons_of_mem _ (gx_3 w h)) tyX3 tyX3_ok nmX3 hown hh hA hK hP hS 36 (by decide) rfl rfl 3 (by decide) (hts _ (List.mem_cons_of_mem _ mw_16)) (fun _ h9 => h9) rfl rfl (by decide +kernel) rfl rfl (Nat.le_of_ble_eq_true rfl) dX3_does_60 (fun f_11 H locs ef_11 hP hS => ?_)
    have hI : sgI loX hiX f_11 := by rw [ef_11]; exact sgI.put hI 36 3 (show 0 ≤ (v_9 : Int32).toInt ∧ (v_9 : Int32).toInt ≤ 19 from by omega)
    have hF : sgK WkX3_does_7_3_0_f0_f7 f f_11 := sgK.put hF ef_11 (by rfl)
    refine lv_aload_n hx hb dX3_does_63 rfl (lv_at hl 0 rfl) ?_
    refine lv_iload hx hb dX3_does_64 (lv_at hl 4 rfl) ?_
    refine sg_gets hx hb hZ 2 rfl hS hown (hts _ (List.mem_cons_of_mem _ mw_174)) (fun _ h9 => h9) dX3_does_66 ?_
    refine lv_iload hx hb dX3_does_69 (lv_at hl 3 rfl) ?_
    refine sg_sald hx hb hZ 2 rfl hS (y := 7) (N := 8) (vp_in_iff.mpr (by decide)) dX3_does_71 ?_
    refine W.eq (g2 := F0 m 72 ls [.int 4, .int 81, .ref (h 36)]) (by rfl) ?_
    refine lv_iload_n hx hb dX3_does_72 rfl (lv_at hl 1 rfl) ?_
    refine lv_iload hx hb dX3_does_73 (lv_at hl 2 rfl) ?_
    refine lv_iconst (v := 1) hx hb dX3_does_75 (by decide) ?_
    refine lv_iadd hx hb dX3_does_76 ?_
    refine W.eq (g2 := F0 m 77 ls [.int 1, .int x2, .int 4, .int 81, .ref (h 36)]) (by rw [show (0 + 1 : Int32) = 1 from by decide]) ?_
    have c_12 : v_9 = 1 := Int32.toInt_inj.mp (by have k9 : (1 : Int32).toInt = 1 := (by decide); omega)
    have q_13 : (f_11 36 3).toInt = 1 := (congrArg Int32.toInt (show f_11 36 3 = 1 from (Eq.trans (by rw [ef_11, sg_up_s, sgu_s]) c_12))).trans (by decide)
    have q_14 : (f_11 36 3).toInt = 1 := (congrArg Int32.toInt (show f_11 36 3 = 1 from (Eq.trans (by rw [ef_11, sg_up_s, sgu_s]) c_12))).trans (by decide)
    refine sg_calli (va_runV (As := [.int 81, .int 4, .int x2, .int 1]) (rest := []) ⟨hx, hb, hml, hown, hts⟩ (kX3_runs_81_4_1_f1_f7 l D ca za h hh f_11 L Q hI x2 (Eq.trans (by rw [ef_11, sg_up_s, sgu_s]) c_12) (by rw [ef_11, sg_up_s, sgu_n (by decide)]; exact m_8) (by have k0 : (81 : Int32).toInt = 81 := (by decide); have k1 : (4 : Int32).toInt = 4 := (by decide); have k3 : (1 : Int32).toInt = 1 := (by decide); omega) H.size) (cwV 4 hts (gw_V (fun _ h => List.mem_cons_of_mem _ h) mw_311 mw_312 mw_313 mw_47 mw_310) rfl rfl rfl (by decide +kernel) ⟨Nat.le_of_ble_eq_true rfl, Nat.le_of_ble_eq_true rfl⟩) (sg_preV (ci := 3) (C := RX3) (T := TX3) (N := 6) hA hK hP hS hZ 36 (by decide) rfl rfl) rfl rfl hl.1 rfl (lv_room (Nat.le_of_ble_eq_true rfl)) dX3_does_77 ⟨Nat.le_refl _, Nat.le_refl _⟩) hA hS (fun r_18 f_15 L_16 Q_17 H locs hq hP hS => ?_)
    obtain ⟨⟨hI, hk_f_15, eL9, eQ9⟩, hq, p_19⟩ := hq
    rw [eL9, eQ9] at hP; clear eL9 eQ9
    have hF : sgK WkX3_does_7_3_0_f0_f7 f f_15 := sgK.tr hF hk_f_15 (by decide)
    obtain ⟨v_20, ev_20⟩ : ∃ z : Int32, z = f_15 36 3 := ⟨_, rfl⟩
    have q_21 : 0 ≤ v_20.toInt ∧ v_20.toInt ≤ 19 := by rw [ev_20]; exact hI 36 3
    have q_22 : (f_15 36 3).toInt = v_20.toInt := (congrArg Int32.toInt (show f_15 36 3 = v_20 from ev_20.symm))
    have q_23 : (f_15 36 3).toInt = v_20.toInt := (congrArg Int32.toInt (show f_15 36 3 = v_20 from ev_20.symm))
    have k_24 : (81 : Int32).toInt = 81 := by decide
    have k_25 : (4 : Int32).toInt = 4 := by decide
    have k_26 : (1 : Int32).toInt = 1 := by decide
    have q_27 : (f_15 36 3).toInt = v_20.toInt := (congrArg Int32.toInt (show f_15 36 3 = v_20 from ev_20.symm))
    have q_28 : (f_15 36 3).toInt = v_20.toInt := (congrArg Int32.toInt (show f_15 36 3 = v_20 from ev_20.symm))
    exact hret _ _ _ _ (r_18) f_15 L Q dX3_does_80 hP hS ⟨⟨hI, hF, rfl, rfl⟩, trivial, (by omega)⟩
  refine lv_iload_n hx hb dX3_does_0 rfl (lv_at hl 1 rfl) ?_
  refine lv_iload_n hx hb dX3_does_1 rfl (lv_at hl 2 rfl) ?_
  refine sg_calli (va_runS (As := [.int 7, .int 3]) (rest := []) ⟨hx, hb, hml, hown, hts⟩ (kX3_ownerOf_7_3 l D ca za h hh f L Q hI H.size) (va_cwS 2 hts (gw_S (fun _ h => List.mem_cons_of_mem _ h) mw_189 mw_190 mw_47 mw_188) rfl rfl rfl (by decide +kernel) ⟨Nat.le_of_ble_eq_true rfl, Nat.le_of_ble_eq_true rfl⟩) (sg_preS hA hK hP hS hZ) rfl rfl hl.1 rfl (lv_room (Nat.le_of_ble_eq_true rfl)) dX3_does_2 ⟨Nat.le_refl _, Nat.le_refl _⟩) hA hS (fun r_32 f_29 L_30 Q_31 H locs hq hP hS => ?_)
  obtain ⟨⟨ef9, eL9, eQ9⟩, hq⟩ := hq
  rw [ef9, eL9, eQ9] at hP; clear ef9 eL9 eQ9
  obtain rfl : r_32 = 7 := Int32.toInt_inj.mp (by have k9 : (7 : Int32).toInt = 7 := (by decide); omega)
  refine lv_istore (lv' := [(5, .int 7), (0, .ref (h 36)), (1, .int 7), (2, .int 3), (3, .int x2), (4, .int 0)]) hx hb dX3_does_5 hl (by decide) rfl (fun ls hl => ?_)
  refine lv_iload hx hb dX3_does_7 (lv_at hl 0 rfl) ?_
  refine lv_if_lt (tgt := 19) hx hb dX3_does_9 (by decide) (fun c => absurd c (by decide)) (fun c => ?_)
  refine lv_iload hx hb dX3_does_12 (lv_at hl 5 rfl) ?_
  refine lv_bipush (v := 40) hx hb dX3_does_14 (by decide) ?_
  refine lv_icmp_le (tgt := 21) hx hb dX3_does_16 (by decide) (fun c => ?_) (fun c => absurd c (by decide))
  refine sg_gets hx hb hZ 3 rfl hS hown (hts _ (List.mem_cons_of_mem _ mw_173)) (fun _ h9 => h9) dX3_does_21 ?_
  refine lv_iload hx hb dX3_does_24 (lv_at hl 0 rfl) ?_
  refine lv_iconst (v := 4) hx hb dX3_does_26 (by decide) ?_
  refine lv_imul hx hb dX3_does_27 ?_
  refine W.eq (g2 := F0 m 28 ls [.int 28, .ref (za 3)]) (by rw [show (7 * 4 : Int32) = 28 from by decide]) ?_
  refine lv_iload_n hx hb dX3_does_28 rfl (lv_at hl 3 rfl) ?_
  refine lv_iadd hx hb dX3_does_29 ?_
  refine W.eq (g2 := F0 m 30 ls [.int 31, .ref (za 3)]) (by rw [show (28 + 3 : Int32) = 31 from by decide]) ?_
  refine sg_sald hx hb hZ 3 rfl hS (y := 31) (N := 32) (vp_in_iff.mpr (by decide)) dX3_does_30 ?_
  refine W.eq (g2 := F0 m 31 ls [.int 81]) (by rfl) ?_
  refine lv_istore (lv' := [(6, .int 81), (5, .int 7), (0, .ref (h 36)), (1, .int 7), (2, .int 3), (3, .int x2), (4, .int 0)]) hx hb dX3_does_31 hl (by decide) rfl (fun ls hl => ?_)
  refine lv_aload_n hx hb dX3_does_33 rfl (lv_at hl 2 rfl) ?_
  refine sg_get (ci := 3) (v := .int 0) (C := RX3) (T := TX3) (N := 6) hx hb hts (fun w h => List.mem_cons_of_mem _ (gx_3 w h)) hown hK hP 36 (by decide) rfl rfl 3 (by decide) (hts _ (List.mem_cons_of_mem _ mw_16)) (fun _ h9 => h9) (congrArg (fun z => some (Value.int z)) (show f 36 3 = 0 from hf_36_3)) dX3_does_34 ?_
  refine lv_bipush (v := 24) hx hb dX3_does_37 (by decide) ?_
  refine lv_icmp_ge (tgt := 53) hx hb dX3_does_39 (by decide) (fun c => absurd c (by decide)) (fun c => ?_)
  refine lv_aload_n hx hb dX3_does_42 rfl (lv_at hl 2 rfl) ?_
  refine sg_get (ci := 3) (v := .ref (h 38)) (C := RX3) (T := TX3) (N := 6) hx hb hts (fun w h => List.mem_cons_of_mem _ (gx_3 w h)) hown hK hP 36 (by decide) rfl rfl 1 (by decide) (hts _ (List.mem_cons_of_mem _ mw_191)) (fun _ h9 => h9) rfl dX3_does_43 ?_
  refine lv_aload_n hx hb dX3_does_46 rfl (lv_at hl 2 rfl) ?_
  refine sg_get (ci := 3) (v := .int 0) (C := RX3) (T := TX3) (N := 6) hx hb hts (fun w h => List.mem_cons_of_mem _ (gx_3 w h)) hown hK hP 36 (by decide) rfl rfl 3 (by decide) (hts _ (List.mem_cons_of_mem _ mw_16)) (fun _ h9 => h9) (congrArg (fun z => some (Value.int z)) (show f 36 3 = 0 from hf_36_3)) dX3_does_47 ?_
  refine lv_iload hx hb dX3_does_50 (lv_at hl 0 rfl) ?_
  refine sg_iast hx hb hh hA hK hP hS 38 (by decide) 0 (fun _ => rfl) rfl (i := 0) (x := 81) (vp_in_iff.mpr (by decide)) dX3_does_52 (fun f_33 H locs ef_33 hP hS => ?_)
  have hI : sgI loX hiX f_33 := by rw [ef_33]; exact sgI.put hI 38 (Int32.toNatClampNeg 0) (show 0 ≤ (81 : Int32).toInt ∧ (81 : Int32).toInt ≤ 81 from by decide)
  have hF : sgK WkX3_does_7_3_0_f0_f7 f f_33 := sgK.put hF ef_33 (by rfl)
  exact blk_53 f_33 _ _ _ (by have zz36_3 : (f_33 36 3).toInt = 0 := (congrArg Int32.toInt (show f_33 36 3 = 0 from (by rw [ef_33, sg_up_n (by decide)]; exact hf_36_3))).trans (by decide); omega) (by have zz36_4 : (f_33 36 4).toInt = 7 := (congrArg Int32.toInt (show f_33 36 4 = 7 from (by rw [ef_33, sg_up_n (by decide)]; exact hf_36_4))).trans (by decide); omega) hI hF hP hS (lv_sub hl [2, 5, 6, 1, 0] rfl)

abbrev WkX3_acts : List (Nat × Nat × Option Nat) := [(36, 36, some 3), (36, 36, some 4), (36, 36, some 5), (38, 38, none)]
set_option maxHeartbeats 4000000 in
set_option maxRecDepth 100000 in
theorem kX3_acts (l : Launch) (D : va_G) (ca : Nat → ClassId) (za h : Nat → Nat) (hh : sgH 52 h) (f : sg_F) (L : sg_L) (Q : sg_Q) (hI : sgI loX hiX f) (x0 : Int32) (x1 : Int32) (x2 : Int32) (sz : Nat) : Met l yX3_acts gwX3_acts { frames := 12, cells := 0, slots := 0, locals := 300 } (sgP D vwCl (tyX ca) 52 h (eX ca h) zcX za f L Q sz [.ref (h 36), .int x0, .int x1, .int x2]) (sgQi D vwCl 52 h (eX ca h) sz (fun r f1 L1 Q1 => ((sgI loX hiX f1 ∧ sgK WkX3_acts f f1 ∧ L1 = L ∧ Q1 = Q) ∧ True))) 0 0 (sgA 52 h sz) := by
  refine sg_ofWi (cc := cX3_acts) (maxL := 4) RX3 (by decide) rfl rfl (Nat.le_of_ble_eq_true rfl) ?_
  intro p e s m below meth cd Qz ls hx hb hml hown hts hK hZ hP hS hl hret
  have hA := sgY.self (n := 52) (h := h) (sz := s.heap.size)
  have hl : lv_has ls 4 [(0, .ref (h 36)), (1, .int x0), (2, .int x1), (3, .int x2)] := hl
  obtain ⟨H, hH⟩ : ∃ z : Heap, z = s.heap := ⟨_, rfl⟩
  obtain ⟨locs, hlo⟩ : ∃ z : List Loc, z = [] := ⟨_, rfl⟩
  have hP : va_P D vwCl (sgw 52 h (eX ca h) f L Q) H := by rw [hH]; exact hP
  have hS : va_S (sgA 52 h s.heap.size) s.heap H locs := by rw [hH, hlo]; exact hS
  suffices hgo : W p l e ({ frames := 12, cells := 0, slots := 0, locals := 300 }) s m ([.ref (h 36), .int x0, .int x1, .int x2] : List Value).toArray below meth cd H locs 0 0 Qz (F0 m 0 ls []) by rw [hH, hlo] at hgo; exact hgo
  clear hH hlo
  have hF : sgK WkX3_acts f f := sgK.rf
  refine lv_aload_n hx hb dX3_acts_0 rfl (lv_at hl 0 rfl) ?_
  refine lv_iconst (v := 0) hx hb dX3_acts_1 (by decide) ?_
  refine sg_put (ci := 3) (x := 0) (ty := .int) (C := RX3) (T := TX3) (N := 6) hx hb hts (fun w h => List.mem_cons_of_mem _ (gx_3 w h)) tyX3 tyX3_ok nmX3 hown hh hA hK hP hS 36 (by decide) rfl rfl 3 (by decide) (hts _ (List.mem_cons_of_mem _ mw_16)) (fun _ h9 => h9) rfl rfl (by decide +kernel) rfl rfl (Nat.le_of_ble_eq_true rfl) dX3_acts_2 (fun f_1 H locs ef_1 hP hS => ?_)
  have hI : sgI loX hiX f_1 := by rw [ef_1]; exact sgI.put hI 36 3 (show 0 ≤ (0 : Int32).toInt ∧ (0 : Int32).toInt ≤ 19 from by decide)
  have hF : sgK WkX3_acts f f_1 := sgK.put hF ef_1 (by rfl)
  refine lv_iload_n hx hb dX3_acts_5 rfl (lv_at hl 1 rfl) ?_
  refine lv_if_lt (tgt := 26) hx hb dX3_acts_6 (by decide) (fun c => ?_) (fun c => ?_)
  · skip
    have c_2 : x0.toInt < 0 := (by have z := bn_lt c; have k1 : (0 : Int32).toInt = 0 := (by decide); omega)
    refine lv_iconst (v := 0) hx hb dX3_acts_26 (by decide) ?_
    have k99 : (0 : Int32).toInt = 0 := (by decide)
    exact hret _ _ _ _ (0) f_1 L Q dX3_acts_27 hP hS ⟨⟨hI, hF, rfl, rfl⟩, trivial⟩
  · skip
    have c_3 : 0 ≤ x0.toInt := (by have z := bn_nlt c; have k1 : (0 : Int32).toInt = 0 := (by decide); omega)
    refine lv_iload_n hx hb dX3_acts_9 rfl (lv_at hl 1 rfl) ?_
    refine lv_aload_n hx hb dX3_acts_10 rfl (lv_at hl 0 rfl) ?_
    refine sg_get (ci := 3) (v := .int (f_1 36 2)) (C := RX3) (T := TX3) (N := 6) hx hb hts (fun w h => List.mem_cons_of_mem _ (gx_3 w h)) hown hK hP 36 (by decide) rfl rfl 2 (by decide) (hts _ (List.mem_cons_of_mem _ mw_17)) (fun _ h9 => h9) rfl dX3_acts_11 ?_
    refine lv_topi (fun v_4 ev_4 => ?_)
    have q_5 : 0 ≤ v_4.toInt ∧ v_4.toInt ≤ 50 := by rw [ev_4]; exact hI 36 2
    refine lv_icmp_ge (tgt := 26) hx hb dX3_acts_14 (by decide) (fun c => ?_) (fun c => ?_)
    · skip
      have c_6 : v_4.toInt ≤ x0.toInt := (by have z := bn_le c; omega)
      refine lv_iconst (v := 0) hx hb dX3_acts_26 (by decide) ?_
      have k99 : (0 : Int32).toInt = 0 := (by decide)
      exact hret _ _ _ _ (0) f_1 L Q dX3_acts_27 hP hS ⟨⟨hI, hF, rfl, rfl⟩, trivial⟩
    · skip
      have c_7 : x0.toInt < v_4.toInt := (by have z := bn_nle c; omega)
      refine lv_iload_n hx hb dX3_acts_17 rfl (lv_at hl 2 rfl) ?_
      refine lv_if_lt (tgt := 26) hx hb dX3_acts_18 (by decide) (fun c => ?_) (fun c => ?_)
      · skip
        have c_8 : x1.toInt < 0 := (by have z := bn_lt c; have k1 : (0 : Int32).toInt = 0 := (by decide); omega)
        refine lv_iconst (v := 0) hx hb dX3_acts_26 (by decide) ?_
        have k99 : (0 : Int32).toInt = 0 := (by decide)
        exact hret _ _ _ _ (0) f_1 L Q dX3_acts_27 hP hS ⟨⟨hI, hF, rfl, rfl⟩, trivial⟩
      · skip
        have c_9 : 0 ≤ x1.toInt := (by have z := bn_nlt c; have k1 : (0 : Int32).toInt = 0 := (by decide); omega)
        refine lv_iload_n hx hb dX3_acts_21 rfl (lv_at hl 2 rfl) ?_
        refine lv_iconst (v := 4) hx hb dX3_acts_22 (by decide) ?_
        refine lv_icmp_lt (tgt := 28) hx hb dX3_acts_23 (by decide) (fun c => ?_) (fun c => ?_)
        · skip
          have c_10 : x1.toInt < 4 := (by have z := bn_lt c; have k1 : (4 : Int32).toInt = 4 := (by decide); omega)
          refine lv_aload_n hx hb dX3_acts_28 rfl (lv_at hl 0 rfl) ?_
          refine lv_aload_n hx hb dX3_acts_29 rfl (lv_at hl 0 rfl) ?_
          refine sg_get (ci := 3) (v := .ref (h 37)) (C := RX3) (T := TX3) (N := 6) hx hb hts (fun w h => List.mem_cons_of_mem _ (gx_3 w h)) hown hK hP 36 (by decide) rfl rfl 0 (by decide) (hts _ (List.mem_cons_of_mem _ mw_88)) (fun _ h9 => h9) rfl dX3_acts_30 ?_
          refine lv_iload_n hx hb dX3_acts_33 rfl (lv_at hl 1 rfl) ?_
          refine sg_iald hx hb hK hP 37 (by decide) 0 rfl rfl (i := x0) (vp_in_iff.mpr ⟨by omega, by omega⟩) dX3_acts_34 ?_
          refine lv_topi (fun v_12 ev_12 => ?_)
          have q_13 : 0 ≤ v_12.toInt ∧ v_12.toInt ≤ 7 := by rw [ev_12]; exact hI 37 _
          refine sg_put (ci := 3) (x := v_12) (ty := .int) (C := RX3) (T := TX3) (N := 6) hx hb hts (fun w h => List.mem_cons_of_mem _ (gx_3 w h)) tyX3 tyX3_ok nmX3 hown hh hA hK hP hS 36 (by decide) rfl rfl 4 (by decide) (hts _ (List.mem_cons_of_mem _ mw_105)) (fun _ h9 => h9) rfl rfl (by decide +kernel) rfl rfl (Nat.le_of_ble_eq_true rfl) dX3_acts_35 (fun f_14 H locs ef_14 hP hS => ?_)
          have hI : sgI loX hiX f_14 := by rw [ef_14]; exact sgI.put hI 36 4 (show 0 ≤ (v_12 : Int32).toInt ∧ (v_12 : Int32).toInt ≤ 7 from by omega)
          have hF : sgK WkX3_acts f f_14 := sgK.put hF ef_14 (by rfl)
          refine lv_aload_n hx hb dX3_acts_38 rfl (lv_at hl 0 rfl) ?_
          refine lv_iload_n hx hb dX3_acts_39 rfl (lv_at hl 1 rfl) ?_
          refine sg_put (ci := 3) (x := x0) (ty := .int) (C := RX3) (T := TX3) (N := 6) hx hb hts (fun w h => List.mem_cons_of_mem _ (gx_3 w h)) tyX3 tyX3_ok nmX3 hown hh hA hK hP hS 36 (by decide) rfl rfl 5 (by decide) (hts _ (List.mem_cons_of_mem _ mw_106)) (fun _ h9 => h9) rfl rfl (by decide +kernel) rfl rfl (Nat.le_of_ble_eq_true rfl) dX3_acts_40 (fun f_15 H locs ef_15 hP hS => ?_)
          have hI : sgI loX hiX f_15 := by rw [ef_15]; exact sgI.put hI 36 5 (show 0 ≤ (x0 : Int32).toInt ∧ (x0 : Int32).toInt ≤ 49 from by omega)
          have hF : sgK WkX3_acts f f_15 := sgK.put hF ef_15 (by rfl)
          refine lv_aload_n hx hb dX3_acts_43 rfl (lv_at hl 0 rfl) ?_
          refine lv_aload_n hx hb dX3_acts_44 rfl (lv_at hl 0 rfl) ?_
          refine sg_get (ci := 3) (v := .int v_12) (C := RX3) (T := TX3) (N := 6) hx hb hts (fun w h => List.mem_cons_of_mem _ (gx_3 w h)) hown hK hP 36 (by decide) rfl rfl 4 (by decide) (hts _ (List.mem_cons_of_mem _ mw_105)) (fun _ h9 => h9) (congrArg (fun z => some (Value.int z)) (show f_15 36 4 = v_12 from (by rw [ef_15, sg_up_s, sgu_n (by decide)]; exact (by rw [ef_14, sg_up_s, sgu_s])))) dX3_acts_45 ?_
          refine lv_iload_n hx hb dX3_acts_48 rfl (lv_at hl 2 rfl) ?_
          refine lv_iload_n hx hb dX3_acts_49 rfl (lv_at hl 3 rfl) ?_
          refine lv_iconst (v := 0) hx hb dX3_acts_50 (by decide) ?_
          rcases (show x1.toInt = 0 ∨ x1.toInt = 1 ∨ x1.toInt = 2 ∨ x1.toInt = 3 from by omega) with c | c | c | c
          · skip
            have c_16 : x1 = 0 := Int32.toInt_inj.mp (by have k9 : (0 : Int32).toInt = 0 := (by decide); omega)
            refine W.eq (g2 := F0 m 51 ls [.int 0, .int x2, .int 0, .int v_12, .ref (h 36)]) (by rw [c_16]) ?_
            rcases (show v_12.toInt = 0 ∨ v_12.toInt = 1 ∨ v_12.toInt = 2 ∨ v_12.toInt = 3 ∨ v_12.toInt = 4 ∨ v_12.toInt = 5 ∨ v_12.toInt = 6 ∨ v_12.toInt = 7 from by omega) with c | c | c | c | c | c | c | c
            · skip
              have c_17 : v_12 = 0 := Int32.toInt_inj.mp (by have k9 : (0 : Int32).toInt = 0 := (by decide); omega)
              refine W.eq (g2 := F0 m 51 ls [.int 0, .int x2, .int 0, .int 0, .ref (h 36)]) (by rw [c_17]) ?_
              have q_18 : (f_15 36 3).toInt = 0 := (congrArg Int32.toInt (show f_15 36 3 = 0 from (by rw [ef_15, sg_up_s, sgu_n (by decide)]; exact (by rw [ef_14, sg_up_s, sgu_n (by decide)]; exact (by rw [ef_1, sg_up_s, sgu_s]))))).trans (by decide)
              have q_19 : (f_15 36 3).toInt = 0 := (congrArg Int32.toInt (show f_15 36 3 = 0 from (by rw [ef_15, sg_up_s, sgu_n (by decide)]; exact (by rw [ef_14, sg_up_s, sgu_n (by decide)]; exact (by rw [ef_1, sg_up_s, sgu_s]))))).trans (by decide)
              refine sg_calli (va_runV (As := [.int 0, .int 0, .int x2, .int 0]) (rest := []) ⟨hx, hb, hml, hown, hts⟩ (kX3_does_0_0_0_f0_f0 l D ca za h hh f_15 L Q hI x2 (by rw [ef_15, sg_up_s, sgu_n (by decide)]; exact (by rw [ef_14, sg_up_s, sgu_n (by decide)]; exact (by rw [ef_1, sg_up_s, sgu_s]))) (Eq.trans (by rw [ef_15, sg_up_s, sgu_n (by decide)]; exact (by rw [ef_14, sg_up_s, sgu_s])) c_17) (by have k0 : (0 : Int32).toInt = 0 := (by decide); have k1 : (0 : Int32).toInt = 0 := (by decide); have k3 : (0 : Int32).toInt = 0 := (by decide); omega) H.size) (cwV 4 hts (gw_V (fun _ h => List.mem_cons_of_mem _ h) mw_318 mw_319 mw_320 mw_47 mw_317) rfl rfl rfl (by decide +kernel) ⟨Nat.le_of_ble_eq_true rfl, Nat.le_of_ble_eq_true rfl⟩) (sg_preV (ci := 3) (C := RX3) (T := TX3) (N := 6) hA hK hP hS hZ 36 (by decide) rfl rfl) rfl rfl hl.1 rfl (lv_room (Nat.le_of_ble_eq_true rfl)) dX3_acts_51 ⟨Nat.le_refl _, Nat.le_refl _⟩) hA hS (fun r_23 f_20 L_21 Q_22 H locs hq hP hS => ?_)
              obtain ⟨⟨hI, hk_f_20, eL9, eQ9⟩, hq, p_24⟩ := hq
              rw [eL9, eQ9] at hP; clear eL9 eQ9
              have hF : sgK WkX3_acts f f_20 := sgK.tr hF hk_f_20 (by decide)
              obtain ⟨v_25, ev_25⟩ : ∃ z : Int32, z = f_20 36 3 := ⟨_, rfl⟩
              have q_26 : 0 ≤ v_25.toInt ∧ v_25.toInt ≤ 19 := by rw [ev_25]; exact hI 36 3
              have q_27 : (f_20 36 3).toInt = v_25.toInt := (congrArg Int32.toInt (show f_20 36 3 = v_25 from ev_25.symm))
              have q_28 : (f_20 36 3).toInt = v_25.toInt := (congrArg Int32.toInt (show f_20 36 3 = v_25 from ev_25.symm))
              have k_29 : (0 : Int32).toInt = 0 := by decide
              have k_30 : (0 : Int32).toInt = 0 := by decide
              have k_31 : (0 : Int32).toInt = 0 := by decide
              exact hret _ _ _ _ (r_23) f_20 L Q dX3_acts_54 hP hS ⟨⟨hI, hF, rfl, rfl⟩, trivial⟩
            · skip
              have c_32 : v_12 = 1 := Int32.toInt_inj.mp (by have k9 : (1 : Int32).toInt = 1 := (by decide); omega)
              refine W.eq (g2 := F0 m 51 ls [.int 0, .int x2, .int 0, .int 1, .ref (h 36)]) (by rw [c_32]) ?_
              have q_33 : (f_15 36 3).toInt = 0 := (congrArg Int32.toInt (show f_15 36 3 = 0 from (by rw [ef_15, sg_up_s, sgu_n (by decide)]; exact (by rw [ef_14, sg_up_s, sgu_n (by decide)]; exact (by rw [ef_1, sg_up_s, sgu_s]))))).trans (by decide)
              have q_34 : (f_15 36 3).toInt = 0 := (congrArg Int32.toInt (show f_15 36 3 = 0 from (by rw [ef_15, sg_up_s, sgu_n (by decide)]; exact (by rw [ef_14, sg_up_s, sgu_n (by decide)]; exact (by rw [ef_1, sg_up_s, sgu_s]))))).trans (by decide)
              refine sg_calli (va_runV (As := [.int 1, .int 0, .int x2, .int 0]) (rest := []) ⟨hx, hb, hml, hown, hts⟩ (kX3_does_1_0_0_f0_f1 l D ca za h hh f_15 L Q hI x2 (by rw [ef_15, sg_up_s, sgu_n (by decide)]; exact (by rw [ef_14, sg_up_s, sgu_n (by decide)]; exact (by rw [ef_1, sg_up_s, sgu_s]))) (Eq.trans (by rw [ef_15, sg_up_s, sgu_n (by decide)]; exact (by rw [ef_14, sg_up_s, sgu_s])) c_32) (by have k0 : (1 : Int32).toInt = 1 := (by decide); have k1 : (0 : Int32).toInt = 0 := (by decide); have k3 : (0 : Int32).toInt = 0 := (by decide); omega) H.size) (cwV 4 hts (gw_V (fun _ h => List.mem_cons_of_mem _ h) mw_318 mw_319 mw_320 mw_47 mw_317) rfl rfl rfl (by decide +kernel) ⟨Nat.le_of_ble_eq_true rfl, Nat.le_of_ble_eq_true rfl⟩) (sg_preV (ci := 3) (C := RX3) (T := TX3) (N := 6) hA hK hP hS hZ 36 (by decide) rfl rfl) rfl rfl hl.1 rfl (lv_room (Nat.le_of_ble_eq_true rfl)) dX3_acts_51 ⟨Nat.le_refl _, Nat.le_refl _⟩) hA hS (fun r_38 f_35 L_36 Q_37 H locs hq hP hS => ?_)
              obtain ⟨⟨hI, hk_f_35, eL9, eQ9⟩, hq, p_39⟩ := hq
              rw [eL9, eQ9] at hP; clear eL9 eQ9
              have hF : sgK WkX3_acts f f_35 := sgK.tr hF hk_f_35 (by decide)
              obtain ⟨v_40, ev_40⟩ : ∃ z : Int32, z = f_35 36 3 := ⟨_, rfl⟩
              have q_41 : 0 ≤ v_40.toInt ∧ v_40.toInt ≤ 19 := by rw [ev_40]; exact hI 36 3
              have q_42 : (f_35 36 3).toInt = v_40.toInt := (congrArg Int32.toInt (show f_35 36 3 = v_40 from ev_40.symm))
              have q_43 : (f_35 36 3).toInt = v_40.toInt := (congrArg Int32.toInt (show f_35 36 3 = v_40 from ev_40.symm))
              have k_44 : (1 : Int32).toInt = 1 := by decide
              have k_45 : (0 : Int32).toInt = 0 := by decide
              have k_46 : (0 : Int32).toInt = 0 := by decide
              exact hret _ _ _ _ (r_38) f_35 L Q dX3_acts_54 hP hS ⟨⟨hI, hF, rfl, rfl⟩, trivial⟩
            · skip
              have c_47 : v_12 = 2 := Int32.toInt_inj.mp (by have k9 : (2 : Int32).toInt = 2 := (by decide); omega)
              refine W.eq (g2 := F0 m 51 ls [.int 0, .int x2, .int 0, .int 2, .ref (h 36)]) (by rw [c_47]) ?_
              have q_48 : (f_15 36 3).toInt = 0 := (congrArg Int32.toInt (show f_15 36 3 = 0 from (by rw [ef_15, sg_up_s, sgu_n (by decide)]; exact (by rw [ef_14, sg_up_s, sgu_n (by decide)]; exact (by rw [ef_1, sg_up_s, sgu_s]))))).trans (by decide)
              have q_49 : (f_15 36 3).toInt = 0 := (congrArg Int32.toInt (show f_15 36 3 = 0 from (by rw [ef_15, sg_up_s, sgu_n (by decide)]; exact (by rw [ef_14, sg_up_s, sgu_n (by decide)]; exact (by rw [ef_1, sg_up_s, sgu_s]))))).trans (by decide)
              refine sg_calli (va_runV (As := [.int 2, .int 0, .int x2, .int 0]) (rest := []) ⟨hx, hb, hml, hown, hts⟩ (kX3_does_2_0_0_f0_f2 l D ca za h hh f_15 L Q hI x2 (by rw [ef_15, sg_up_s, sgu_n (by decide)]; exact (by rw [ef_14, sg_up_s, sgu_n (by decide)]; exact (by rw [ef_1, sg_up_s, sgu_s]))) (Eq.trans (by rw [ef_15, sg_up_s, sgu_n (by decide)]; exact (by rw [ef_14, sg_up_s, sgu_s])) c_47) (by have k0 : (2 : Int32).toInt = 2 := (by decide); have k1 : (0 : Int32).toInt = 0 := (by decide); have k3 : (0 : Int32).toInt = 0 := (by decide); omega) H.size) (cwV 4 hts (gw_V (fun _ h => List.mem_cons_of_mem _ h) mw_318 mw_319 mw_320 mw_47 mw_317) rfl rfl rfl (by decide +kernel) ⟨Nat.le_of_ble_eq_true rfl, Nat.le_of_ble_eq_true rfl⟩) (sg_preV (ci := 3) (C := RX3) (T := TX3) (N := 6) hA hK hP hS hZ 36 (by decide) rfl rfl) rfl rfl hl.1 rfl (lv_room (Nat.le_of_ble_eq_true rfl)) dX3_acts_51 ⟨Nat.le_refl _, Nat.le_refl _⟩) hA hS (fun r_53 f_50 L_51 Q_52 H locs hq hP hS => ?_)
              obtain ⟨⟨hI, hk_f_50, eL9, eQ9⟩, hq, p_54⟩ := hq
              rw [eL9, eQ9] at hP; clear eL9 eQ9
              have hF : sgK WkX3_acts f f_50 := sgK.tr hF hk_f_50 (by decide)
              obtain ⟨v_55, ev_55⟩ : ∃ z : Int32, z = f_50 36 3 := ⟨_, rfl⟩
              have q_56 : 0 ≤ v_55.toInt ∧ v_55.toInt ≤ 19 := by rw [ev_55]; exact hI 36 3
              have q_57 : (f_50 36 3).toInt = v_55.toInt := (congrArg Int32.toInt (show f_50 36 3 = v_55 from ev_55.symm))
              have q_58 : (f_50 36 3).toInt = v_55.toInt := (congrArg Int32.toInt (show f_50 36 3 = v_55 from ev_55.symm))
              have k_59 : (2 : Int32).toInt = 2 := by decide
              have k_60 : (0 : Int32).toInt = 0 := by decide
              have k_61 : (0 : Int32).toInt = 0 := by decide
              exact hret _ _ _ _ (r_53) f_50 L Q dX3_acts_54 hP hS ⟨⟨hI, hF, rfl, rfl⟩, trivial⟩
            · skip
              have c_62 : v_12 = 3 := Int32.toInt_inj.mp (by have k9 : (3 : Int32).toInt = 3 := (by decide); omega)
              refine W.eq (g2 := F0 m 51 ls [.int 0, .int x2, .int 0, .int 3, .ref (h 36)]) (by rw [c_62]) ?_
              have q_63 : (f_15 36 3).toInt = 0 := (congrArg Int32.toInt (show f_15 36 3 = 0 from (by rw [ef_15, sg_up_s, sgu_n (by decide)]; exact (by rw [ef_14, sg_up_s, sgu_n (by decide)]; exact (by rw [ef_1, sg_up_s, sgu_s]))))).trans (by decide)
              have q_64 : (f_15 36 3).toInt = 0 := (congrArg Int32.toInt (show f_15 36 3 = 0 from (by rw [ef_15, sg_up_s, sgu_n (by decide)]; exact (by rw [ef_14, sg_up_s, sgu_n (by decide)]; exact (by rw [ef_1, sg_up_s, sgu_s]))))).trans (by decide)
              refine sg_calli (va_runV (As := [.int 3, .int 0, .int x2, .int 0]) (rest := []) ⟨hx, hb, hml, hown, hts⟩ (kX3_does_3_0_0_f0_f3 l D ca za h hh f_15 L Q hI x2 (by rw [ef_15, sg_up_s, sgu_n (by decide)]; exact (by rw [ef_14, sg_up_s, sgu_n (by decide)]; exact (by rw [ef_1, sg_up_s, sgu_s]))) (Eq.trans (by rw [ef_15, sg_up_s, sgu_n (by decide)]; exact (by rw [ef_14, sg_up_s, sgu_s])) c_62) (by have k0 : (3 : Int32).toInt = 3 := (by decide); have k1 : (0 : Int32).toInt = 0 := (by decide); have k3 : (0 : Int32).toInt = 0 := (by decide); omega) H.size) (cwV 4 hts (gw_V (fun _ h => List.mem_cons_of_mem _ h) mw_318 mw_319 mw_320 mw_47 mw_317) rfl rfl rfl (by decide +kernel) ⟨Nat.le_of_ble_eq_true rfl, Nat.le_of_ble_eq_true rfl⟩) (sg_preV (ci := 3) (C := RX3) (T := TX3) (N := 6) hA hK hP hS hZ 36 (by decide) rfl rfl) rfl rfl hl.1 rfl (lv_room (Nat.le_of_ble_eq_true rfl)) dX3_acts_51 ⟨Nat.le_refl _, Nat.le_refl _⟩) hA hS (fun r_68 f_65 L_66 Q_67 H locs hq hP hS => ?_)
              obtain ⟨⟨hI, hk_f_65, eL9, eQ9⟩, hq, p_69⟩ := hq
              rw [eL9, eQ9] at hP; clear eL9 eQ9
              have hF : sgK WkX3_acts f f_65 := sgK.tr hF hk_f_65 (by decide)
              obtain ⟨v_70, ev_70⟩ : ∃ z : Int32, z = f_65 36 3 := ⟨_, rfl⟩
              have q_71 : 0 ≤ v_70.toInt ∧ v_70.toInt ≤ 19 := by rw [ev_70]; exact hI 36 3
              have q_72 : (f_65 36 3).toInt = v_70.toInt := (congrArg Int32.toInt (show f_65 36 3 = v_70 from ev_70.symm))
              have q_73 : (f_65 36 3).toInt = v_70.toInt := (congrArg Int32.toInt (show f_65 36 3 = v_70 from ev_70.symm))
              have k_74 : (3 : Int32).toInt = 3 := by decide
              have k_75 : (0 : Int32).toInt = 0 := by decide
              have k_76 : (0 : Int32).toInt = 0 := by decide
              exact hret _ _ _ _ (r_68) f_65 L Q dX3_acts_54 hP hS ⟨⟨hI, hF, rfl, rfl⟩, trivial⟩
            · skip
              have c_77 : v_12 = 4 := Int32.toInt_inj.mp (by have k9 : (4 : Int32).toInt = 4 := (by decide); omega)
              refine W.eq (g2 := F0 m 51 ls [.int 0, .int x2, .int 0, .int 4, .ref (h 36)]) (by rw [c_77]) ?_
              have q_78 : (f_15 36 3).toInt = 0 := (congrArg Int32.toInt (show f_15 36 3 = 0 from (by rw [ef_15, sg_up_s, sgu_n (by decide)]; exact (by rw [ef_14, sg_up_s, sgu_n (by decide)]; exact (by rw [ef_1, sg_up_s, sgu_s]))))).trans (by decide)
              have q_79 : (f_15 36 3).toInt = 0 := (congrArg Int32.toInt (show f_15 36 3 = 0 from (by rw [ef_15, sg_up_s, sgu_n (by decide)]; exact (by rw [ef_14, sg_up_s, sgu_n (by decide)]; exact (by rw [ef_1, sg_up_s, sgu_s]))))).trans (by decide)
              refine sg_calli (va_runV (As := [.int 4, .int 0, .int x2, .int 0]) (rest := []) ⟨hx, hb, hml, hown, hts⟩ (kX3_does_4_0_0_f0_f4 l D ca za h hh f_15 L Q hI x2 (by rw [ef_15, sg_up_s, sgu_n (by decide)]; exact (by rw [ef_14, sg_up_s, sgu_n (by decide)]; exact (by rw [ef_1, sg_up_s, sgu_s]))) (Eq.trans (by rw [ef_15, sg_up_s, sgu_n (by decide)]; exact (by rw [ef_14, sg_up_s, sgu_s])) c_77) (by have k0 : (4 : Int32).toInt = 4 := (by decide); have k1 : (0 : Int32).toInt = 0 := (by decide); have k3 : (0 : Int32).toInt = 0 := (by decide); omega) H.size) (cwV 4 hts (gw_V (fun _ h => List.mem_cons_of_mem _ h) mw_318 mw_319 mw_320 mw_47 mw_317) rfl rfl rfl (by decide +kernel) ⟨Nat.le_of_ble_eq_true rfl, Nat.le_of_ble_eq_true rfl⟩) (sg_preV (ci := 3) (C := RX3) (T := TX3) (N := 6) hA hK hP hS hZ 36 (by decide) rfl rfl) rfl rfl hl.1 rfl (lv_room (Nat.le_of_ble_eq_true rfl)) dX3_acts_51 ⟨Nat.le_refl _, Nat.le_refl _⟩) hA hS (fun r_83 f_80 L_81 Q_82 H locs hq hP hS => ?_)
              obtain ⟨⟨hI, hk_f_80, eL9, eQ9⟩, hq, p_84⟩ := hq
              rw [eL9, eQ9] at hP; clear eL9 eQ9
              have hF : sgK WkX3_acts f f_80 := sgK.tr hF hk_f_80 (by decide)
              obtain ⟨v_85, ev_85⟩ : ∃ z : Int32, z = f_80 36 3 := ⟨_, rfl⟩
              have q_86 : 0 ≤ v_85.toInt ∧ v_85.toInt ≤ 19 := by rw [ev_85]; exact hI 36 3
              have q_87 : (f_80 36 3).toInt = v_85.toInt := (congrArg Int32.toInt (show f_80 36 3 = v_85 from ev_85.symm))
              have q_88 : (f_80 36 3).toInt = v_85.toInt := (congrArg Int32.toInt (show f_80 36 3 = v_85 from ev_85.symm))
              have k_89 : (4 : Int32).toInt = 4 := by decide
              have k_90 : (0 : Int32).toInt = 0 := by decide
              have k_91 : (0 : Int32).toInt = 0 := by decide
              exact hret _ _ _ _ (r_83) f_80 L Q dX3_acts_54 hP hS ⟨⟨hI, hF, rfl, rfl⟩, trivial⟩
            · skip
              have c_92 : v_12 = 5 := Int32.toInt_inj.mp (by have k9 : (5 : Int32).toInt = 5 := (by decide); omega)
              refine W.eq (g2 := F0 m 51 ls [.int 0, .int x2, .int 0, .int 5, .ref (h 36)]) (by rw [c_92]) ?_
              have q_93 : (f_15 36 3).toInt = 0 := (congrArg Int32.toInt (show f_15 36 3 = 0 from (by rw [ef_15, sg_up_s, sgu_n (by decide)]; exact (by rw [ef_14, sg_up_s, sgu_n (by decide)]; exact (by rw [ef_1, sg_up_s, sgu_s]))))).trans (by decide)
              have q_94 : (f_15 36 3).toInt = 0 := (congrArg Int32.toInt (show f_15 36 3 = 0 from (by rw [ef_15, sg_up_s, sgu_n (by decide)]; exact (by rw [ef_14, sg_up_s, sgu_n (by decide)]; exact (by rw [ef_1, sg_up_s, sgu_s]))))).trans (by decide)
              refine sg_calli (va_runV (As := [.int 5, .int 0, .int x2, .int 0]) (rest := []) ⟨hx, hb, hml, hown, hts⟩ (kX3_does_5_0_0_f0_f5 l D ca za h hh f_15 L Q hI x2 (by rw [ef_15, sg_up_s, sgu_n (by decide)]; exact (by rw [ef_14, sg_up_s, sgu_n (by decide)]; exact (by rw [ef_1, sg_up_s, sgu_s]))) (Eq.trans (by rw [ef_15, sg_up_s, sgu_n (by decide)]; exact (by rw [ef_14, sg_up_s, sgu_s])) c_92) (by have k0 : (5 : Int32).toInt = 5 := (by decide); have k1 : (0 : Int32).toInt = 0 := (by decide); have k3 : (0 : Int32).toInt = 0 := (by decide); omega) H.size) (cwV 4 hts (gw_V (fun _ h => List.mem_cons_of_mem _ h) mw_318 mw_319 mw_320 mw_47 mw_317) rfl rfl rfl (by decide +kernel) ⟨Nat.le_of_ble_eq_true rfl, Nat.le_of_ble_eq_true rfl⟩) (sg_preV (ci := 3) (C := RX3) (T := TX3) (N := 6) hA hK hP hS hZ 36 (by decide) rfl rfl) rfl rfl hl.1 rfl (lv_room (Nat.le_of_ble_eq_true rfl)) dX3_acts_51 ⟨Nat.le_refl _, Nat.le_refl _⟩) hA hS (fun r_98 f_95 L_96 Q_97 H locs hq hP hS => ?_)
              obtain ⟨⟨hI, hk_f_95, eL9, eQ9⟩, hq, p_99⟩ := hq
              rw [eL9, eQ9] at hP; clear eL9 eQ9
              have hF : sgK WkX3_acts f f_95 := sgK.tr hF hk_f_95 (by decide)
              obtain ⟨v_100, ev_100⟩ : ∃ z : Int32, z = f_95 36 3 := ⟨_, rfl⟩
              have q_101 : 0 ≤ v_100.toInt ∧ v_100.toInt ≤ 19 := by rw [ev_100]; exact hI 36 3
              have q_102 : (f_95 36 3).toInt = v_100.toInt := (congrArg Int32.toInt (show f_95 36 3 = v_100 from ev_100.symm))
              have q_103 : (f_95 36 3).toInt = v_100.toInt := (congrArg Int32.toInt (show f_95 36 3 = v_100 from ev_100.symm))
              have k_104 : (5 : Int32).toInt = 5 := by decide
              have k_105 : (0 : Int32).toInt = 0 := by decide
              have k_106 : (0 : Int32).toInt = 0 := by decide
              exact hret _ _ _ _ (r_98) f_95 L Q dX3_acts_54 hP hS ⟨⟨hI, hF, rfl, rfl⟩, trivial⟩
            · skip
              have c_107 : v_12 = 6 := Int32.toInt_inj.mp (by have k9 : (6 : Int32).toInt = 6 := (by decide); omega)
              refine W.eq (g2 := F0 m 51 ls [.int 0, .int x2, .int 0, .int 6, .ref (h 36)]) (by rw [c_107]) ?_
              have q_108 : (f_15 36 3).toInt = 0 := (congrArg Int32.toInt (show f_15 36 3 = 0 from (by rw [ef_15, sg_up_s, sgu_n (by decide)]; exact (by rw [ef_14, sg_up_s, sgu_n (by decide)]; exact (by rw [ef_1, sg_up_s, sgu_s]))))).trans (by decide)
              have q_109 : (f_15 36 3).toInt = 0 := (congrArg Int32.toInt (show f_15 36 3 = 0 from (by rw [ef_15, sg_up_s, sgu_n (by decide)]; exact (by rw [ef_14, sg_up_s, sgu_n (by decide)]; exact (by rw [ef_1, sg_up_s, sgu_s]))))).trans (by decide)
              refine sg_calli (va_runV (As := [.int 6, .int 0, .int x2, .int 0]) (rest := []) ⟨hx, hb, hml, hown, hts⟩ (kX3_does_6_0_0_f0_f6 l D ca za h hh f_15 L Q hI x2 (by rw [ef_15, sg_up_s, sgu_n (by decide)]; exact (by rw [ef_14, sg_up_s, sgu_n (by decide)]; exact (by rw [ef_1, sg_up_s, sgu_s]))) (Eq.trans (by rw [ef_15, sg_up_s, sgu_n (by decide)]; exact (by rw [ef_14, sg_up_s, sgu_s])) c_107) (by have k0 : (6 : Int32).toInt = 6 := (by decide); have k1 : (0 : Int32).toInt = 0 := (by decide); have k3 : (0 : Int32).toInt = 0 := (by decide); omega) H.size) (cwV 4 hts (gw_V (fun _ h => List.mem_cons_of_mem _ h) mw_318 mw_319 mw_320 mw_47 mw_317) rfl rfl rfl (by decide +kernel) ⟨Nat.le_of_ble_eq_true rfl, Nat.le_of_ble_eq_true rfl⟩) (sg_preV (ci := 3) (C := RX3) (T := TX3) (N := 6) hA hK hP hS hZ 36 (by decide) rfl rfl) rfl rfl hl.1 rfl (lv_room (Nat.le_of_ble_eq_true rfl)) dX3_acts_51 ⟨Nat.le_refl _, Nat.le_refl _⟩) hA hS (fun r_113 f_110 L_111 Q_112 H locs hq hP hS => ?_)
              obtain ⟨⟨hI, hk_f_110, eL9, eQ9⟩, hq, p_114⟩ := hq
              rw [eL9, eQ9] at hP; clear eL9 eQ9
              have hF : sgK WkX3_acts f f_110 := sgK.tr hF hk_f_110 (by decide)
              obtain ⟨v_115, ev_115⟩ : ∃ z : Int32, z = f_110 36 3 := ⟨_, rfl⟩
              have q_116 : 0 ≤ v_115.toInt ∧ v_115.toInt ≤ 19 := by rw [ev_115]; exact hI 36 3
              have q_117 : (f_110 36 3).toInt = v_115.toInt := (congrArg Int32.toInt (show f_110 36 3 = v_115 from ev_115.symm))
              have q_118 : (f_110 36 3).toInt = v_115.toInt := (congrArg Int32.toInt (show f_110 36 3 = v_115 from ev_115.symm))
              have k_119 : (6 : Int32).toInt = 6 := by decide
              have k_120 : (0 : Int32).toInt = 0 := by decide
              have k_121 : (0 : Int32).toInt = 0 := by decide
              exact hret _ _ _ _ (r_113) f_110 L Q dX3_acts_54 hP hS ⟨⟨hI, hF, rfl, rfl⟩, trivial⟩
            · skip
              have c_122 : v_12 = 7 := Int32.toInt_inj.mp (by have k9 : (7 : Int32).toInt = 7 := (by decide); omega)
              refine W.eq (g2 := F0 m 51 ls [.int 0, .int x2, .int 0, .int 7, .ref (h 36)]) (by rw [c_122]) ?_
              have q_123 : (f_15 36 3).toInt = 0 := (congrArg Int32.toInt (show f_15 36 3 = 0 from (by rw [ef_15, sg_up_s, sgu_n (by decide)]; exact (by rw [ef_14, sg_up_s, sgu_n (by decide)]; exact (by rw [ef_1, sg_up_s, sgu_s]))))).trans (by decide)
              have q_124 : (f_15 36 3).toInt = 0 := (congrArg Int32.toInt (show f_15 36 3 = 0 from (by rw [ef_15, sg_up_s, sgu_n (by decide)]; exact (by rw [ef_14, sg_up_s, sgu_n (by decide)]; exact (by rw [ef_1, sg_up_s, sgu_s]))))).trans (by decide)
              refine sg_calli (va_runV (As := [.int 7, .int 0, .int x2, .int 0]) (rest := []) ⟨hx, hb, hml, hown, hts⟩ (kX3_does_7_0_0_f0_f7 l D ca za h hh f_15 L Q hI x2 (by rw [ef_15, sg_up_s, sgu_n (by decide)]; exact (by rw [ef_14, sg_up_s, sgu_n (by decide)]; exact (by rw [ef_1, sg_up_s, sgu_s]))) (Eq.trans (by rw [ef_15, sg_up_s, sgu_n (by decide)]; exact (by rw [ef_14, sg_up_s, sgu_s])) c_122) (by have k0 : (7 : Int32).toInt = 7 := (by decide); have k1 : (0 : Int32).toInt = 0 := (by decide); have k3 : (0 : Int32).toInt = 0 := (by decide); omega) H.size) (cwV 4 hts (gw_V (fun _ h => List.mem_cons_of_mem _ h) mw_318 mw_319 mw_320 mw_47 mw_317) rfl rfl rfl (by decide +kernel) ⟨Nat.le_of_ble_eq_true rfl, Nat.le_of_ble_eq_true rfl⟩) (sg_preV (ci := 3) (C := RX3) (T := TX3) (N := 6) hA hK hP hS hZ 36 (by decide) rfl rfl) rfl rfl hl.1 rfl (lv_room (Nat.le_of_ble_eq_true rfl)) dX3_acts_51 ⟨Nat.le_refl _, Nat.le_refl _⟩) hA hS (fun r_128 f_125 L_126 Q_127 H locs hq hP hS => ?_)
              obtain ⟨⟨hI, hk_f_125, eL9, eQ9⟩, hq, p_129⟩ := hq
              rw [eL9, eQ9] at hP; clear eL9 eQ9
              have hF : sgK WkX3_acts f f_125 := sgK.tr hF hk_f_125 (by decide)
              obtain ⟨v_130, ev_130⟩ : ∃ z : Int32, z = f_125 36 3 := ⟨_, rfl⟩
              have q_131 : 0 ≤ v_130.toInt ∧ v_130.toInt ≤ 19 := by rw [ev_130]; exact hI 36 3
              have q_132 : (f_125 36 3).toInt = v_130.toInt := (congrArg Int32.toInt (show f_125 36 3 = v_130 from ev_130.symm))
              have q_133 : (f_125 36 3).toInt = v_130.toInt := (congrArg Int32.toInt (show f_125 36 3 = v_130 from ev_130.symm))
              have k_134 : (7 : Int32).toInt = 7 := by decide
              have k_135 : (0 : Int32).toInt = 0 := by decide
              have k_136 : (0 : Int32).toInt = 0 := by decide
              exact hret _ _ _ _ (r_128) f_125 L Q dX3_acts_54 hP hS ⟨⟨hI, hF, rfl, rfl⟩, trivial⟩
          · skip
            have c_137 : x1 = 1 := Int32.toInt_inj.mp (by have k9 : (1 : Int32).toInt = 1 := (by decide); omega)
            refine W.eq (g2 := F0 m 51 ls [.int 0, .int x2, .int 1, .int v_12, .ref (h 36)]) (by rw [c_137]) ?_
            rcases (show v_12.toInt = 0 ∨ v_12.toInt = 1 ∨ v_12.toInt = 2 ∨ v_12.toInt = 3 ∨ v_12.toInt = 4 ∨ v_12.toInt = 5 ∨ v_12.toInt = 6 ∨ v_12.toInt = 7 from by omega) with c | c | c | c | c | c | c | c
            · skip
              have c_138 : v_12 = 0 := Int32.toInt_inj.mp (by have k9 : (0 : Int32).toInt = 0 := (by decide); omega)
              refine W.eq (g2 := F0 m 51 ls [.int 0, .int x2, .int 1, .int 0, .ref (h 36)]) (by rw [c_138]) ?_
              have q_139 : (f_15 36 3).toInt = 0 := (congrArg Int32.toInt (show f_15 36 3 = 0 from (by rw [ef_15, sg_up_s, sgu_n (by decide)]; exact (by rw [ef_14, sg_up_s, sgu_n (by decide)]; exact (by rw [ef_1, sg_up_s, sgu_s]))))).trans (by decide)
              have q_140 : (f_15 36 3).toInt = 0 := (congrArg Int32.toInt (show f_15 36 3 = 0 from (by rw [ef_15, sg_up_s, sgu_n (by decide)]; exact (by rw [ef_14, sg_up_s, sgu_n (by decide)]; exact (by rw [ef_1, sg_up_s, sgu_s]))))).trans (by decide)
              refine sg_calli (va_runV (As := [.int 0, .int 1, .int x2, .int 0]) (rest := []) ⟨hx, hb, hml, hown, hts⟩ (kX3_does_0_1_0_f0_f0 l D ca za h hh f_15 L Q hI x2 (by rw [ef_15, sg_up_s, sgu_n (by decide)]; exact (by rw [ef_14, sg_up_s, sgu_n (by decide)]; exact (by rw [ef_1, sg_up_s, sgu_s]))) (Eq.trans (by rw [ef_15, sg_up_s, sgu_n (by decide)]; exact (by rw [ef_14, sg_up_s, sgu_s])) c_138) (by have k0 : (0 : Int32).toInt = 0 := (by decide); have k1 : (1 : Int32).toInt = 1 := (by decide); have k3 : (0 : Int32).toInt = 0 := (by decide); omega) H.size) (cwV 4 hts (gw_V (fun _ h => List.mem_cons_of_mem _ h) mw_318 mw_319 mw_320 mw_47 mw_317) rfl rfl rfl (by decide +kernel) ⟨Nat.le_of_ble_eq_true rfl, Nat.le_of_ble_eq_true rfl⟩) (sg_preV (ci := 3) (C := RX3) (T := TX3) (N := 6) hA hK hP hS hZ 36 (by decide) rfl rfl) rfl rfl hl.1 rfl (lv_room (Nat.le_of_ble_eq_true rfl)) dX3_acts_51 ⟨Nat.le_refl _, Nat.le_refl _⟩) hA hS (fun r_144 f_141 L_142 Q_143 H locs hq hP hS => ?_)
              obtain ⟨⟨hI, hk_f_141, eL9, eQ9⟩, hq, p_145⟩ := hq
              rw [eL9, eQ9] at hP; clear eL9 eQ9
              have hF : sgK WkX3_acts f f_141 := sgK.tr hF hk_f_141 (by decide)
              obtain ⟨v_146, ev_146⟩ : ∃ z : Int32, z = f_141 36 3 := ⟨_, rfl⟩
              have q_147 : 0 ≤ v_146.toInt ∧ v_146.toInt ≤ 19 := by rw [ev_146]; exact hI 36 3
              have q_148 : (f_141 36 3).toInt = v_146.toInt := (congrArg Int32.toInt (show f_141 36 3 = v_146 from ev_146.symm))
              have q_149 : (f_141 36 3).toInt = v_146.toInt := (congrArg Int32.toInt (show f_141 36 3 = v_146 from ev_146.symm))
              have k_150 : (0 : Int32).toInt = 0 := by decide
              have k_151 : (1 : Int32).toInt = 1 := by decide
              have k_152 : (0 : Int32).toInt = 0 := by decide
              exact hret _ _ _ _ (r_144) f_141 L Q dX3_acts_54 hP hS ⟨⟨hI, hF, rfl, rfl⟩, trivial⟩
            · skip
              have c_153 : v_12 = 1 := Int32.toInt_inj.mp (by have k9 : (1 : Int32).toInt = 1 := (by decide); omega)
              refine W.eq (g2 := F0 m 51 ls [.int 0, .int x2, .int 1, .int 1, .ref (h 36)]) (by rw [c_153]) ?_
              have q_154 : (f_15 36 3).toInt = 0 := (congrArg Int32.toInt (show f_15 36 3 = 0 from (by rw [ef_15, sg_up_s, sgu_n (by decide)]; exact (by rw [ef_14, sg_up_s, sgu_n (by decide)]; exact (by rw [ef_1, sg_up_s, sgu_s]))))).trans (by decide)
              have q_155 : (f_15 36 3).toInt = 0 := (congrArg Int32.toInt (show f_15 36 3 = 0 from (by rw [ef_15, sg_up_s, sgu_n (by decide)]; exact (by rw [ef_14, sg_up_s, sgu_n (by decide)]; exact (by rw [ef_1, sg_up_s, sgu_s]))))).trans (by decide)
              refine sg_calli (va_runV (As := [.int 1, .int 1, .int x2, .int 0]) (rest := []) ⟨hx, hb, hml, hown, hts⟩ (kX3_does_1_1_0_f0_f1 l D ca za h hh f_15 L Q hI x2 (by rw [ef_15, sg_up_s, sgu_n (by decide)]; exact (by rw [ef_14, sg_up_s, sgu_n (by decide)]; exact (by rw [ef_1, sg_up_s, sgu_s]))) (Eq.trans (by rw [ef_15, sg_up_s, sgu_n (by decide)]; exact (by rw [ef_14, sg_up_s, sgu_s])) c_153) (by have k0 : (1 : Int32).toInt = 1 := (by decide); have k1 : (1 : Int32).toInt = 1 := (by decide); have k3 : (0 : Int32).toInt = 0 := (by decide); omega) H.size) (cwV 4 hts (gw_V (fun _ h => List.mem_cons_of_mem _ h) mw_318 mw_319 mw_320 mw_47 mw_317) rfl rfl rfl (by decide +kernel) ⟨Nat.le_of_ble_eq_true rfl, Nat.le_of_ble_eq_true rfl⟩) (sg_preV (ci := 3) (C := RX3) (T := TX3) (N := 6) hA hK hP hS hZ 36 (by decide) rfl rfl) rfl rfl hl.1 rfl (lv_room (Nat.le_of_ble_eq_true rfl)) dX3_acts_51 ⟨Nat.le_refl _, Nat.le_refl _⟩) hA hS (fun r_159 f_156 L_157 Q_158 H locs hq hP hS => ?_)
              obtain ⟨⟨hI, hk_f_156, eL9, eQ9⟩, hq, p_160⟩ := hq
              rw [eL9, eQ9] at hP; clear eL9 eQ9
              have hF : sgK WkX3_acts f f_156 := sgK.tr hF hk_f_156 (by decide)
              obtain ⟨v_161, ev_161⟩ : ∃ z : Int32, z = f_156 36 3 := ⟨_, rfl⟩
              have q_162 : 0 ≤ v_161.toInt ∧ v_161.toInt ≤ 19 := by rw [ev_161]; exact hI 36 3
              have q_163 : (f_156 36 3).toInt = v_161.toInt := (congrArg Int32.toInt (show f_156 36 3 = v_161 from ev_161.symm))
              have q_164 : (f_156 36 3).toInt = v_161.toInt := (congrArg Int32.toInt (show f_156 36 3 = v_161 from ev_161.symm))
              have k_165 : (1 : Int32).toInt = 1 := by decide
              have k_166 : (1 : Int32).toInt = 1 := by decide
              have k_167 : (0 : Int32).toInt = 0 := by decide
              exact hret _ _ _ _ (r_159) f_156 L Q dX3_acts_54 hP hS ⟨⟨hI, hF, rfl, rfl⟩, trivial⟩
            · skip
              have c_168 : v_12 = 2 := Int32.toInt_inj.mp (by have k9 : (2 : Int32).toInt = 2 := (by decide); omega)
              refine W.eq (g2 := F0 m 51 ls [.int 0, .int x2, .int 1, .int 2, .ref (h 36)]) (by rw [c_168]) ?_
              have q_169 : (f_15 36 3).toInt = 0 := (congrArg Int32.toInt (show f_15 36 3 = 0 from (by rw [ef_15, sg_up_s, sgu_n (by decide)]; exact (by rw [ef_14, sg_up_s, sgu_n (by decide)]; exact (by rw [ef_1, sg_up_s, sgu_s]))))).trans (by decide)
              have q_170 : (f_15 36 3).toInt = 0 := (congrArg Int32.toInt (show f_15 36 3 = 0 from (by rw [ef_15, sg_up_s, sgu_n (by decide)]; exact (by rw [ef_14, sg_up_s, sgu_n (by decide)]; exact (by rw [ef_1, sg_up_s, sgu_s]))))).trans (by decide)
              refine sg_calli (va_runV (As := [.int 2, .int 1, .int x2, .int 0]) (rest := []) ⟨hx, hb, hml, hown, hts⟩ (kX3_does_2_1_0_f0_f2 l D ca za h hh f_15 L Q hI x2 (by rw [ef_15, sg_up_s, sgu_n (by decide)]; exact (by rw [ef_14, sg_up_s, sgu_n (by decide)]; exact (by rw [ef_1, sg_up_s, sgu_s]))) (Eq.trans (by rw [ef_15, sg_up_s, sgu_n (by decide)]; exact (by rw [ef_14, sg_up_s, sgu_s])) c_168) (by have k0 : (2 : Int32).toInt = 2 := (by decide); have k1 : (1 : Int32).toInt = 1 := (by decide); have k3 : (0 : Int32).toInt = 0 := (by decide); omega) H.size) (cwV 4 hts (gw_V (fun _ h => List.mem_cons_of_mem _ h) mw_318 mw_319 mw_320 mw_47 mw_317) rfl rfl rfl (by decide +kernel) ⟨Nat.le_of_ble_eq_true rfl, Nat.le_of_ble_eq_true rfl⟩) (sg_preV (ci := 3) (C := RX3) (T := TX3) (N := 6) hA hK hP hS hZ 36 (by decide) rfl rfl) rfl rfl hl.1 rfl (lv_room (Nat.le_of_ble_eq_true rfl)) dX3_acts_51 ⟨Nat.le_refl _, Nat.le_refl _⟩) hA hS (fun r_174 f_171 L_172 Q_173 H locs hq hP hS => ?_)
              obtain ⟨⟨hI, hk_f_171, eL9, eQ9⟩, hq, p_175⟩ := hq
              rw [eL9, eQ9] at hP; clear eL9 eQ9
              have hF : sgK WkX3_acts f f_171 := sgK.tr hF hk_f_171 (by decide)
              obtain ⟨v_176, ev_176⟩ : ∃ z : Int32, z = f_171 36 3 := ⟨_, rfl⟩
              have q_177 : 0 ≤ v_176.toInt ∧ v_176.toInt ≤ 19 := by rw [ev_176]; exact hI 36 3
              have q_178 : (f_171 36 3).toInt = v_176.toInt := (congrArg Int32.toInt (show f_171 36 3 = v_176 from ev_176.symm))
              have q_179 : (f_171 36 3).toInt = v_176.toInt := (congrArg Int32.toInt (show f_171 36 3 = v_176 from ev_176.symm))
              have k_180 : (2 : Int32).toInt = 2 := by decide
              have k_181 : (1 : Int32).toInt = 1 := by decide
              have k_182 : (0 : Int32).toInt = 0 := by decide
              exact hret _ _ _ _ (r_174) f_171 L Q dX3_acts_54 hP hS ⟨⟨hI, hF, rfl, rfl⟩, trivial⟩
            · skip
              have c_183 : v_12 = 3 := Int32.toInt_inj.mp (by have k9 : (3 : Int32).toInt = 3 := (by decide); omega)
              refine W.eq (g2 := F0 m 51 ls [.int 0, .int x2, .int 1, .int 3, .ref (h 36)]) (by rw [c_183]) ?_
              have q_184 : (f_15 36 3).toInt = 0 := (congrArg Int32.toInt (show f_15 36 3 = 0 from (by rw [ef_15, sg_up_s, sgu_n (by decide)]; exact (by rw [ef_14, sg_up_s, sgu_n (by decide)]; exact (by rw [ef_1, sg_up_s, sgu_s]))))).trans (by decide)
              have q_185 : (f_15 36 3).toInt = 0 := (congrArg Int32.toInt (show f_15 36 3 = 0 from (by rw [ef_15, sg_up_s, sgu_n (by decide)]; exact (by rw [ef_14, sg_up_s, sgu_n (by decide)]; exact (by rw [ef_1, sg_up_s, sgu_s]))))).trans (by decide)
              refine sg_calli (va_runV (As := [.int 3, .int 1, .int x2, .int 0]) (rest := []) ⟨hx, hb, hml, hown, hts⟩ (kX3_does_3_1_0_f0_f3 l D ca za h hh f_15 L Q hI x2 (by rw [ef_15, sg_up_s, sgu_n (by decide)]; exact (by rw [ef_14, sg_up_s, sgu_n (by decide)]; exact (by rw [ef_1, sg_up_s, sgu_s]))) (Eq.trans (by rw [ef_15, sg_up_s, sgu_n (by decide)]; exact (by rw [ef_14, sg_up_s, sgu_s])) c_183) (by have k0 : (3 : Int32).toInt = 3 := (by decide); have k1 : (1 : Int32).toInt = 1 := (by decide); have k3 : (0 : Int32).toInt = 0 := (by decide); omega) H.size) (cwV 4 hts (gw_V (fun _ h => List.mem_cons_of_mem _ h) mw_318 mw_319 mw_320 mw_47 mw_317) rfl rfl rfl (by decide +kernel) ⟨Nat.le_of_ble_eq_true rfl, Nat.le_of_ble_eq_true rfl⟩) (sg_preV (ci := 3) (C := RX3) (T := TX3) (N := 6) hA hK hP hS hZ 36 (by decide) rfl rfl) rfl rfl hl.1 rfl (lv_room (Nat.le_of_ble_eq_true rfl)) dX3_acts_51 ⟨Nat.le_refl _, Nat.le_refl _⟩) hA hS (fun r_189 f_186 L_187 Q_188 H locs hq hP hS => ?_)
              obtain ⟨⟨hI, hk_f_186, eL9, eQ9⟩, hq, p_190⟩ := hq
              rw [eL9, eQ9] at hP; clear eL9 eQ9
              have hF : sgK WkX3_acts f f_186 := sgK.tr hF hk_f_186 (by decide)
              obtain ⟨v_191, ev_191⟩ : ∃ z : Int32, z = f_186 36 3 := ⟨_, rfl⟩
              have q_192 : 0 ≤ v_191.toInt ∧ v_191.toInt ≤ 19 := by rw [ev_191]; exact hI 36 3
              have q_193 : (f_186 36 3).toInt = v_191.toInt := (congrArg Int32.toInt (show f_186 36 3 = v_191 from ev_191.symm))
              have q_194 : (f_186 36 3).toInt = v_191.toInt := (congrArg Int32.toInt (show f_186 36 3 = v_191 from ev_191.symm))
              have k_195 : (3 : Int32).toInt = 3 := by decide
              have k_196 : (1 : Int32).toInt = 1 := by decide
              have k_197 : (0 : Int32).toInt = 0 := by decide
              exact hret _ _ _ _ (r_189) f_186 L Q dX3_acts_54 hP hS ⟨⟨hI, hF, rfl, rfl⟩, trivial⟩
            · skip
              have c_198 : v_12 = 4 := Int32.toInt_inj.mp (by have k9 : (4 : Int32).toInt = 4 := (by decide); omega)
              refine W.eq (g2 := F0 m 51 ls [.int 0, .int x2, .int 1, .int 4, .ref (h 36)]) (by rw [c_198]) ?_
              have q_199 : (f_15 36 3).toInt = 0 := (congrArg Int32.toInt (show f_15 36 3 = 0 from (by rw [ef_15, sg_up_s, sgu_n (by decide)]; exact (by rw [ef_14, sg_up_s, sgu_n (by decide)]; exact (by rw [ef_1, sg_up_s, sgu_s]))))).trans (by decide)
              have q_200 : (f_15 36 3).toInt = 0 := (congrArg Int32.toInt (show f_15 36 3 = 0 from (by rw [ef_15, sg_up_s, sgu_n (by decide)]; exact (by rw [ef_14, sg_up_s, sgu_n (by decide)]; exact (by rw [ef_1, sg_up_s, sgu_s]))))).trans (by decide)
              refine sg_calli (va_runV (As := [.int 4, .int 1, .int x2, .int 0]) (rest := []) ⟨hx, hb, hml, hown, hts⟩ (kX3_does_4_1_0_f0_f4 l D ca za h hh f_15 L Q hI x2 (by rw [ef_15, sg_up_s, sgu_n (by decide)]; exact (by rw [ef_14, sg_up_s, sgu_n (by decide)]; exact (by rw [ef_1, sg_up_s, sgu_s]))) (Eq.trans (by rw [ef_15, sg_up_s, sgu_n (by decide)]; exact (by rw [ef_14, sg_up_s, sgu_s])) c_198) (by have k0 : (4 : Int32).toInt = 4 := (by decide); have k1 : (1 : Int32).toInt = 1 := (by decide); have k3 : (0 : Int32).toInt = 0 := (by decide); omega) H.size) (cwV 4 hts (gw_V (fun _ h => List.mem_cons_of_mem _ h) mw_318 mw_319 mw_320 mw_47 mw_317) rfl rfl rfl (by decide +kernel) ⟨Nat.le_of_ble_eq_true rfl, Nat.le_of_ble_eq_true rfl⟩) (sg_preV (ci := 3) (C := RX3) (T := TX3) (N := 6) hA hK hP hS hZ 36 (by decide) rfl rfl) rfl rfl hl.1 rfl (lv_room (Nat.le_of_ble_eq_true rfl)) dX3_acts_51 ⟨Nat.le_refl _, Nat.le_refl _⟩) hA hS (fun r_204 f_201 L_202 Q_203 H locs hq hP hS => ?_)
              obtain ⟨⟨hI, hk_f_201, eL9, eQ9⟩, hq, p_205⟩ := hq
              rw [eL9, eQ9] at hP; clear eL9 eQ9
              have hF : sgK WkX3_acts f f_201 := sgK.tr hF hk_f_201 (by decide)
              obtain ⟨v_206, ev_206⟩ : ∃ z : Int32, z = f_201 36 3 := ⟨_, rfl⟩
              have q_207 : 0 ≤ v_206.toInt ∧ v_206.toInt ≤ 19 := by rw [ev_206]; exact hI 36 3
              have q_208 : (f_201 36 3).toInt = v_206.toInt := (congrArg Int32.toInt (show f_201 36 3 = v_206 from ev_206.symm))
              have q_209 : (f_201 36 3).toInt = v_206.toInt := (congrArg Int32.toInt (show f_201 36 3 = v_206 from ev_206.symm))
              have k_210 : (4 : Int32).toInt = 4 := by decide
              have k_211 : (1 : Int32).toInt = 1 := by decide
              have k_212 : (0 : Int32).toInt = 0 := by decide
              exact hret _ _ _ _ (r_204) f_201 L Q dX3_acts_54 hP hS ⟨⟨hI, hF, rfl, rfl⟩, trivial⟩
            · skip
              have c_213 : v_12 = 5 := Int32.toInt_inj.mp (by have k9 : (5 : Int32).toInt = 5 := (by decide); omega)
              refine W.eq (g2 := F0 m 51 ls [.int 0, .int x2, .int 1, .int 5, .ref (h 36)]) (by rw [c_213]) ?_
              have q_214 : (f_15 36 3).toInt = 0 := (congrArg Int32.toInt (show f_15 36 3 = 0 from (by rw [ef_15, sg_up_s, sgu_n (by decide)]; exact (by rw [ef_14, sg_up_s, sgu_n (by decide)]; exact (by rw [ef_1, sg_up_s, sgu_s]))))).trans (by decide)
              have q_215 : (f_15 36 3).toInt = 0 := (congrArg Int32.toInt (show f_15 36 3 = 0 from (by rw [ef_15, sg_up_s, sgu_n (by decide)]; exact (by rw [ef_14, sg_up_s, sgu_n (by decide)]; exact (by rw [ef_1, sg_up_s, sgu_s]))))).trans (by decide)
              refine sg_calli (va_runV (As := [.int 5, .int 1, .int x2, .int 0]) (rest := []) ⟨hx, hb, hml, hown, hts⟩ (kX3_does_5_1_0_f0_f5 l D ca za h hh f_15 L Q hI x2 (by rw [ef_15, sg_up_s, sgu_n (by decide)]; exact (by rw [ef_14, sg_up_s, sgu_n (by decide)]; exact (by rw [ef_1, sg_up_s, sgu_s]))) (Eq.trans (by rw [ef_15, sg_up_s, sgu_n (by decide)]; exact (by rw [ef_14, sg_up_s, sgu_s])) c_213) (by have k0 : (5 : Int32).toInt = 5 := (by decide); have k1 : (1 : Int32).toInt = 1 := (by decide); have k3 : (0 : Int32).toInt = 0 := (by decide); omega) H.size) (cwV 4 hts (gw_V (fun _ h => List.mem_cons_of_mem _ h) mw_318 mw_319 mw_320 mw_47 mw_317) rfl rfl rfl (by decide +kernel) ⟨Nat.le_of_ble_eq_true rfl, Nat.le_of_ble_eq_true rfl⟩) (sg_preV (ci := 3) (C := RX3) (T := TX3) (N := 6) hA hK hP hS hZ 36 (by decide) rfl rfl) rfl rfl hl.1 rfl (lv_room (Nat.le_of_ble_eq_true rfl)) dX3_acts_51 ⟨Nat.le_refl _, Nat.le_refl _⟩) hA hS (fun r_219 f_216 L_217 Q_218 H locs hq hP hS => ?_)
              obtain ⟨⟨hI, hk_f_216, eL9, eQ9⟩, hq, p_220⟩ := hq
              rw [eL9, eQ9] at hP; clear eL9 eQ9
              have hF : sgK WkX3_acts f f_216 := sgK.tr hF hk_f_216 (by decide)
              obtain ⟨v_221, ev_221⟩ : ∃ z : Int32, z = f_216 36 3 := ⟨_, rfl⟩
              have q_222 : 0 ≤ v_221.toInt ∧ v_221.toInt ≤ 19 := by rw [ev_221]; exact hI 36 3
              have q_223 : (f_216 36 3).toInt = v_221.toInt := (congrArg Int32.toInt (show f_216 36 3 = v_221 from ev_221.symm))
              have q_224 : (f_216 36 3).toInt = v_221.toInt := (congrArg Int32.toInt (show f_216 36 3 = v_221 from ev_221.symm))
              have k_225 : (5 : Int32).toInt = 5 := by decide
              have k_226 : (1 : Int32).toInt = 1 := by decide
              have k_227 : (0 : Int32).toInt = 0 := by decide
              exact hret _ _ _ _ (r_219) f_216 L Q dX3_acts_54 hP hS ⟨⟨hI, hF, rfl, rfl⟩, trivial⟩
            · skip
              have c_228 : v_12 = 6 := Int32.toInt_inj.mp (by have k9 : (6 : Int32).toInt = 6 := (by decide); omega)
              refine W.eq (g2 := F0 m 51 ls [.int 0, .int x2, .int 1, .int 6, .ref (h 36)]) (by rw [c_228]) ?_
              have q_229 : (f_15 36 3).toInt = 0 := (congrArg Int32.toInt (show f_15 36 3 = 0 from (by rw [ef_15, sg_up_s, sgu_n (by decide)]; exact (by rw [ef_14, sg_up_s, sgu_n (by decide)]; exact (by rw [ef_1, sg_up_s, sgu_s]))))).trans (by decide)
              have q_230 : (f_15 36 3).toInt = 0 := (congrArg Int32.toInt (show f_15 36 3 = 0 from (by rw [ef_15, sg_up_s, sgu_n (by decide)]; exact (by rw [ef_14, sg_up_s, sgu_n (by decide)]; exact (by rw [ef_1, sg_up_s, sgu_s]))))).trans (by decide)
              refine sg_calli (va_runV (As := [.int 6, .int 1, .int x2, .int 0]) (rest := []) ⟨hx, hb, hml, hown, hts⟩ (kX3_does_6_1_0_f0_f6 l D ca za h hh f_15 L Q hI x2 (by rw [ef_15, sg_up_s, sgu_n (by decide)]; exact (by rw [ef_14, sg_up_s, sgu_n (by decide)]; exact (by rw [ef_1, sg_up_s, sgu_s]))) (Eq.trans (by rw [ef_15, sg_up_s, sgu_n (by decide)]; exact (by rw [ef_14, sg_up_s, sgu_s])) c_228) (by have k0 : (6 : Int32).toInt = 6 := (by decide); have k1 : (1 : Int32).toInt = 1 := (by decide); have k3 : (0 : Int32).toInt = 0 := (by decide); omega) H.size) (cwV 4 hts (gw_V (fun _ h => List.mem_cons_of_mem _ h) mw_318 mw_319 mw_320 mw_47 mw_317) rfl rfl rfl (by decide +kernel) ⟨Nat.le_of_ble_eq_true rfl, Nat.le_of_ble_eq_true rfl⟩) (sg_preV (ci := 3) (C := RX3) (T := TX3) (N := 6) hA hK hP hS hZ 36 (by decide) rfl rfl) rfl rfl hl.1 rfl (lv_room (Nat.le_of_ble_eq_true rfl)) dX3_acts_51 ⟨Nat.le_refl _, Nat.le_refl _⟩) hA hS (fun r_234 f_231 L_232 Q_233 H locs hq hP hS => ?_)
              obtain ⟨⟨hI, hk_f_231, eL9, eQ9⟩, hq, p_235⟩ := hq
              rw [eL9, eQ9] at hP; clear eL9 eQ9
              have hF : sgK WkX3_acts f f_231 := sgK.tr hF hk_f_231 (by decide)
              obtain ⟨v_236, ev_236⟩ : ∃ z : Int32, z = f_231 36 3 := ⟨_, rfl⟩
              have q_237 : 0 ≤ v_236.toInt ∧ v_236.toInt ≤ 19 := by rw [ev_236]; exact hI 36 3
              have q_238 : (f_231 36 3).toInt = v_236.toInt := (congrArg Int32.toInt (show f_231 36 3 = v_236 from ev_236.symm))
              have q_239 : (f_231 36 3).toInt = v_236.toInt := (congrArg Int32.toInt (show f_231 36 3 = v_236 from ev_236.symm))
              have k_240 : (6 : Int32).toInt = 6 := by decide
              have k_241 : (1 : Int32).toInt = 1 := by decide
              have k_242 : (0 : Int32).toInt = 0 := by decide
              exact hret _ _ _ _ (r_234) f_231 L Q dX3_acts_54 hP hS ⟨⟨hI, hF, rfl, rfl⟩, trivial⟩
            · skip
              have c_243 : v_12 = 7 := Int32.toInt_inj.mp (by have k9 : (7 : Int32).toInt = 7 := (by decide); omega)
              refine W.eq (g2 := F0 m 51 ls [.int 0, .int x2, .int 1, .int 7, .ref (h 36)]) (by rw [c_243]) ?_
              have q_244 : (f_15 36 3).toInt = 0 := (congrArg Int32.toInt (show f_15 36 3 = 0 from (by rw [ef_15, sg_up_s, sgu_n (by decide)]; exact (by rw [ef_14, sg_up_s, sgu_n (by decide)]; exact (by rw [ef_1, sg_up_s, sgu_s]))))).trans (by decide)
              have q_245 : (f_15 36 3).toInt = 0 := (congrArg Int32.toInt (show f_15 36 3 = 0 from (by rw [ef_15, sg_up_s, sgu_n (by decide)]; exact (by rw [ef_14, sg_up_s, sgu_n (by decide)]; exact (by rw [ef_1, sg_up_s, sgu_s]))))).trans (by decide)
              refine sg_calli (va_runV (As := [.int 7, .int 1, .int x2, .int 0]) (rest := []) ⟨hx, hb, hml, hown, hts⟩ (kX3_does_7_1_0_f0_f7 l D ca za h hh f_15 L Q hI x2 (by rw [ef_15, sg_up_s, sgu_n (by decide)]; exact (by rw [ef_14, sg_up_s, sgu_n (by decide)]; exact (by rw [ef_1, sg_up_s, sgu_s]))) (Eq.trans (by rw [ef_15, sg_up_s, sgu_n (by decide)]; exact (by rw [ef_14, sg_up_s, sgu_s])) c_243) (by have k0 : (7 : Int32).toInt = 7 := (by decide); have k1 : (1 : Int32).toInt = 1 := (by decide); have k3 : (0 : Int32).toInt = 0 := (by decide); omega) H.size) (cwV 4 hts (gw_V (fun _ h => List.mem_cons_of_mem _ h) mw_318 mw_319 mw_320 mw_47 mw_317) rfl rfl rfl (by decide +kernel) ⟨Nat.le_of_ble_eq_true rfl, Nat.le_of_ble_eq_true rfl⟩) (sg_preV (ci := 3) (C := RX3) (T := TX3) (N := 6) hA hK hP hS hZ 36 (by decide) rfl rfl) rfl rfl hl.1 rfl (lv_room (Nat.le_of_ble_eq_true rfl)) dX3_acts_51 ⟨Nat.le_refl _, Nat.le_refl _⟩) hA hS (fun r_249 f_246 L_247 Q_248 H locs hq hP hS => ?_)
              obtain ⟨⟨hI, hk_f_246, eL9, eQ9⟩, hq, p_250⟩ := hq
              rw [eL9, eQ9] at hP; clear eL9 eQ9
              have hF : sgK WkX3_acts f f_246 := sgK.tr hF hk_f_246 (by decide)
              obtain ⟨v_251, ev_251⟩ : ∃ z : Int32, z = f_246 36 3 := ⟨_, rfl⟩
              have q_252 : 0 ≤ v_251.toInt ∧ v_251.toInt ≤ 19 := by rw [ev_251]; exact hI 36 3
              have q_253 : (f_246 36 3).toInt = v_251.toInt := (congrArg Int32.toInt (show f_246 36 3 = v_251 from ev_251.symm))
              have q_254 : (f_246 36 3).toInt = v_251.toInt := (congrArg Int32.toInt (show f_246 36 3 = v_251 from ev_251.symm))
              have k_255 : (7 : Int32).toInt = 7 := by decide
              have k_256 : (1 : Int32).toInt = 1 := by decide
              have k_257 : (0 : Int32).toInt = 0 := by decide
              exact hret _ _ _ _ (r_249) f_246 L Q dX3_acts_54 hP hS ⟨⟨hI, hF, rfl, rfl⟩, trivial⟩
          · skip
            have c_258 : x1 = 2 := Int32.toInt_inj.mp (by have k9 : (2 : Int32).toInt = 2 := (by decide); omega)
            refine W.eq (g2 := F0 m 51 ls [.int 0, .int x2, .int 2, .int v_12, .ref (h 36)]) (by rw [c_258]) ?_
            rcases (show v_12.toInt = 0 ∨ v_12.toInt = 1 ∨ v_12.toInt = 2 ∨ v_12.toInt = 3 ∨ v_12.toInt = 4 ∨ v_12.toInt = 5 ∨ v_12.toInt = 6 ∨ v_12.toInt = 7 from by omega) with c | c | c | c | c | c | c | c
            · skip
              have c_259 : v_12 = 0 := Int32.toInt_inj.mp (by have k9 : (0 : Int32).toInt = 0 := (by decide); omega)
              refine W.eq (g2 := F0 m 51 ls [.int 0, .int x2, .int 2, .int 0, .ref (h 36)]) (by rw [c_259]) ?_
              have q_260 : (f_15 36 3).toInt = 0 := (congrArg Int32.toInt (show f_15 36 3 = 0 from (by rw [ef_15, sg_up_s, sgu_n (by decide)]; exact (by rw [ef_14, sg_up_s, sgu_n (by decide)]; exact (by rw [ef_1, sg_up_s, sgu_s]))))).trans (by decide)
              have q_261 : (f_15 36 3).toInt = 0 := (congrArg Int32.toInt (show f_15 36 3 = 0 from (by rw [ef_15, sg_up_s, sgu_n (by decide)]; exact (by rw [ef_14, sg_up_s, sgu_n (by decide)]; exact (by rw [ef_1, sg_up_s, sgu_s]))))).trans (by decide)
              refine sg_calli (va_runV (As := [.int 0, .int 2, .int x2, .int 0]) (rest := []) ⟨hx, hb, hml, hown, hts⟩ (kX3_does_0_2_0_f0_f0 l D ca za h hh f_15 L Q hI x2 (by rw [ef_15, sg_up_s, sgu_n (by decide)]; exact (by rw [ef_14, sg_up_s, sgu_n (by decide)]; exact (by rw [ef_1, sg_up_s, sgu_s]))) (Eq.trans (by rw [ef_15, sg_up_s, sgu_n (by decide)]; exact (by rw [ef_14, sg_up_s, sgu_s])) c_259) (by have k0 : (0 : Int32).toInt = 0 := (by decide); have k1 : (2 : Int32).toInt = 2 := (by decide); have k3 : (0 : Int32).toInt = 0 := (by decide); omega) H.size) (cwV 4 hts (gw_V (fun _ h => List.mem_cons_of_mem _ h) mw_318 mw_319 mw_320 mw_47 mw_317) rfl rfl rfl (by decide +kernel) ⟨Nat.le_of_ble_eq_true rfl, Nat.le_of_ble_eq_true rfl⟩) (sg_preV (ci := 3) (C := RX3) (T := TX3) (N := 6) hA hK hP hS hZ 36 (by decide) rfl rfl) rfl rfl hl.1 rfl (lv_room (Nat.le_of_ble_eq_true rfl)) dX3_acts_51 ⟨Nat.le_refl _, Nat.le_refl _⟩) hA hS (fun r_265 f_262 L_263 Q_264 H locs hq hP hS => ?_)
              obtain ⟨⟨hI, hk_f_262, eL9, eQ9⟩, hq, p_266⟩ := hq
              rw [eL9, eQ9] at hP; clear eL9 eQ9
              have hF : sgK WkX3_acts f f_262 := sgK.tr hF hk_f_262 (by decide)
              obtain ⟨v_267, ev_267⟩ : ∃ z : Int32, z = f_262 36 3 := ⟨_, rfl⟩
              have q_268 : 0 ≤ v_267.toInt ∧ v_267.toInt ≤ 19 := by rw [ev_267]; exact hI 36 3
              have q_269 : (f_262 36 3).toInt = v_267.toInt := (congrArg Int32.toInt (show f_262 36 3 = v_267 from ev_267.symm))
              have q_270 : (f_262 36 3).toInt = v_267.toInt := (congrArg Int32.toInt (show f_262 36 3 = v_267 from ev_267.symm))
              have k_271 : (0 : Int32).toInt = 0 := by decide
              have k_272 : (2 : Int32).toInt = 2 := by decide
              have k_273 : (0 : Int32).toInt = 0 := by decide
              exact hret _ _ _ _ (r_265) f_262 L Q dX3_acts_54 hP hS ⟨⟨hI, hF, rfl, rfl⟩, trivial⟩
            · skip
              have c_274 : v_12 = 1 := Int32.toInt_inj.mp (by have k9 : (1 : Int32).toInt = 1 := (by decide); omega)
              refine W.eq (g2 := F0 m 51 ls [.int 0, .int x2, .int 2, .int 1, .ref (h 36)]) (by rw [c_274]) ?_
              have q_275 : (f_15 36 3).toInt = 0 := (congrArg Int32.toInt (show f_15 36 3 = 0 from (by rw [ef_15, sg_up_s, sgu_n (by decide)]; exact (by rw [ef_14, sg_up_s, sgu_n (by decide)]; exact (by rw [ef_1, sg_up_s, sgu_s]))))).trans (by decide)
              have q_276 : (f_15 36 3).toInt = 0 := (congrArg Int32.toInt (show f_15 36 3 = 0 from (by rw [ef_15, sg_up_s, sgu_n (by decide)]; exact (by rw [ef_14, sg_up_s, sgu_n (by decide)]; exact (by rw [ef_1, sg_up_s, sgu_s]))))).trans (by decide)
              refine sg_calli (va_runV (As := [.int 1, .int 2, .int x2, .int 0]) (rest := []) ⟨hx, hb, hml, hown, hts⟩ (kX3_does_1_2_0_f0_f1 l D ca za h hh f_15 L Q hI x2 (by rw [ef_15, sg_up_s, sgu_n (by decide)]; exact (by rw [ef_14, sg_up_s, sgu_n (by decide)]; exact (by rw [ef_1, sg_up_s, sgu_s]))) (Eq.trans (by rw [ef_15, sg_up_s, sgu_n (by decide)]; exact (by rw [ef_14, sg_up_s, sgu_s])) c_274) (by have k0 : (1 : Int32).toInt = 1 := (by decide); have k1 : (2 : Int32).toInt = 2 := (by decide); have k3 : (0 : Int32).toInt = 0 := (by decide); omega) H.size) (cwV 4 hts (gw_V (fun _ h => List.mem_cons_of_mem _ h) mw_318 mw_319 mw_320 mw_47 mw_317) rfl rfl rfl (by decide +kernel) ⟨Nat.le_of_ble_eq_true rfl, Nat.le_of_ble_eq_true rfl⟩) (sg_preV (ci := 3) (C := RX3) (T := TX3) (N := 6) hA hK hP hS hZ 36 (by decide) rfl rfl) rfl rfl hl.1 rfl (lv_room (Nat.le_of_ble_eq_true rfl)) dX3_acts_51 ⟨Nat.le_refl _, Nat.le_refl _⟩) hA hS (fun r_280 f_277 L_278 Q_279 H locs hq hP hS => ?_)
              obtain ⟨⟨hI, hk_f_277, eL9, eQ9⟩, hq, p_281⟩ := hq
              rw [eL9, eQ9] at hP; clear eL9 eQ9
              have hF : sgK WkX3_acts f f_277 := sgK.tr hF hk_f_277 (by decide)
              obtain ⟨v_282, ev_282⟩ : ∃ z : Int32, z = f_277 36 3 := ⟨_, rfl⟩
              have q_283 : 0 ≤ v_282.toInt ∧ v_282.toInt ≤ 19 := by rw [ev_282]; exact hI 36 3
              have q_284 : (f_277 36 3).toInt = v_282.toInt := (congrArg Int32.toInt (show f_277 36 3 = v_282 from ev_282.symm))
              have q_285 : (f_277 36 3).toInt = v_282.toInt := (congrArg Int32.toInt (show f_277 36 3 = v_282 from ev_282.symm))
              have k_286 : (1 : Int32).toInt = 1 := by decide
              have k_287 : (2 : Int32).toInt = 2 := by decide
              have k_288 : (0 : Int32).toInt = 0 := by decide
              exact hret _ _ _ _ (r_280) f_277 L Q dX3_acts_54 hP hS ⟨⟨hI, hF, rfl, rfl⟩, trivial⟩
            · skip
              have c_289 : v_12 = 2 := Int32.toInt_inj.mp (by have k9 : (2 : Int32).toInt = 2 := (by decide); omega)
              refine W.eq (g2 := F0 m 51 ls [.int 0, .int x2, .int 2, .int 2, .ref (h 36)]) (by rw [c_289]) ?_
              have q_290 : (f_15 36 3).toInt = 0 := (congrArg Int32.toInt (show f_15 36 3 = 0 from (by rw [ef_15, sg_up_s, sgu_n (by decide)]; exact (by rw [ef_14, sg_up_s, sgu_n (by decide)]; exact (by rw [ef_1, sg_up_s, sgu_s]))))).trans (by decide)
              have q_291 : (f_15 36 3).toInt = 0 := (congrArg Int32.toInt (show f_15 36 3 = 0 from (by rw [ef_15, sg_up_s, sgu_n (by decide)]; exact (by rw [ef_14, sg_up_s, sgu_n (by decide)]; exact (by rw [ef_1, sg_up_s, sgu_s]))))).trans (by decide)
              refine sg_calli (va_runV (As := [.int 2, .int 2, .int x2, .int 0]) (rest := []) ⟨hx, hb, hml, hown, hts⟩ (kX3_does_2_2_0_f0_f2 l D ca za h hh f_15 L Q hI x2 (by rw [ef_15, sg_up_s, sgu_n (by decide)]; exact (by rw [ef_14, sg_up_s, sgu_n (by decide)]; exact (by rw [ef_1, sg_up_s, sgu_s]))) (Eq.trans (by rw [ef_15, sg_up_s, sgu_n (by decide)]; exact (by rw [ef_14, sg_up_s, sgu_s])) c_289) (by have k0 : (2 : Int32).toInt = 2 := (by decide); have k1 : (2 : Int32).toInt = 2 := (by decide); have k3 : (0 : Int32).toInt = 0 := (by decide); omega) H.size) (cwV 4 hts (gw_V (fun _ h => List.mem_cons_of_mem _ h) mw_318 mw_319 mw_320 mw_47 mw_317) rfl rfl rfl (by decide +kernel) ⟨Nat.le_of_ble_eq_true rfl, Nat.le_of_ble_eq_true rfl⟩) (sg_preV (ci := 3) (C := RX3) (T := TX3) (N := 6) hA hK hP hS hZ 36 (by decide) rfl rfl) rfl rfl hl.1 rfl (lv_room (Nat.le_of_ble_eq_true rfl)) dX3_acts_51 ⟨Nat.le_refl _, Nat.le_refl _⟩) hA hS (fun r_295 f_292 L_293 Q_294 H locs hq hP hS => ?_)
              obtain ⟨⟨hI, hk_f_292, eL9, eQ9⟩, hq, p_296⟩ := hq
              rw [eL9, eQ9] at hP; clear eL9 eQ9
              have hF : sgK WkX3_acts f f_292 := sgK.tr hF hk_f_292 (by decide)
              obtain ⟨v_297, ev_297⟩ : ∃ z : Int32, z = f_292 36 3 := ⟨_, rfl⟩
              have q_298 : 0 ≤ v_297.toInt ∧ v_297.toInt ≤ 19 := by rw [ev_297]; exact hI 36 3
              have q_299 : (f_292 36 3).toInt = v_297.toInt := (congrArg Int32.toInt (show f_292 36 3 = v_297 from ev_297.symm))
              have q_300 : (f_292 36 3).toInt = v_297.toInt := (congrArg Int32.toInt (show f_292 36 3 = v_297 from ev_297.symm))
              have k_301 : (2 : Int32).toInt = 2 := by decide
              have k_302 : (2 : Int32).toInt = 2 := by decide
              have k_303 : (0 : Int32).toInt = 0 := by decide
              exact hret _ _ _ _ (r_295) f_292 L Q dX3_acts_54 hP hS ⟨⟨hI, hF, rfl, rfl⟩, trivial⟩
            · skip
              have c_304 : v_12 = 3 := Int32.toInt_inj.mp (by have k9 : (3 : Int32).toInt = 3 := (by decide); omega)
              refine W.eq (g2 := F0 m 51 ls [.int 0, .int x2, .int 2, .int 3, .ref (h 36)]) (by rw [c_304]) ?_
              have q_305 : (f_15 36 3).toInt = 0 := (congrArg Int32.toInt (show f_15 36 3 = 0 from (by rw [ef_15, sg_up_s, sgu_n (by decide)]; exact (by rw [ef_14, sg_up_s, sgu_n (by decide)]; exact (by rw [ef_1, sg_up_s, sgu_s]))))).trans (by decide)
              have q_306 : (f_15 36 3).toInt = 0 := (congrArg Int32.toInt (show f_15 36 3 = 0 from (by rw [ef_15, sg_up_s, sgu_n (by decide)]; exact (by rw [ef_14, sg_up_s, sgu_n (by decide)]; exact (by rw [ef_1, sg_up_s, sgu_s]))))).trans (by decide)
              refine sg_calli (va_runV (As := [.int 3, .int 2, .int x2, .int 0]) (rest := []) ⟨hx, hb, hml, hown, hts⟩ (kX3_does_3_2_0_f0_f3 l D ca za h hh f_15 L Q hI x2 (by rw [ef_15, sg_up_s, sgu_n (by decide)]; exact (by rw [ef_14, sg_up_s, sgu_n (by decide)]; exact (by rw [ef_1, sg_up_s, sgu_s]))) (Eq.trans (by rw [ef_15, sg_up_s, sgu_n (by decide)]; exact (by rw [ef_14, sg_up_s, sgu_s])) c_304) (by have k0 : (3 : Int32).toInt = 3 := (by decide); have k1 : (2 : Int32).toInt = 2 := (by decide); have k3 : (0 : Int32).toInt = 0 := (by decide); omega) H.size) (cwV 4 hts (gw_V (fun _ h => List.mem_cons_of_mem _ h) mw_318 mw_319 mw_320 mw_47 mw_317) rfl rfl rfl (by decide +kernel) ⟨Nat.le_of_ble_eq_true rfl, Nat.le_of_ble_eq_true rfl⟩) (sg_preV (ci := 3) (C := RX3) (T := TX3) (N := 6) hA hK hP hS hZ 36 (by decide) rfl rfl) rfl rfl hl.1 rfl (lv_room (Nat.le_of_ble_eq_true rfl)) dX3_acts_51 ⟨Nat.le_refl _, Nat.le_refl _⟩) hA hS (fun r_310 f_307 L_308 Q_309 H locs hq hP hS => ?_)
              obtain ⟨⟨hI, hk_f_307, eL9, eQ9⟩, hq, p_311⟩ := hq
              rw [eL9, eQ9] at hP; clear eL9 eQ9
              have hF : sgK WkX3_acts f f_307 := sgK.tr hF hk_f_307 (by decide)
              obtain ⟨v_312, ev_312⟩ : ∃ z : Int32, z = f_307 36 3 := ⟨_, rfl⟩
              have q_313 : 0 ≤ v_312.toInt ∧ v_312.toInt ≤ 19 := by rw [ev_312]; exact hI 36 3
              have q_314 : (f_307 36 3).toInt = v_312.toInt := (congrArg Int32.toInt (show f_307 36 3 = v_312 from ev_312.symm))
              have q_315 : (f_307 36 3).toInt = v_312.toInt := (congrArg Int32.toInt (show f_307 36 3 = v_312 from ev_312.symm))
              have k_316 : (3 : Int32).toInt = 3 := by decide
              have k_317 : (2 : Int32).toInt = 2 := by decide
              have k_318 : (0 : Int32).toInt = 0 := by decide
              exact hret _ _ _ _ (r_310) f_307 L Q dX3_acts_54 hP hS ⟨⟨hI, hF, rfl, rfl⟩, trivial⟩
            · skip
              have c_319 : v_12 = 4 := Int32.toInt_inj.mp (by have k9 : (4 : Int32).toInt = 4 := (by decide); omega)
              refine W.eq (g2 := F0 m 51 ls [.int 0, .int x2, .int 2, .int 4, .ref (h 36)]) (by rw [c_319]) ?_
              have q_320 : (f_15 36 3).toInt = 0 := (congrArg Int32.toInt (show f_15 36 3 = 0 from (by rw [ef_15, sg_up_s, sgu_n (by decide)]; exact (by rw [ef_14, sg_up_s, sgu_n (by decide)]; exact (by rw [ef_1, sg_up_s, sgu_s]))))).trans (by decide)
              have q_321 : (f_15 36 3).toInt = 0 := (congrArg Int32.toInt (show f_15 36 3 = 0 from (by rw [ef_15, sg_up_s, sgu_n (by decide)]; exact (by rw [ef_14, sg_up_s, sgu_n (by decide)]; exact (by rw [ef_1, sg_up_s, sgu_s]))))).trans (by decide)
              refine sg_calli (va_runV (As := [.int 4, .int 2, .int x2, .int 0]) (rest := []) ⟨hx, hb, hml, hown, hts⟩ (kX3_does_4_2_0_f0_f4 l D ca za h hh f_15 L Q hI x2 (by rw [ef_15, sg_up_s, sgu_n (by decide)]; exact (by rw [ef_14, sg_up_s, sgu_n (by decide)]; exact (by rw [ef_1, sg_up_s, sgu_s]))) (Eq.trans (by rw [ef_15, sg_up_s, sgu_n (by decide)]; exact (by rw [ef_14, sg_up_s, sgu_s])) c_319) (by have k0 : (4 : Int32).toInt = 4 := (by decide); have k1 : (2 : Int32).toInt = 2 := (by decide); have k3 : (0 : Int32).toInt = 0 := (by decide); omega) H.size) (cwV 4 hts (gw_V (fun _ h => List.mem_cons_of_mem _ h) mw_318 mw_319 mw_320 mw_47 mw_317) rfl rfl rfl (by decide +kernel) ⟨Nat.le_of_ble_eq_true rfl, Nat.le_of_ble_eq_true rfl⟩) (sg_preV (ci := 3) (C := RX3) (T := TX3) (N := 6) hA hK hP hS hZ 36 (by decide) rfl rfl) rfl rfl hl.1 rfl (lv_room (Nat.le_of_ble_eq_true rfl)) dX3_acts_51 ⟨Nat.le_refl _, Nat.le_refl _⟩) hA hS (fun r_325 f_322 L_323 Q_324 H locs hq hP hS => ?_)
              obtain ⟨⟨hI, hk_f_322, eL9, eQ9⟩, hq, p_326⟩ := hq
              rw [eL9, eQ9] at hP; clear eL9 eQ9
              have hF : sgK WkX3_acts f f_322 := sgK.tr hF hk_f_322 (by decide)
              obtain ⟨v_327, ev_327⟩ : ∃ z : Int32, z = f_322 36 3 := ⟨_, rfl⟩
              have q_328 : 0 ≤ v_327.toInt ∧ v_327.toInt ≤ 19 := by rw [ev_327]; exact hI 36 3
              have q_329 : (f_322 36 3).toInt = v_327.toInt := (congrArg Int32.toInt (show f_322 36 3 = v_327 from ev_327.symm))
              have q_330 : (f_322 36 3).toInt = v_327.toInt := (congrArg Int32.toInt (show f_322 36 3 = v_327 from ev_327.symm))
              have k_331 : (4 : Int32).toInt = 4 := by decide
              have k_332 : (2 : Int32).toInt = 2 := by decide
              have k_333 : (0 : Int32).toInt = 0 := by decide
              exact hret _ _ _ _ (r_325) f_322 L Q dX3_acts_54 hP hS ⟨⟨hI, hF, rfl, rfl⟩, trivial⟩
            · skip
              have c_334 : v_12 = 5 := Int32.toInt_inj.mp (by have k9 : (5 : Int32).toInt = 5 := (by decide); omega)
              refine W.eq (g2 := F0 m 51 ls [.int 0, .int x2, .int 2, .int 5, .ref (h 36)]) (by rw [c_334]) ?_
              have q_335 : (f_15 36 3).toInt = 0 := (congrArg Int32.toInt (show f_15 36 3 = 0 from (by rw [ef_15, sg_up_s, sgu_n (by decide)]; exact (by rw [ef_14, sg_up_s, sgu_n (by decide)]; exact (by rw [ef_1, sg_up_s, sgu_s]))))).trans (by decide)
              have q_336 : (f_15 36 3).toInt = 0 := (congrArg Int32.toInt (show f_15 36 3 = 0 from (by rw [ef_15, sg_up_s, sgu_n (by decide)]; exact (by rw [ef_14, sg_up_s, sgu_n (by decide)]; exact (by rw [ef_1, sg_up_s, sgu_s]))))).trans (by decide)
              refine sg_calli (va_runV (As := [.int 5, .int 2, .int x2, .int 0]) (rest := []) ⟨hx, hb, hml, hown, hts⟩ (kX3_does_5_2_0_f0_f5 l D ca za h hh f_15 L Q hI x2 (by rw [ef_15, sg_up_s, sgu_n (by decide)]; exact (by rw [ef_14, sg_up_s, sgu_n (by decide)]; exact (by rw [ef_1, sg_up_s, sgu_s]))) (Eq.trans (by rw [ef_15, sg_up_s, sgu_n (by decide)]; exact (by rw [ef_14, sg_up_s, sgu_s])) c_334) (by have k0 : (5 : Int32).toInt = 5 := (by decide); have k1 : (2 : Int32).toInt = 2 := (by decide); have k3 : (0 : Int32).toInt = 0 := (by decide); omega) H.size) (cwV 4 hts (gw_V (fun _ h => List.mem_cons_of_mem _ h) mw_318 mw_319 mw_320 mw_47 mw_317) rfl rfl rfl (by decide +kernel) ⟨Nat.le_of_ble_eq_true rfl, Nat.le_of_ble_eq_true rfl⟩) (sg_preV (ci := 3) (C := RX3) (T := TX3) (N := 6) hA hK hP hS hZ 36 (by decide) rfl rfl) rfl rfl hl.1 rfl (lv_room (Nat.le_of_ble_eq_true rfl)) dX3_acts_51 ⟨Nat.le_refl _, Nat.le_refl _⟩) hA hS (fun r_340 f_337 L_338 Q_339 H locs hq hP hS => ?_)
              obtain ⟨⟨hI, hk_f_337, eL9, eQ9⟩, hq, p_341⟩ := hq
              rw [eL9, eQ9] at hP; clear eL9 eQ9
              have hF : sgK WkX3_acts f f_337 := sgK.tr hF hk_f_337 (by decide)
              obtain ⟨v_342, ev_342⟩ : ∃ z : Int32, z = f_337 36 3 := ⟨_, rfl⟩
              have q_343 : 0 ≤ v_342.toInt ∧ v_342.toInt ≤ 19 := by rw [ev_342]; exact hI 36 3
              have q_344 : (f_337 36 3).toInt = v_342.toInt := (congrArg Int32.toInt (show f_337 36 3 = v_342 from ev_342.symm))
              have q_345 : (f_337 36 3).toInt = v_342.toInt := (congrArg Int32.toInt (show f_337 36 3 = v_342 from ev_342.symm))
              have k_346 : (5 : Int32).toInt = 5 := by decide
              have k_347 : (2 : Int32).toInt = 2 := by decide
              have k_348 : (0 : Int32).toInt = 0 := by decide
              exact hret _ _ _ _ (r_340) f_337 L Q dX3_acts_54 hP hS ⟨⟨hI, hF, rfl, rfl⟩, trivial⟩
            · skip
              have c_349 : v_12 = 6 := Int32.toInt_inj.mp (by have k9 : (6 : Int32).toInt = 6 := (by decide); omega)
              refine W.eq (g2 := F0 m 51 ls [.int 0, .int x2, .int 2, .int 6, .ref (h 36)]) (by rw [c_349]) ?_
              have q_350 : (f_15 36 3).toInt = 0 := (congrArg Int32.toInt (show f_15 36 3 = 0 from (by rw [ef_15, sg_up_s, sgu_n (by decide)]; exact (by rw [ef_14, sg_up_s, sgu_n (by decide)]; exact (by rw [ef_1, sg_up_s, sgu_s]))))).trans (by decide)
              have q_351 : (f_15 36 3).toInt = 0 := (congrArg Int32.toInt (show f_15 36 3 = 0 from (by rw [ef_15, sg_up_s, sgu_n (by decide)]; exact (by rw [ef_14, sg_up_s, sgu_n (by decide)]; exact (by rw [ef_1, sg_up_s, sgu_s]))))).trans (by decide)
              refine sg_calli (va_runV (As := [.int 6, .int 2, .int x2, .int 0]) (rest := []) ⟨hx, hb, hml, hown, hts⟩ (kX3_does_6_2_0_f0_f6 l D ca za h hh f_15 L Q hI x2 (by rw [ef_15, sg_up_s, sgu_n (by decide)]; exact (by rw [ef_14, sg_up_s, sgu_n (by decide)]; exact (by rw [ef_1, sg_up_s, sgu_s]))) (Eq.trans (by rw [ef_15, sg_up_s, sgu_n (by decide)]; exact (by rw [ef_14, sg_up_s, sgu_s])) c_349) (by have k0 : (6 : Int32).toInt = 6 := (by decide); have k1 : (2 : Int32).toInt = 2 := (by decide); have k3 : (0 : Int32).toInt = 0 := (by decide); omega) H.size) (cwV 4 hts (gw_V (fun _ h => List.mem_cons_of_mem _ h) mw_318 mw_319 mw_320 mw_47 mw_317) rfl rfl rfl (by decide +kernel) ⟨Nat.le_of_ble_eq_true rfl, Nat.le_of_ble_eq_true rfl⟩) (sg_preV (ci := 3) (C := RX3) (T := TX3) (N := 6) hA hK hP hS hZ 36 (by decide) rfl rfl) rfl rfl hl.1 rfl (lv_room (Nat.le_of_ble_eq_true rfl)) dX3_acts_51 ⟨Nat.le_refl _, Nat.le_refl _⟩) hA hS (fun r_355 f_352 L_353 Q_354 H locs hq hP hS => ?_)
              obtain ⟨⟨hI, hk_f_352, eL9, eQ9⟩, hq, p_356⟩ := hq
              rw [eL9, eQ9] at hP; clear eL9 eQ9
              have hF : sgK WkX3_acts f f_352 := sgK.tr hF hk_f_352 (by decide)
              obtain ⟨v_357, ev_357⟩ : ∃ z : Int32, z = f_352 36 3 := ⟨_, rfl⟩
              have q_358 : 0 ≤ v_357.toInt ∧ v_357.toInt ≤ 19 := by rw [ev_357]; exact hI 36 3
              have q_359 : (f_352 36 3).toInt = v_357.toInt := (congrArg Int32.toInt (show f_352 36 3 = v_357 from ev_357.symm))
              have q_360 : (f_352 36 3).toInt = v_357.toInt := (congrArg Int32.toInt (show f_352 36 3 = v_357 from ev_357.symm))
              have k_361 : (6 : Int32).toInt = 6 := by decide
              have k_362 : (2 : Int32).toInt = 2 := by decide
              have k_363 : (0 : Int32).toInt = 0 := by decide
              exact hret _ _ _ _ (r_355) f_352 L Q dX3_acts_54 hP hS ⟨⟨hI, hF, rfl, rfl⟩, trivial⟩
            · skip
              have c_364 : v_12 = 7 := Int32.toInt_inj.mp (by have k9 : (7 : Int32).toInt = 7 := (by decide); omega)
              refine W.eq (g2 := F0 m 51 ls [.int 0, .int x2, .int 2, .int 7, .ref (h 36)]) (by rw [c_364]) ?_
              have q_365 : (f_15 36 3).toInt = 0 := (congrArg Int32.toInt (show f_15 36 3 = 0 from (by rw [ef_15, sg_up_s, sgu_n (by decide)]; exact (by rw [ef_14, sg_up_s, sgu_n (by decide)]; exact (by rw [ef_1, sg_up_s, sgu_s]))))).trans (by decide)
              have q_366 : (f_15 36 3).toInt = 0 := (congrArg Int32.toInt (show f_15 36 3 = 0 from (by rw [ef_15, sg_up_s, sgu_n (by decide)]; exact (by rw [ef_14, sg_up_s, sgu_n (by decide)]; exact (by rw [ef_1, sg_up_s, sgu_s]))))).trans (by decide)
              refine sg_calli (va_runV (As := [.int 7, .int 2, .int x2, .int 0]) (rest := []) ⟨hx, hb, hml, hown, hts⟩ (kX3_does_7_2_0_f0_f7 l D ca za h hh f_15 L Q hI x2 (by rw [ef_15, sg_up_s, sgu_n (by decide)]; exact (by rw [ef_14, sg_up_s, sgu_n (by decide)]; exact (by rw [ef_1, sg_up_s, sgu_s]))) (Eq.trans (by rw [ef_15, sg_up_s, sgu_n (by decide)]; exact (by rw [ef_14, sg_up_s, sgu_s])) c_364) (by have k0 : (7 : Int32).toInt = 7 := (by decide); have k1 : (2 : Int32).toInt = 2 := (by decide); have k3 : (0 : Int32).toInt = 0 := (by decide); omega) H.size) (cwV 4 hts (gw_V (fun _ h => List.mem_cons_of_mem _ h) mw_318 mw_319 mw_320 mw_47 mw_317) rfl rfl rfl (by decide +kernel) ⟨Nat.le_of_ble_eq_true rfl, Nat.le_of_ble_eq_true rfl⟩) (sg_preV (ci := 3) (C := RX3) (T := TX3) (N := 6) hA hK hP hS hZ 36 (by decide) rfl rfl) rfl rfl hl.1 rfl (lv_room (Nat.le_of_ble_eq_true rfl)) dX3_acts_51 ⟨Nat.le_refl _, Nat.le_refl _⟩) hA hS (fun r_370 f_367 L_368 Q_369 H locs hq hP hS => ?_)
              obtain ⟨⟨hI, hk_f_367, eL9, eQ9⟩, hq, p_371⟩ := hq
              rw [eL9, eQ9] at hP; clear eL9 eQ9
              have hF : sgK WkX3_acts f f_367 := sgK.tr hF hk_f_367 (by decide)
              obtain ⟨v_372, ev_372⟩ : ∃ z : Int32, z = f_367 36 3 := ⟨_, rfl⟩
              have q_373 : 0 ≤ v_372.toInt ∧ v_372.toInt ≤ 19 := by rw [ev_372]; exact hI 36 3
              have q_374 : (f_367 36 3).toInt = v_372.toInt := (congrArg Int32.toInt (show f_367 36 3 = v_372 from ev_372.symm))
              have q_375 : (f_367 36 3).toInt = v_372.toInt := (congrArg Int32.toInt (show f_367 36 3 = v_372 from ev_372.symm))
              have k_376 : (7 : Int32).toInt = 7 := by decide
              have k_377 : (2 : Int32).toInt = 2 := by decide
              have k_378 : (0 : Int32).toInt = 0 := by decide
              exact hret _ _ _ _ (r_370) f_367 L Q dX3_acts_54 hP hS ⟨⟨hI, hF, rfl, rfl⟩, trivial⟩
          · skip
            have c_379 : x1 = 3 := Int32.toInt_inj.mp (by have k9 : (3 : Int32).toInt = 3 := (by decide); omega)
            refine W.eq (g2 := F0 m 51 ls [.int 0, .int x2, .int 3, .int v_12, .ref (h 36)]) (by rw [c_379]) ?_
            rcases (show v_12.toInt = 0 ∨ v_12.toInt = 1 ∨ v_12.toInt = 2 ∨ v_12.toInt = 3 ∨ v_12.toInt = 4 ∨ v_12.toInt = 5 ∨ v_12.toInt = 6 ∨ v_12.toInt = 7 from by omega) with c | c | c | c | c | c | c | c
            · skip
              have c_380 : v_12 = 0 := Int32.toInt_inj.mp (by have k9 : (0 : Int32).toInt = 0 := (by decide); omega)
              refine W.eq (g2 := F0 m 51 ls [.int 0, .int x2, .int 3, .int 0, .ref (h 36)]) (by rw [c_380]) ?_
              have q_381 : (f_15 36 3).toInt = 0 := (congrArg Int32.toInt (show f_15 36 3 = 0 from (by rw [ef_15, sg_up_s, sgu_n (by decide)]; exact (by rw [ef_14, sg_up_s, sgu_n (by decide)]; exact (by rw [ef_1, sg_up_s, sgu_s]))))).trans (by decide)
              have q_382 : (f_15 36 3).toInt = 0 := (congrArg Int32.toInt (show f_15 36 3 = 0 from (by rw [ef_15, sg_up_s, sgu_n (by decide)]; exact (by rw [ef_14, sg_up_s, sgu_n (by decide)]; exact (by rw [ef_1, sg_up_s, sgu_s]))))).trans (by decide)
              refine sg_calli (va_runV (As := [.int 0, .int 3, .int x2, .int 0]) (rest := []) ⟨hx, hb, hml, hown, hts⟩ (kX3_does_0_3_0_f0_f0 l D ca za h hh f_15 L Q hI x2 (by rw [ef_15, sg_up_s, sgu_n (by decide)]; exact (by rw [ef_14, sg_up_s, sgu_n (by decide)]; exact (by rw [ef_1, sg_up_s, sgu_s]))) (Eq.trans (by rw [ef_15, sg_up_s, sgu_n (by decide)]; exact (by rw [ef_14, sg_up_s, sgu_s])) c_380) (by have k0 : (0 : Int32).toInt = 0 := (by decide); have k1 : (3 : Int32).toInt = 3 := (by decide); have k3 : (0 : Int32).toInt = 0 := (by decide); omega) H.size) (cwV 4 hts (gw_V (fun _ h => List.mem_cons_of_mem _ h) mw_318 mw_319 mw_320 mw_47 mw_317) rfl rfl rfl (by decide +kernel) ⟨Nat.le_of_ble_eq_true rfl, Nat.le_of_ble_eq_true rfl⟩) (sg_preV (ci := 3) (C := RX3) (T := TX3) (N := 6) hA hK hP hS hZ 36 (by decide) rfl rfl) rfl rfl hl.1 rfl (lv_room (Nat.le_of_ble_eq_true rfl)) dX3_acts_51 ⟨Nat.le_refl _, Nat.le_refl _⟩) hA hS (fun r_386 f_383 L_384 Q_385 H locs hq hP hS => ?_)
              obtain ⟨⟨hI, hk_f_383, eL9, eQ9⟩, hq, p_387⟩ := hq
              rw [eL9, eQ9] at hP; clear eL9 eQ9
              have hF : sgK WkX3_acts f f_383 := sgK.tr hF hk_f_383 (by decide)
              obtain ⟨v_388, ev_388⟩ : ∃ z : Int32, z = f_383 36 3 := ⟨_, rfl⟩
              have q_389 : 0 ≤ v_388.toInt ∧ v_388.toInt ≤ 19 := by rw [ev_388]; exact hI 36 3
              have q_390 : (f_383 36 3).toInt = v_388.toInt := (congrArg Int32.toInt (show f_383 36 3 = v_388 from ev_388.symm))
              have q_391 : (f_383 36 3).toInt = v_388.toInt := (congrArg Int32.toInt (show f_383 36 3 = v_388 from ev_388.symm))
              have k_392 : (0 : Int32).toInt = 0 := by decide
              have k_393 : (3 : Int32).toInt = 3 := by decide
              have k_394 : (0 : Int32).toInt = 0 := by decide
              exact hret _ _ _ _ (r_386) f_383 L Q dX3_acts_54 hP hS ⟨⟨hI, hF, rfl, rfl⟩, trivial⟩
            · skip
              have c_395 : v_12 = 1 := Int32.toInt_inj.mp (by have k9 : (1 : Int32).toInt = 1 := (by decide); omega)
              refine W.eq (g2 := F0 m 51 ls [.int 0, .int x2, .int 3, .int 1, .ref (h 36)]) (by rw [c_395]) ?_
              have q_396 : (f_15 36 3).toInt = 0 := (congrArg Int32.toInt (show f_15 36 3 = 0 from (by rw [ef_15, sg_up_s, sgu_n (by decide)]; exact (by rw [ef_14, sg_up_s, sgu_n (by decide)]; exact (by rw [ef_1, sg_up_s, sgu_s]))))).trans (by decide)
              have q_397 : (f_15 36 3).toInt = 0 := (congrArg Int32.toInt (show f_15 36 3 = 0 from (by rw [ef_15, sg_up_s, sgu_n (by decide)]; exact (by rw [ef_14, sg_up_s, sgu_n (by decide)]; exact (by rw [ef_1, sg_up_s, sgu_s]))))).trans (by decide)
              refine sg_calli (va_runV (As := [.int 1, .int 3, .int x2, .int 0]) (rest := []) ⟨hx, hb, hml, hown, hts⟩ (kX3_does_1_3_0_f0_f1 l D ca za h hh f_15 L Q hI x2 (by rw [ef_15, sg_up_s, sgu_n (by decide)]; exact (by rw [ef_14, sg_up_s, sgu_n (by decide)]; exact (by rw [ef_1, sg_up_s, sgu_s]))) (Eq.trans (by rw [ef_15, sg_up_s, sgu_n (by decide)]; exact (by rw [ef_14, sg_up_s, sgu_s])) c_395) (by have k0 : (1 : Int32).toInt = 1 := (by decide); have k1 : (3 : Int32).toInt = 3 := (by decide); have k3 : (0 : Int32).toInt = 0 := (by decide); omega) H.size) (cwV 4 hts (gw_V (fun _ h => List.mem_cons_of_mem _ h) mw_318 mw_319 mw_320 mw_47 mw_317) rfl rfl rfl (by decide +kernel) ⟨Nat.le_of_ble_eq_true rfl, Nat.le_of_ble_eq_true rfl⟩) (sg_preV (ci := 3) (C := RX3) (T := TX3) (N := 6) hA hK hP hS hZ 36 (by decide) rfl rfl) rfl rfl hl.1 rfl (lv_room (Nat.le_of_ble_eq_true rfl)) dX3_acts_51 ⟨Nat.le_refl _, Nat.le_refl _⟩) hA hS (fun r_401 f_398 L_399 Q_400 H locs hq hP hS => ?_)
              obtain ⟨⟨hI, hk_f_398, eL9, eQ9⟩, hq, p_402⟩ := hq
              rw [eL9, eQ9] at hP; clear eL9 eQ9
              have hF : sgK WkX3_acts f f_398 := sgK.tr hF hk_f_398 (by decide)
              obtain ⟨v_403, ev_403⟩ : ∃ z : Int32, z = f_398 36 3 := ⟨_, rfl⟩
              have q_404 : 0 ≤ v_403.toInt ∧ v_403.toInt ≤ 19 := by rw [ev_403]; exact hI 36 3
              have q_405 : (f_398 36 3).toInt = v_403.toInt := (congrArg Int32.toInt (show f_398 36 3 = v_403 from ev_403.symm))
              have q_406 : (f_398 36 3).toInt = v_403.toInt := (congrArg Int32.toInt (show f_398 36 3 = v_403 from ev_403.symm))
              have k_407 : (1 : Int32).toInt = 1 := by decide
              have k_408 : (3 : Int32).toInt = 3 := by decide
              have k_409 : (0 : Int32).toInt = 0 := by decide
              exact hret _ _ _ _ (r_401) f_398 L Q dX3_acts_54 hP hS ⟨⟨hI, hF, rfl, rfl⟩, trivial⟩
            · skip
              have c_410 : v_12 = 2 := Int32.toInt_inj.mp (by have k9 : (2 : Int32).toInt = 2 := (by decide); omega)
              refine W.eq (g2 := F0 m 51 ls [.int 0, .int x2, .int 3, .int 2, .ref (h 36)]) (by rw [c_410]) ?_
              have q_411 : (f_15 36 3).toInt = 0 := (congrArg Int32.toInt (show f_15 36 3 = 0 from (by rw [ef_15, sg_up_s, sgu_n (by decide)]; exact (by rw [ef_14, sg_up_s, sgu_n (by decide)]; exact (by rw [ef_1, sg_up_s, sgu_s]))))).trans (by decide)
              have q_412 : (f_15 36 3).toInt = 0 := (congrArg Int32.toInt (show f_15 36 3 = 0 from (by rw [ef_15, sg_up_s, sgu_n (by decide)]; exact (by rw [ef_14, sg_up_s, sgu_n (by decide)]; exact (by rw [ef_1, sg_up_s, sgu_s]))))).trans (by decide)
              refine sg_calli (va_runV (As := [.int 2, .int 3, .int x2, .int 0]) (rest := []) ⟨hx, hb, hml, hown, hts⟩ (kX3_does_2_3_0_f0_f2 l D ca za h hh f_15 L Q hI x2 (by rw [ef_15, sg_up_s, sgu_n (by decide)]; exact (by rw [ef_14, sg_up_s, sgu_n (by decide)]; exact (by rw [ef_1, sg_up_s, sgu_s]))) (Eq.trans (by rw [ef_15, sg_up_s, sgu_n (by decide)]; exact (by rw [ef_14, sg_up_s, sgu_s])) c_410) (by have k0 : (2 : Int32).toInt = 2 := (by decide); have k1 : (3 : Int32).toInt = 3 := (by decide); have k3 : (0 : Int32).toInt = 0 := (by decide); omega) H.size) (cwV 4 hts (gw_V (fun _ h => List.mem_cons_of_mem _ h) mw_318 mw_319 mw_320 mw_47 mw_317) rfl rfl rfl (by decide +kernel) ⟨Nat.le_of_ble_eq_true rfl, Nat.le_of_ble_eq_true rfl⟩) (sg_preV (ci := 3) (C := RX3) (T := TX3) (N := 6) hA hK hP hS hZ 36 (by decide) rfl rfl) rfl rfl hl.1 rfl (lv_room (Nat.le_of_ble_eq_true rfl)) dX3_acts_51 ⟨Nat.le_refl _, Nat.le_refl _⟩) hA hS (fun r_416 f_413 L_414 Q_415 H locs hq hP hS => ?_)
              obtain ⟨⟨hI, hk_f_413, eL9, eQ9⟩, hq, p_417⟩ := hq
              rw [eL9, eQ9] at hP; clear eL9 eQ9
              have hF : sgK WkX3_acts f f_413 := sgK.tr hF hk_f_413 (by decide)
              obtain ⟨v_418, ev_418⟩ : ∃ z : Int32, z = f_413 36 3 := ⟨_, rfl⟩
              have q_419 : 0 ≤ v_418.toInt ∧ v_418.toInt ≤ 19 := by rw [ev_418]; exact hI 36 3
              have q_420 : (f_413 36 3).toInt = v_418.toInt := (congrArg Int32.toInt (show f_413 36 3 = v_418 from ev_418.symm))
              have q_421 : (f_413 36 3).toInt = v_418.toInt := (congrArg Int32.toInt (show f_413 36 3 = v_418 from ev_418.symm))
              have k_422 : (2 : Int32).toInt = 2 := by decide
              have k_423 : (3 : Int32).toInt = 3 := by decide
              have k_424 : (0 : Int32).toInt = 0 := by decide
              exact hret _ _ _ _ (r_416) f_413 L Q dX3_acts_54 hP hS ⟨⟨hI, hF, rfl, rfl⟩, trivial⟩
            · skip
              have c_425 : v_12 = 3 := Int32.toInt_inj.mp (by have k9 : (3 : Int32).toInt = 3 := (by decide); omega)
              refine W.eq (g2 := F0 m 51 ls [.int 0, .int x2, .int 3, .int 3, .ref (h 36)]) (by rw [c_425]) ?_
              have q_426 : (f_15 36 3).toInt = 0 := (congrArg Int32.toInt (show f_15 36 3 = 0 from (by rw [ef_15, sg_up_s, sgu_n (by decide)]; exact (by rw [ef_14, sg_up_s, sgu_n (by decide)]; exact (by rw [ef_1, sg_up_s, sgu_s]))))).trans (by decide)
              have q_427 : (f_15 36 3).toInt = 0 := (congrArg Int32.toInt (show f_15 36 3 = 0 from (by rw [ef_15, sg_up_s, sgu_n (by decide)]; exact (by rw [ef_14, sg_up_s, sgu_n (by decide)]; exact (by rw [ef_1, sg_up_s, sgu_s]))))).trans (by decide)
              refine sg_calli (va_runV (As := [.int 3, .int 3, .int x2, .int 0]) (rest := []) ⟨hx, hb, hml, hown, hts⟩ (kX3_does_3_3_0_f0_f3 l D ca za h hh f_15 L Q hI x2 (by rw [ef_15, sg_up_s, sgu_n (by decide)]; exact (by rw [ef_14, sg_up_s, sgu_n (by decide)]; exact (by rw [ef_1, sg_up_s, sgu_s]))) (Eq.trans (by rw [ef_15, sg_up_s, sgu_n (by decide)]; exact (by rw [ef_14, sg_up_s, sgu_s])) c_425) (by have k0 : (3 : Int32).toInt = 3 := (by decide); have k1 : (3 : Int32).toInt = 3 := (by decide); have k3 : (0 : Int32).toInt = 0 := (by decide); omega) H.size) (cwV 4 hts (gw_V (fun _ h => List.mem_cons_of_mem _ h) mw_318 mw_319 mw_320 mw_47 mw_317) rfl rfl rfl (by decide +kernel) ⟨Nat.le_of_ble_eq_true rfl, Nat.le_of_ble_eq_true rfl⟩) (sg_preV (ci := 3) (C := RX3) (T := TX3) (N := 6) hA hK hP hS hZ 36 (by decide) rfl rfl) rfl rfl hl.1 rfl (lv_room (Nat.le_of_ble_eq_true rfl)) dX3_acts_51 ⟨Nat.le_refl _, Nat.le_refl _⟩) hA hS (fun r_431 f_428 L_429 Q_430 H locs hq hP hS => ?_)
              obtain ⟨⟨hI, hk_f_428, eL9, eQ9⟩, hq, p_432⟩ := hq
              rw [eL9, eQ9] at hP; clear eL9 eQ9
              have hF : sgK WkX3_acts f f_428 := sgK.tr hF hk_f_428 (by decide)
              obtain ⟨v_433, ev_433⟩ : ∃ z : Int32, z = f_428 36 3 := ⟨_, rfl⟩
              have q_434 : 0 ≤ v_433.toInt ∧ v_433.toInt ≤ 19 := by rw [ev_433]; exact hI 36 3
              have q_435 : (f_428 36 3).toInt = v_433.toInt := (congrArg Int32.toInt (show f_428 36 3 = v_433 from ev_433.symm))
              have q_436 : (f_428 36 3).toInt = v_433.toInt := (congrArg Int32.toInt (show f_428 36 3 = v_433 from ev_433.symm))
              have k_437 : (3 : Int32).toInt = 3 := by decide
              have k_438 : (3 : Int32).toInt = 3 := by decide
              have k_439 : (0 : Int32).toInt = 0 := by decide
              exact hret _ _ _ _ (r_431) f_428 L Q dX3_acts_54 hP hS ⟨⟨hI, hF, rfl, rfl⟩, trivial⟩
            · skip
              have c_440 : v_12 = 4 := Int32.toInt_inj.mp (by have k9 : (4 : Int32).toInt = 4 := (by decide); omega)
              refine W.eq (g2 := F0 m 51 ls [.int 0, .int x2, .int 3, .int 4, .ref (h 36)]) (by rw [c_440]) ?_
              have q_441 : (f_15 36 3).toInt = 0 := (congrArg Int32.toInt (show f_15 36 3 = 0 from (by rw [ef_15, sg_up_s, sgu_n (by decide)]; exact (by rw [ef_14, sg_up_s, sgu_n (by decide)]; exact (by rw [ef_1, sg_up_s, sgu_s]))))).trans (by decide)
              have q_442 : (f_15 36 3).toInt = 0 := (congrArg Int32.toInt (show f_15 36 3 = 0 from (by rw [ef_15, sg_up_s, sgu_n (by decide)]; exact (by rw [ef_14, sg_up_s, sgu_n (by decide)]; exact (by rw [ef_1, sg_up_s, sgu_s]))))).trans (by decide)
              refine sg_calli (va_runV (As := [.int 4, .int 3, .int x2, .int 0]) (rest := []) ⟨hx, hb, hml, hown, hts⟩ (kX3_does_4_3_0_f0_f4 l D ca za h hh f_15 L Q hI x2 (by rw [ef_15, sg_up_s, sgu_n (by decide)]; exact (by rw [ef_14, sg_up_s, sgu_n (by decide)]; exact (by rw [ef_1, sg_up_s, sgu_s]))) (Eq.trans (by rw [ef_15, sg_up_s, sgu_n (by decide)]; exact (by rw [ef_14, sg_up_s, sgu_s])) c_440) (by have k0 : (4 : Int32).toInt = 4 := (by decide); have k1 : (3 : Int32).toInt = 3 := (by decide); have k3 : (0 : Int32).toInt = 0 := (by decide); omega) H.size) (cwV 4 hts (gw_V (fun _ h => List.mem_cons_of_mem _ h) mw_318 mw_319 mw_320 mw_47 mw_317) rfl rfl rfl (by decide +kernel) ⟨Nat.le_of_ble_eq_true rfl, Nat.le_of_ble_eq_true rfl⟩) (sg_preV (ci := 3) (C := RX3) (T := TX3) (N := 6) hA hK hP hS hZ 36 (by decide) rfl rfl) rfl rfl hl.1 rfl (lv_room (Nat.le_of_ble_eq_true rfl)) dX3_acts_51 ⟨Nat.le_refl _, Nat.le_refl _⟩) hA hS (fun r_446 f_443 L_444 Q_445 H locs hq hP hS => ?_)
              obtain ⟨⟨hI, hk_f_443, eL9, eQ9⟩, hq, p_447⟩ := hq
              rw [eL9, eQ9] at hP; clear eL9 eQ9
              have hF : sgK WkX3_acts f f_443 := sgK.tr hF hk_f_443 (by decide)
              obtain ⟨v_448, ev_448⟩ : ∃ z : Int32, z = f_443 36 3 := ⟨_, rfl⟩
              have q_449 : 0 ≤ v_448.toInt ∧ v_448.toInt ≤ 19 := by rw [ev_448]; exact hI 36 3
              have q_450 : (f_443 36 3).toInt = v_448.toInt := (congrArg Int32.toInt (show f_443 36 3 = v_448 from ev_448.symm))
              have q_451 : (f_443 36 3).toInt = v_448.toInt := (congrArg Int32.toInt (show f_443 36 3 = v_448 from ev_448.symm))
              have k_452 : (4 : Int32).toInt = 4 := by decide
              have k_453 : (3 : Int32).toInt = 3 := by decide
              have k_454 : (0 : Int32).toInt = 0 := by decide
              exact hret _ _ _ _ (r_446) f_443 L Q dX3_acts_54 hP hS ⟨⟨hI, hF, rfl, rfl⟩, trivial⟩
            · skip
              have c_455 : v_12 = 5 := Int32.toInt_inj.mp (by have k9 : (5 : Int32).toInt = 5 := (by decide); omega)
              refine W.eq (g2 := F0 m 51 ls [.int 0, .int x2, .int 3, .int 5, .ref (h 36)]) (by rw [c_455]) ?_
              have q_456 : (f_15 36 3).toInt = 0 := (congrArg Int32.toInt (show f_15 36 3 = 0 from (by rw [ef_15, sg_up_s, sgu_n (by decide)]; exact (by rw [ef_14, sg_up_s, sgu_n (by decide)]; exact (by rw [ef_1, sg_up_s, sgu_s]))))).trans (by decide)
              have q_457 : (f_15 36 3).toInt = 0 := (congrArg Int32.toInt (show f_15 36 3 = 0 from (by rw [ef_15, sg_up_s, sgu_n (by decide)]; exact (by rw [ef_14, sg_up_s, sgu_n (by decide)]; exact (by rw [ef_1, sg_up_s, sgu_s]))))).trans (by decide)
              refine sg_calli (va_runV (As := [.int 5, .int 3, .int x2, .int 0]) (rest := []) ⟨hx, hb, hml, hown, hts⟩ (kX3_does_5_3_0_f0_f5 l D ca za h hh f_15 L Q hI x2 (by rw [ef_15, sg_up_s, sgu_n (by decide)]; exact (by rw [ef_14, sg_up_s, sgu_n (by decide)]; exact (by rw [ef_1, sg_up_s, sgu_s]))) (Eq.trans (by rw [ef_15, sg_up_s, sgu_n (by decide)]; exact (by rw [ef_14, sg_up_s, sgu_s])) c_455) (by have k0 : (5 : Int32).toInt = 5 := (by decide); have k1 : (3 : Int32).toInt = 3 := (by decide); have k3 : (0 : Int32).toInt = 0 := (by decide); omega) H.size) (cwV 4 hts (gw_V (fun _ h => List.mem_cons_of_mem _ h) mw_318 mw_319 mw_320 mw_47 mw_317) rfl rfl rfl (by decide +kernel) ⟨Nat.le_of_ble_eq_true rfl, Nat.le_of_ble_eq_true rfl⟩) (sg_preV (ci := 3) (C := RX3) (T := TX3) (N := 6) hA hK hP hS hZ 36 (by decide) rfl rfl) rfl rfl hl.1 rfl (lv_room (Nat.le_of_ble_eq_true rfl)) dX3_acts_51 ⟨Nat.le_refl _, Nat.le_refl _⟩) hA hS (fun r_461 f_458 L_459 Q_460 H locs hq hP hS => ?_)
              obtain ⟨⟨hI, hk_f_458, eL9, eQ9⟩, hq, p_462⟩ := hq
              rw [eL9, eQ9] at hP; clear eL9 eQ9
              have hF : sgK WkX3_acts f f_458 := sgK.tr hF hk_f_458 (by decide)
              obtain ⟨v_463, ev_463⟩ : ∃ z : Int32, z = f_458 36 3 := ⟨_, rfl⟩
              have q_464 : 0 ≤ v_463.toInt ∧ v_463.toInt ≤ 19 := by rw [ev_463]; exact hI 36 3
              have q_465 : (f_458 36 3).toInt = v_463.toInt := (congrArg Int32.toInt (show f_458 36 3 = v_463 from ev_463.symm))
              have q_466 : (f_458 36 3).toInt = v_463.toInt := (congrArg Int32.toInt (show f_458 36 3 = v_463 from ev_463.symm))
              have k_467 : (5 : Int32).toInt = 5 := by decide
              have k_468 : (3 : Int32).toInt = 3 := by decide
              have k_469 : (0 : Int32).toInt = 0 := by decide
              exact hret _ _ _ _ (r_461) f_458 L Q dX3_acts_54 hP hS ⟨⟨hI, hF, rfl, rfl⟩, trivial⟩
            · skip
              have c_470 : v_12 = 6 := Int32.toInt_inj.mp (by have k9 : (6 : Int32).toInt = 6 := (by decide); omega)
              refine W.eq (g2 := F0 m 51 ls [.int 0, .int x2, .int 3, .int 6, .ref (h 36)]) (by rw [c_470]) ?_
              have q_471 : (f_15 36 3).toInt = 0 := (congrArg Int32.toInt (show f_15 36 3 = 0 from (by rw [ef_15, sg_up_s, sgu_n (by decide)]; exact (by rw [ef_14, sg_up_s, sgu_n (by decide)]; exact (by rw [ef_1, sg_up_s, sgu_s]))))).trans (by decide)
              have q_472 : (f_15 36 3).toInt = 0 := (congrArg Int32.toInt (show f_15 36 3 = 0 from (by rw [ef_15, sg_up_s, sgu_n (by decide)]; exact (by rw [ef_14, sg_up_s, sgu_n (by decide)]; exact (by rw [ef_1, sg_up_s, sgu_s]))))).trans (by decide)
              refine sg_calli (va_runV (As := [.int 6, .int 3, .int x2, .int 0]) (rest := []) ⟨hx, hb, hml, hown, hts⟩ (kX3_does_6_3_0_f0_f6 l D ca za h hh f_15 L Q hI x2 (by rw [ef_15, sg_up_s, sgu_n (by decide)]; exact (by rw [ef_14, sg_up_s, sgu_n (by decide)]; exact (by rw [ef_1, sg_up_s, sgu_s]))) (Eq.trans (by rw [ef_15, sg_up_s, sgu_n (by decide)]; exact (by rw [ef_14, sg_up_s, sgu_s])) c_470) (by have k0 : (6 : Int32).toInt = 6 := (by decide); have k1 : (3 : Int32).toInt = 3 := (by decide); have k3 : (0 : Int32).toInt = 0 := (by decide); omega) H.size) (cwV 4 hts (gw_V (fun _ h => List.mem_cons_of_mem _ h) mw_318 mw_319 mw_320 mw_47 mw_317) rfl rfl rfl (by decide +kernel) ⟨Nat.le_of_ble_eq_true rfl, Nat.le_of_ble_eq_true rfl⟩) (sg_preV (ci := 3) (C := RX3) (T := TX3) (N := 6) hA hK hP hS hZ 36 (by decide) rfl rfl) rfl rfl hl.1 rfl (lv_room (Nat.le_of_ble_eq_true rfl)) dX3_acts_51 ⟨Nat.le_refl _, Nat.le_refl _⟩) hA hS (fun r_476 f_473 L_474 Q_475 H locs hq hP hS => ?_)
              obtain ⟨⟨hI, hk_f_473, eL9, eQ9⟩, hq, p_477⟩ := hq
              rw [eL9, eQ9] at hP; clear eL9 eQ9
              have hF : sgK WkX3_acts f f_473 := sgK.tr hF hk_f_473 (by decide)
              obtain ⟨v_478, ev_478⟩ : ∃ z : Int32, z = f_473 36 3 := ⟨_, rfl⟩
              have q_479 : 0 ≤ v_478.toInt ∧ v_478.toInt ≤ 19 := by rw [ev_478]; exact hI 36 3
              have q_480 : (f_473 36 3).toInt = v_478.toInt := (congrArg Int32.toInt (show f_473 36 3 = v_478 from ev_478.symm))
              have q_481 : (f_473 36 3).toInt = v_478.toInt := (congrArg Int32.toInt (show f_473 36 3 = v_478 from ev_478.symm))
              have k_482 : (6 : Int32).toInt = 6 := by decide
              have k_483 : (3 : Int32).toInt = 3 := by decide
              have k_484 : (0 : Int32).toInt = 0 := by decide
              exact hret _ _ _ _ (r_476) f_473 L Q dX3_acts_54 hP hS ⟨⟨hI, hF, rfl, rfl⟩, trivial⟩
            · skip
              have c_485 : v_12 = 7 := Int32.toInt_inj.mp (by have k9 : (7 : Int32).toInt = 7 := (by decide); omega)
              refine W.eq (g2 := F0 m 51 ls [.int 0, .int x2, .int 3, .int 7, .ref (h 36)]) (by rw [c_485]) ?_
              have q_486 : (f_15 36 3).toInt = 0 := (congrArg Int32.toInt (show f_15 36 3 = 0 from (by rw [ef_15, sg_up_s, sgu_n (by decide)]; exact (by rw [ef_14, sg_up_s, sgu_n (by decide)]; exact (by rw [ef_1, sg_up_s, sgu_s]))))).trans (by decide)
              have q_487 : (f_15 36 3).toInt = 0 := (congrArg Int32.toInt (show f_15 36 3 = 0 from (by rw [ef_15, sg_up_s, sgu_n (by decide)]; exact (by rw [ef_14, sg_up_s, sgu_n (by decide)]; exact (by rw [ef_1, sg_up_s, sgu_s]))))).trans (by decide)
              refine sg_calli (va_runV (As := [.int 7, .int 3, .int x2, .int 0]) (rest := []) ⟨hx, hb, hml, hown, hts⟩ (kX3_does_7_3_0_f0_f7 l D ca za h hh f_15 L Q hI x2 (by rw [ef_15, sg_up_s, sgu_n (by decide)]; exact (by rw [ef_14, sg_up_s, sgu_n (by decide)]; exact (by rw [ef_1, sg_up_s, sgu_s]))) (Eq.trans (by rw [ef_15, sg_up_s, sgu_n (by decide)]; exact (by rw [ef_14, sg_up_s, sgu_s])) c_485) (by have k0 : (7 : Int32).toInt = 7 := (by decide); have k1 : (3 : Int32).toInt = 3 := (by decide); have k3 : (0 : Int32).toInt = 0 := (by decide); omega) H.size) (cwV 4 hts (gw_V (fun _ h => List.mem_cons_of_mem _ h) mw_318 mw_319 mw_320 mw_47 mw_317) rfl rfl rfl (by decide +kernel) ⟨Nat.le_of_ble_eq_true rfl, Nat.le_of_ble_eq_true rfl⟩) (sg_preV (ci := 3) (C := RX3) (T := TX3) (N := 6) hA hK hP hS hZ 36 (by decide) rfl rfl) rfl rfl hl.1 rfl (lv_room (Nat.le_of_ble_eq_true rfl)) dX3_acts_51 ⟨Nat.le_refl _, Nat.le_refl _⟩) hA hS (fun r_491 f_488 L_489 Q_490 H locs hq hP hS => ?_)
              obtain ⟨⟨hI, hk_f_488, eL9, eQ9⟩, hq, p_492⟩ := hq
              rw [eL9, eQ9] at hP; clear eL9 eQ9
              have hF : sgK WkX3_acts f f_488 := sgK.tr hF hk_f_488 (by decide)
              obtain ⟨v_493, ev_493⟩ : ∃ z : Int32, z = f_488 36 3 := ⟨_, rfl⟩
              have q_494 : 0 ≤ v_493.toInt ∧ v_493.toInt ≤ 19 := by rw [ev_493]; exact hI 36 3
              have q_495 : (f_488 36 3).toInt = v_493.toInt := (congrArg Int32.toInt (show f_488 36 3 = v_493 from ev_493.symm))
              have q_496 : (f_488 36 3).toInt = v_493.toInt := (congrArg Int32.toInt (show f_488 36 3 = v_493 from ev_493.symm))
              have k_497 : (7 : Int32).toInt = 7 := by decide
              have k_498 : (3 : Int32).toInt = 3 := by decide
              have k_499 : (0 : Int32).toInt = 0 := by decide
              exact hret _ _ _ _ (r_491) f_488 L Q dX3_acts_54 hP hS ⟨⟨hI, hF, rfl, rfl⟩, trivial⟩
        · skip
          have c_11 : 4 ≤ x1.toInt := (by have z := bn_nlt c; have k1 : (4 : Int32).toInt = 4 := (by decide); omega)
          refine lv_iconst (v := 0) hx hb dX3_acts_26 (by decide) ?_
          have k99 : (0 : Int32).toInt = 0 := (by decide)
          exact hret _ _ _ _ (0) f_1 L Q dX3_acts_27 hP hS ⟨⟨hI, hF, rfl, rfl⟩, trivial⟩

abbrev WkX11_act : List (Nat × Nat × Option Nat) := [(36, 36, some 3), (36, 36, some 4), (36, 36, some 5), (38, 38, none)]
set_option maxHeartbeats 4000000 in
set_option maxRecDepth 100000 in
theorem kX11_act (l : Launch) (D : va_G) (ca : Nat → ClassId) (za h : Nat → Nat) (hh : sgH 52 h) (f : sg_F) (L : sg_L) (Q : sg_Q) (hI : sgI loX hiX f) (x0 : Int32) (x1 : Int32) (x2 : Int32) (sz : Nat) : Met l yX11_act gwX11_act { frames := 13, cells := 0, slots := 0, locals := 323 } (sgP D vwCl (tyX ca) 52 h (eX ca h) zcX za f L Q sz [.ref (h 0), .int x0, .int x1, .int x2]) (sgQi D vwCl 52 h (eX ca h) sz (fun r f1 L1 Q1 => ((sgI loX hiX f1 ∧ sgK WkX11_act f f1 ∧ L1 = L ∧ Q1 = Q) ∧ True))) 0 0 (sgA 52 h sz) := by
  refine sg_ofWi (cc := cX11_act) (maxL := 4) RX11 (by decide) rfl rfl (Nat.le_of_ble_eq_true rfl) ?_
  intro p e s m below meth cd Qz ls hx hb hml hown hts hK hZ hP hS hl hret
  have hA := sgY.self (n := 52) (h := h) (sz := s.heap.size)
  have hl : lv_has ls 4 [(0, .ref (h 0)), (1, .int x0), (2, .int x1), (3, .int x2)] := hl
  obtain ⟨H, hH⟩ : ∃ z : Heap, z = s.heap := ⟨_, rfl⟩
  obtain ⟨locs, hlo⟩ : ∃ z : List Loc, z = [] := ⟨_, rfl⟩
  have hP : va_P D vwCl (sgw 52 h (eX ca h) f L Q) H := by rw [hH]; exact hP
  have hS : va_S (sgA 52 h s.heap.size) s.heap H locs := by rw [hH, hlo]; exact hS
  suffices hgo : W p l e ({ frames := 13, cells := 0, slots := 0, locals := 323 }) s m ([.ref (h 0), .int x0, .int x1, .int x2] : List Value).toArray below meth cd H locs 0 0 Qz (F0 m 0 ls []) by rw [hH, hlo] at hgo; exact hgo
  clear hH hlo
  have hF : sgK WkX11_act f f := sgK.rf
  refine lv_aload_n hx hb dX11_act_0 rfl (lv_at hl 0 rfl) ?_
  refine sg_get (ci := 11) (v := .ref (h 36)) (C := RX11) (T := TX11) (N := 10) hx hb hts (fun w h => List.mem_cons_of_mem _ (gx_11 w h)) hown hK hP 0 (by decide) rfl rfl 8 (by decide) (hts _ (List.mem_cons_of_mem _ mw_7)) (fun _ h9 => h9) rfl dX11_act_1 ?_
  refine lv_iload_n hx hb dX11_act_4 rfl (lv_at hl 1 rfl) ?_
  refine lv_iload_n hx hb dX11_act_5 rfl (lv_at hl 2 rfl) ?_
  refine lv_iload_n hx hb dX11_act_6 rfl (lv_at hl 3 rfl) ?_
  refine sg_calli (va_runV (As := [.int x0, .int x1, .int x2]) (rest := []) ⟨hx, hb, hml, hown, hts⟩ (kX3_acts l D ca za h hh f L Q hI x0 x1 x2 H.size) (cwV 3 hts (gw_V (fun _ h => List.mem_cons_of_mem _ h) mw_44 mw_45 mw_46 mw_47 mw_43) rfl rfl rfl (by decide +kernel) ⟨Nat.le_of_ble_eq_true rfl, Nat.le_of_ble_eq_true rfl⟩) (sg_preV (ci := 3) (C := RX3) (T := TX3) (N := 6) hA hK hP hS hZ 36 (by decide) rfl rfl) rfl rfl hl.1 rfl (lv_room (Nat.le_of_ble_eq_true rfl)) dX11_act_7 ⟨Nat.le_refl _, Nat.le_refl _⟩) hA hS (fun r_4 f_1 L_2 Q_3 H locs hq hP hS => ?_)
  obtain ⟨⟨hI, hk_f_1, eL9, eQ9⟩, hq⟩ := hq
  rw [eL9, eQ9] at hP; clear eL9 eQ9
  have hF : sgK WkX11_act f f_1 := sgK.tr hF hk_f_1 (by decide)
  exact hret _ _ _ _ (r_4) f_1 L Q dX11_act_10 hP hS ⟨⟨hI, hF, rfl, rfl⟩, trivial⟩

set_option maxHeartbeats 4000000 in
set_option maxRecDepth 100000 in
theorem kX11_trace (l : Launch) (D : va_G) (ca : Nat → ClassId) (za h : Nat → Nat) (hh : sgH 52 h) (f : sg_F) (L : sg_L) (Q : sg_Q) (hI : sgI loX hiX f) (x0 : Int32) (sz : Nat) : Met l yX11_trace gwX11_trace { frames := 1, cells := 0, slots := 0, locals := 21 } (sgP D vwCl (tyX ca) 52 h (eX ca h) zcX za f L Q sz [.ref (h 0), .int x0]) (sgQi D vwCl 52 h (eX ca h) sz (fun r f1 L1 Q1 => ((f1 = f ∧ L1 = L ∧ Q1 = Q) ∧ ((-1) ≤ r.toInt ∧ r.toInt ≤ 81)))) 0 0 (sgA 52 h sz) := by
  refine sg_ofWi (cc := cX11_trace) (maxL := 2) RX11 (by decide) rfl rfl (Nat.le_of_ble_eq_true rfl) ?_
  intro p e s m below meth cd Qz ls hx hb hml hown hts hK hZ hP hS hl hret
  have hA := sgY.self (n := 52) (h := h) (sz := s.heap.size)
  have hl : lv_has ls 2 [(0, .ref (h 0)), (1, .int x0)] := hl
  obtain ⟨H, hH⟩ : ∃ z : Heap, z = s.heap := ⟨_, rfl⟩
  obtain ⟨locs, hlo⟩ : ∃ z : List Loc, z = [] := ⟨_, rfl⟩
  have hP : va_P D vwCl (sgw 52 h (eX ca h) f L Q) H := by rw [hH]; exact hP
  have hS : va_S (sgA 52 h s.heap.size) s.heap H locs := by rw [hH, hlo]; exact hS
  suffices hgo : W p l e ({ frames := 1, cells := 0, slots := 0, locals := 21 }) s m ([.ref (h 0), .int x0] : List Value).toArray below meth cd H locs 0 0 Qz (F0 m 0 ls []) by rw [hH, hlo] at hgo; exact hgo
  clear hH hlo
  refine lv_iload_n hx hb dX11_trace_0 rfl (lv_at hl 1 rfl) ?_
  refine lv_if_lt (tgt := 20) hx hb dX11_trace_1 (by decide) (fun c => ?_) (fun c => ?_)
  · skip
    have c_1 : x0.toInt < 0 := (by have z := bn_lt c; have k1 : (0 : Int32).toInt = 0 := (by decide); omega)
    refine lv_iconst (v := (-1)) hx hb dX11_trace_20 (by decide) ?_
    refine lv_goto (tgt := 33) hx hb dX11_trace_21 (by decide) ?_
    have k99 : ((-1) : Int32).toInt = (-1) := (by decide)
    exact hret _ _ _ _ (-1) f L Q dX11_trace_33 hP hS ⟨⟨rfl, rfl, rfl⟩, (by decide)⟩
  · skip
    have c_2 : 0 ≤ x0.toInt := (by have z := bn_nlt c; have k1 : (0 : Int32).toInt = 0 := (by decide); omega)
    refine lv_iload_n hx hb dX11_trace_4 rfl (lv_at hl 1 rfl) ?_
    refine lv_aload_n hx hb dX11_trace_5 rfl (lv_at hl 0 rfl) ?_
    refine sg_get (ci := 11) (v := .ref (h 36)) (C := RX11) (T := TX11) (N := 10) hx hb hts (fun w h => List.mem_cons_of_mem _ (gx_11 w h)) hown hK hP 0 (by decide) rfl rfl 8 (by decide) (hts _ (List.mem_cons_of_mem _ mw_7)) (fun _ h9 => h9) rfl dX11_trace_6 ?_
    refine sg_get (ci := 3) (v := .int (f 36 3)) (C := RX3) (T := TX3) (N := 6) hx hb hts (fun w h => List.mem_cons_of_mem _ (gx_3 w h)) hown hK hP 36 (by decide) rfl rfl 3 (by decide) (hts _ (List.mem_cons_of_mem _ mw_8)) (fun _ h9 => h9) rfl dX11_trace_9 ?_
    refine lv_topi (fun v_3 ev_3 => ?_)
    have q_4 : 0 ≤ v_3.toInt ∧ v_3.toInt ≤ 19 := by rw [ev_3]; exact hI 36 3
    refine lv_bipush (v := 24) hx hb dX11_trace_12 (by decide) ?_
    refine va_mmin hx hb (hml.trans hl.1.symm) hown (hts _ (List.mem_cons_of_mem _ mw_9)) (hts _ (List.mem_cons_of_mem _ mw_10)) (hts _ (List.mem_cons_of_mem _ mw_11)) (hts _ (List.mem_cons_of_mem _ mw_12)) (Nat.le_of_ble_eq_true rfl) (Nat.le_of_ble_eq_true rfl) (Nat.le_refl _) (Nat.le_refl _) dX11_trace_14 ?_
    refine lv_topi (fun v_5 ev_5 => ?_)
    have q_6 : (24 < v_3.toInt ∧ v_5.toInt = 24) ∨ (v_3.toInt ≤ 24 ∧ v_5.toInt = v_3.toInt) := by have z := bn_minI (24 : Int32) v_3; rw [← ev_5] at z; have k1 : (24 : Int32).toInt = 24 := (by decide); omega
    refine lv_icmp_lt (tgt := 24) hx hb dX11_trace_17 (by decide) (fun c => ?_) (fun c => ?_)
    · skip
      have c_7 : x0.toInt < v_5.toInt := (by have z := bn_lt c; omega)
      refine lv_aload_n hx hb dX11_trace_24 rfl (lv_at hl 0 rfl) ?_
      refine sg_get (ci := 11) (v := .ref (h 36)) (C := RX11) (T := TX11) (N := 10) hx hb hts (fun w h => List.mem_cons_of_mem _ (gx_11 w h)) hown hK hP 0 (by decide) rfl rfl 8 (by decide) (hts _ (List.mem_cons_of_mem _ mw_7)) (fun _ h9 => h9) rfl dX11_trace_25 ?_
      refine sg_get (ci := 3) (v := .ref (h 38)) (C := RX3) (T := TX3) (N := 6) hx hb hts (fun w h => List.mem_cons_of_mem _ (gx_3 w h)) hown hK hP 36 (by decide) rfl rfl 1 (by decide) (hts _ (List.mem_cons_of_mem _ mw_216)) (fun _ h9 => h9) rfl dX11_trace_28 ?_
      refine lv_iload_n hx hb dX11_trace_31 rfl (lv_at hl 1 rfl) ?_
      refine sg_iald hx hb hK hP 38 (by decide) 0 rfl rfl (i := x0) (vp_in_iff.mpr ⟨by omega, by omega⟩) dX11_trace_32 ?_
      refine lv_topi (fun v_9 ev_9 => ?_)
      have q_10 : 0 ≤ v_9.toInt ∧ v_9.toInt ≤ 81 := by rw [ev_9]; exact hI 38 _
      exact hret _ _ _ _ (v_9) f L Q dX11_trace_33 hP hS ⟨⟨rfl, rfl, rfl⟩, (by omega)⟩
    · skip
      have c_8 : v_5.toInt ≤ x0.toInt := (by have z := bn_nlt c; omega)
      refine lv_iconst (v := (-1)) hx hb dX11_trace_20 (by decide) ?_
      refine lv_goto (tgt := 33) hx hb dX11_trace_21 (by decide) ?_
      have k99 : ((-1) : Int32).toInt = (-1) := (by decide)
      exact hret _ _ _ _ (-1) f L Q dX11_trace_33 hP hS ⟨⟨rfl, rfl, rfl⟩, (by decide)⟩

abbrev WkX7_takesDesk : List (Nat × Nat × Option Nat) := [(40, 51, none)]
set_option maxHeartbeats 4000000 in
set_option maxRecDepth 100000 in
theorem kX7_takesDesk (l : Launch) (D : va_G) (ca : Nat → ClassId) (za h : Nat → Nat) (hh : sgH 52 h) (f : sg_F) (L : sg_L) (Q : sg_Q) (hI : sgI loX hiX f) (hJ : JX f) (x0 : Int32) (t : Nat) (ht_t : t < 6) (b0 : (-1) ≤ x0.toInt ∧ x0.toInt ≤ 49) (sz : Nat) : Met l yX7_takesDesk gwX7_takesDesk { frames := 0, cells := 0, slots := 0, locals := 0 } (sgP D vwCl (tyX ca) 52 h (eX ca h) zcX za f L Q sz [.ref (h (40 + 2 * t)), .int x0]) (sgQv D vwCl 52 h (eX ca h) sz (fun f1 L1 Q1 => ((sgI loX hiX f1 ∧ sgK WkX7_takesDesk f f1 ∧ L1 = L ∧ Q1 = Q ∧ JX f1)))) 0 0 (sgA 52 h sz) := by
  refine sg_ofWv (cc := cX7_takesDesk) (maxL := 2) RX7 (by decide) rfl rfl (Nat.le_of_ble_eq_true rfl) ?_
  intro p e s m below meth cd Qz ls hx hb hml hown hts hK hZ hP hS hl hret
  have hA := sgY.self (n := 52) (h := h) (sz := s.heap.size)
  have hl : lv_has ls 2 [(0, .ref (h (40 + 2 * t))), (1, .int x0)] := hl
  obtain ⟨H, hH⟩ : ∃ z : Heap, z = s.heap := ⟨_, rfl⟩
  obtain ⟨locs, hlo⟩ : ∃ z : List Loc, z = [] := ⟨_, rfl⟩
  have hP : va_P D vwCl (sgw 52 h (eX ca h) f L Q) H := by rw [hH]; exact hP
  have hS : va_S (sgA 52 h s.heap.size) s.heap H locs := by rw [hH, hlo]; exact hS
  suffices hgo : W p l e ({ frames := 0, cells := 0, slots := 0, locals := 0 }) s m ([.ref (h (40 + 2 * t)), .int x0] : List Value).toArray below meth cd H locs 0 0 Qz (F0 m 0 ls []) by rw [hH, hlo] at hgo; exact hgo
  clear hH hlo
  have hF : sgK WkX7_takesDesk f f := sgK.rf
  refine lv_aload_n hx hb dX7_takesDesk_0 rfl (lv_at hl 0 rfl) ?_
  refine lv_iload_n hx hb dX7_takesDesk_1 rfl (lv_at hl 1 rfl) ?_
  refine lv_if_ge (tgt := 9) hx hb dX7_takesDesk_2 (by decide) (fun c => ?_) (fun c => ?_)
  · skip
    have c_1 : 0 ≤ x0.toInt := (by have z := bn_le c; have k1 : (0 : Int32).toInt = 0 := (by decide); omega)
    refine lv_bipush (v := (-2)) hx hb dX7_takesDesk_9 (by decide) ?_
    refine sg_put (ci := 7) (x := (-2)) (ty := .int) (C := RX7) (T := TX7) (N := 4) hx hb hts (fun w h => List.mem_cons_of_mem _ (gx_7 w h)) tyX7 tyX7_ok nmX7 hown hh hA hK hP hS (40 + 2 * t) (by have := ht_t; omega) (eX_sh ca h ht_t _ _ _) rfl 1 (by decide) (hts _ (List.mem_cons_of_mem _ mw_84)) (fun _ h9 => h9) rfl (eX_sh ca h ht_t _ _ _) (by decide +kernel) rfl rfl (Nat.le_of_ble_eq_true rfl) dX7_takesDesk_11 (fun f_3 H locs ef_3 hP hS => ?_)
    have hI : sgI loX hiX f_3 := by rw [ef_3]; exact sgI.put hI (40 + 2 * t) 1 (shp_1 ht_t (show (-2) ≤ ((-2) : Int32).toInt ∧ ((-2) : Int32).toInt ≤ 4 from by decide))
    have hF : sgK WkX7_takesDesk f f_3 := sgK.put hF ef_3 (sgin_r (a := 40) (b := 51) (o := none) (by decide) (by omega) (by omega) (Or.inl rfl))
    refine lv_aload_n hx hb dX7_takesDesk_14 rfl (lv_at hl 0 rfl) ?_
    refine lv_iload_n hx hb dX7_takesDesk_15 rfl (lv_at hl 1 rfl) ?_
    refine sg_put (ci := 7) (x := x0) (ty := .int) (C := RX7) (T := TX7) (N := 4) hx hb hts (fun w h => List.mem_cons_of_mem _ (gx_7 w h)) tyX7 tyX7_ok nmX7 hown hh hA hK hP hS (40 + 2 * t) (by have := ht_t; omega) (eX_sh ca h ht_t _ _ _) rfl 3 (by decide) (hts _ (List.mem_cons_of_mem _ mw_87)) (fun _ h9 => h9) rfl (eX_sh ca h ht_t _ _ _) (by decide +kernel) rfl rfl (Nat.le_of_ble_eq_true rfl) dX7_takesDesk_16 (fun f_4 H locs ef_4 hP hS => ?_)
    have hI : sgI loX hiX f_4 := by rw [ef_4]; exact sgI.put hI (40 + 2 * t) 3 (shp_3 ht_t (show (-1) ≤ (x0 : Int32).toInt ∧ (x0 : Int32).toInt ≤ 49 from by omega))
    have hJ : JX f_4 := JX.desk hJ ef_3 ef_4 ht_t (by have k0 : ((-2) : Int32).toInt = (-2) := (by decide); omega)
    have hF : sgK WkX7_takesDesk f f_4 := sgK.put hF ef_4 (sgin_r (a := 40) (b := 51) (o := none) (by decide) (by omega) (by omega) (Or.inl rfl))
    exact hret _ _ _ _ f_4 L Q dX7_takesDesk_19 hP hS ⟨hI, hF, rfl, rfl, hJ⟩
  · skip
    have c_2 : x0.toInt < 0 := (by have z := bn_nle c; have k1 : (0 : Int32).toInt = 0 := (by decide); omega)
    refine lv_iconst (v := (-1)) hx hb dX7_takesDesk_5 (by decide) ?_
    refine lv_goto (tgt := 11) hx hb dX7_takesDesk_6 (by decide) ?_
    refine sg_put (ci := 7) (x := (-1)) (ty := .int) (C := RX7) (T := TX7) (N := 4) hx hb hts (fun w h => List.mem_cons_of_mem _ (gx_7 w h)) tyX7 tyX7_ok nmX7 hown hh hA hK hP hS (40 + 2 * t) (by have := ht_t; omega) (eX_sh ca h ht_t _ _ _) rfl 1 (by decide) (hts _ (List.mem_cons_of_mem _ mw_84)) (fun _ h9 => h9) rfl (eX_sh ca h ht_t _ _ _) (by decide +kernel) rfl rfl (Nat.le_of_ble_eq_true rfl) dX7_takesDesk_11 (fun f_5 H locs ef_5 hP hS => ?_)
    have hI : sgI loX hiX f_5 := by rw [ef_5]; exact sgI.put hI (40 + 2 * t) 1 (shp_1 ht_t (show (-2) ≤ ((-1) : Int32).toInt ∧ ((-1) : Int32).toInt ≤ 4 from by decide))
    have hF : sgK WkX7_takesDesk f f_5 := sgK.put hF ef_5 (sgin_r (a := 40) (b := 51) (o := none) (by decide) (by omega) (by omega) (Or.inl rfl))
    refine lv_aload_n hx hb dX7_takesDesk_14 rfl (lv_at hl 0 rfl) ?_
    refine lv_iload_n hx hb dX7_takesDesk_15 rfl (lv_at hl 1 rfl) ?_
    refine sg_put (ci := 7) (x := x0) (ty := .int) (C := RX7) (T := TX7) (N := 4) hx hb hts (fun w h => List.mem_cons_of_mem _ (gx_7 w h)) tyX7 tyX7_ok nmX7 hown hh hA hK hP hS (40 + 2 * t) (by have := ht_t; omega) (eX_sh ca h ht_t _ _ _) rfl 3 (by decide) (hts _ (List.mem_cons_of_mem _ mw_87)) (fun _ h9 => h9) rfl (eX_sh ca h ht_t _ _ _) (by decide +kernel) rfl rfl (Nat.le_of_ble_eq_true rfl) dX7_takesDesk_16 (fun f_6 H locs ef_6 hP hS => ?_)
    have hI : sgI loX hiX f_6 := by rw [ef_6]; exact sgI.put hI (40 + 2 * t) 3 (shp_3 ht_t (show (-1) ≤ (x0 : Int32).toInt ∧ (x0 : Int32).toInt ≤ 49 from by omega))
    have hJ : JX f_6 := JX.desk hJ ef_5 ef_6 ht_t (by have k0 : ((-1) : Int32).toInt = (-1) := (by decide); omega)
    have hF : sgK WkX7_takesDesk f f_6 := sgK.put hF ef_6 (sgin_r (a := 40) (b := 51) (o := none) (by decide) (by omega) (by omega) (Or.inl rfl))
    exact hret _ _ _ _ f_6 L Q dX7_takesDesk_19 hP hS ⟨hI, hF, rfl, rfl, hJ⟩

abbrev WkX11_keep : List (Nat × Nat × Option Nat) := [(40, 51, none)]
set_option maxHeartbeats 4000000 in
set_option maxRecDepth 100000 in
theorem kX11_keep (l : Launch) (D : va_G) (ca : Nat → ClassId) (za h : Nat → Nat) (hh : sgH 52 h) (f : sg_F) (L : sg_L) (Q : sg_Q) (hI : sgI loX hiX f) (hJ : JX f) (x0 : Int32) (x1 : Int32) (sz : Nat) : Met l yX11_keep gwX11_keep { frames := 1, cells := 0, slots := 0, locals := 21 } (sgP D vwCl (tyX ca) 52 h (eX ca h) zcX za f L Q sz [.ref (h 0), .int x0, .int x1]) (sgQi D vwCl 52 h (eX ca h) sz (fun r f1 L1 Q1 => ((sgI loX hiX f1 ∧ sgK WkX11_keep f f1 ∧ L1 = L ∧ Q1 = Q ∧ JX f1) ∧ ((-1) ≤ r.toInt ∧ r.toInt ≤ 1)))) 0 0 (sgA 52 h sz) := by
  refine sg_ofWi (cc := cX11_keep) (maxL := 3) RX11 (by decide) rfl rfl (Nat.le_of_ble_eq_true rfl) ?_
  intro p e s m below meth cd Qz ls hx hb hml hown hts hK hZ hP hS hl hret
  have hA := sgY.self (n := 52) (h := h) (sz := s.heap.size)
  have hl : lv_has ls 3 [(0, .ref (h 0)), (1, .int x0), (2, .int x1)] := hl
  obtain ⟨H, hH⟩ : ∃ z : Heap, z = s.heap := ⟨_, rfl⟩
  obtain ⟨locs, hlo⟩ : ∃ z : List Loc, z = [] := ⟨_, rfl⟩
  have hP : va_P D vwCl (sgw 52 h (eX ca h) f L Q) H := by rw [hH]; exact hP
  have hS : va_S (sgA 52 h s.heap.size) s.heap H locs := by rw [hH, hlo]; exact hS
  suffices hgo : W p l e ({ frames := 1, cells := 0, slots := 0, locals := 21 }) s m ([.ref (h 0), .int x0, .int x1] : List Value).toArray below meth cd H locs 0 0 Qz (F0 m 0 ls []) by rw [hH, hlo] at hgo; exact hgo
  clear hH hlo
  have hF : sgK WkX11_keep f f := sgK.rf
  refine lv_iload_n hx hb dX11_keep_0 rfl (lv_at hl 1 rfl) ?_
  refine sg_calli (va_runS (As := [.int x0]) (rest := []) ⟨hx, hb, hml, hown, hts⟩ (kX11_isShelf l D ca za h hh f L Q hI x0 H.size) (va_cwS 1 hts (gw_S (fun _ h => List.mem_cons_of_mem _ h) mw_35 mw_36 mw_37 mw_34) rfl rfl rfl (by decide +kernel) ⟨Nat.le_of_ble_eq_true rfl, Nat.le_of_ble_eq_true rfl⟩) (sg_preS hA hK hP hS hZ) rfl rfl hl.1 rfl (lv_room (Nat.le_of_ble_eq_true rfl)) dX11_keep_1 ⟨Nat.le_refl _, Nat.le_refl _⟩) hA hS (fun r_4 f_1 L_2 Q_3 H locs hq hP hS => ?_)
  obtain ⟨⟨ef9, eL9, eQ9⟩, hq⟩ := hq
  rw [ef9, eL9, eQ9] at hP; clear ef9 eL9 eQ9
  rcases hq with ⟨rfl, hq⟩ | ⟨rfl, hq⟩
  · skip
    have q_5 := hq
    refine lv_if_eq (tgt := 23) hx hb dX11_keep_4 (by decide) (fun c => absurd c (by decide)) (fun c => ?_)
    refine lv_iload_n hx hb dX11_keep_7 rfl (lv_at hl 2 rfl) ?_
    refine lv_iconst (v := (-1)) hx hb dX11_keep_8 (by decide) ?_
    refine lv_icmp_lt (tgt := 23) hx hb dX11_keep_9 (by decide) (fun c => ?_) (fun c => ?_)
    · skip
      have c_6 : x1.toInt < (-1) := (by have z := bn_lt c; have k1 : ((-1) : Int32).toInt = (-1) := (by decide); omega)
      refine lv_iconst (v := (-1)) hx hb dX11_keep_23 (by decide) ?_
      have k99 : ((-1) : Int32).toInt = (-1) := (by decide)
      exact hret _ _ _ _ (-1) f L Q dX11_keep_24 hP hS ⟨⟨hI, hF, rfl, rfl, hJ⟩, (by decide)⟩
    · skip
      have c_7 : (-1) ≤ x1.toInt := (by have z := bn_nlt c; have k1 : ((-1) : Int32).toInt = (-1) := (by decide); omega)
      refine lv_iload_n hx hb dX11_keep_12 rfl (lv_at hl 2 rfl) ?_
      refine lv_aload_n hx hb dX11_keep_13 rfl (lv_at hl 0 rfl) ?_
      refine sg_get (ci := 11) (v := .ref (h 36)) (C := RX11) (T := TX11) (N := 10) hx hb hts (fun w h => List.mem_cons_of_mem _ (gx_11 w h)) hown hK hP 0 (by decide) rfl rfl 8 (by decide) (hts _ (List.mem_cons_of_mem _ mw_7)) (fun _ h9 => h9) rfl dX11_keep_14 ?_
      refine sg_get (ci := 3) (v := .int (f 36 2)) (C := RX3) (T := TX3) (N := 6) hx hb hts (fun w h => List.mem_cons_of_mem _ (gx_3 w h)) hown hK hP 36 (by decide) rfl rfl 2 (by decide) (hts _ (List.mem_cons_of_mem _ mw_15)) (fun _ h9 => h9) rfl dX11_keep_17 ?_
      refine lv_topi (fun v_8 ev_8 => ?_)
      have q_9 : 0 ≤ v_8.toInt ∧ v_8.toInt ≤ 50 := by rw [ev_8]; exact hI 36 2
      refine lv_icmp_lt (tgt := 25) hx hb dX11_keep_20 (by decide) (fun c => ?_) (fun c => ?_)
      · skip
        have c_10 : x1.toInt < v_8.toInt := (by have z := bn_lt c; omega)
        refine lv_aload_n hx hb dX11_keep_25 rfl (lv_at hl 0 rfl) ?_
        refine sg_get (ci := 11) (v := .ref (h 39)) (C := RX11) (T := TX11) (N := 10) hx hb hts (fun w h => List.mem_cons_of_mem _ (gx_11 w h)) hown hK hP 0 (by decide) rfl rfl 9 (by decide) (hts _ (List.mem_cons_of_mem _ mw_41)) (fun _ h9 => h9) rfl dX11_keep_26 ?_
        refine lv_iload_n hx hb dX11_keep_29 rfl (lv_at hl 1 rfl) ?_
        obtain ⟨t_12, et_12⟩ : ∃ z : Nat, z = x0.toNatClampNeg := ⟨_, rfl⟩
        have ht_t_12 : t_12 < 6 := by rw [et_12]; exact bn_kI (by omega) (by omega)
        refine sg_aald hx hb hK hP 39 (by decide) 3 rfl rfl (i := x0) (a := (h (40 + 2 * t_12))) (vp_in_iff.mpr ⟨by omega, by omega⟩) (show (if x0.toNatClampNeg < 6 then some (h (40 + 2 * x0.toNatClampNeg)) else none) = some (h (40 + 2 * t_12)) from by rw [← et_12, if_pos ht_t_12]) dX11_keep_30 ?_
        refine lv_iload_n hx hb dX11_keep_31 rfl (lv_at hl 2 rfl) ?_
        refine sg_callv (va_runV (As := [.int x1]) (rest := []) ⟨hx, hb, hml, hown, hts⟩ (kX7_takesDesk l D ca za h hh f L Q hI hJ x1 t_12 ht_t_12 (by omega) H.size) (cwV 1 hts (gw_V (fun _ h => List.mem_cons_of_mem _ h) mw_123 mw_124 mw_125 mw_121 mw_122) rfl rfl rfl (by decide +kernel) ⟨Nat.le_of_ble_eq_true rfl, Nat.le_of_ble_eq_true rfl⟩) (sg_preV (ci := 7) (C := RX7) (T := TX7) (N := 4) hA hK hP hS hZ (40 + 2 * t_12) (by have := ht_t_12; omega) (eX_sh ca h ht_t_12 _ _ _) rfl) rfl rfl hl.1 rfl (lv_room (Nat.le_of_ble_eq_true rfl)) dX11_keep_32 ⟨Nat.le_refl _, Nat.le_refl _⟩) hA hS (fun f_13 L_14 Q_15 H locs hq hP hS => ?_)
        obtain ⟨hI, hk_f_13, eL9, eQ9, hJ⟩ := hq
        rw [eL9, eQ9] at hP; clear eL9 eQ9
        have hF : sgK WkX11_keep f f_13 := sgK.tr hF hk_f_13 (by decide)
        refine lv_iconst (v := 1) hx hb dX11_keep_35 (by decide) ?_
        have k99 : (1 : Int32).toInt = 1 := (by decide)
        exact hret _ _ _ _ (1) f_13 L Q dX11_keep_36 hP hS ⟨⟨hI, hF, rfl, rfl, hJ⟩, (by decide)⟩
      · skip
        have c_11 : v_8.toInt ≤ x1.toInt := (by have z := bn_nlt c; omega)
        refine lv_iconst (v := (-1)) hx hb dX11_keep_23 (by decide) ?_
        have k99 : ((-1) : Int32).toInt = (-1) := (by decide)
        exact hret _ _ _ _ (-1) f L Q dX11_keep_24 hP hS ⟨⟨hI, hF, rfl, rfl, hJ⟩, (by decide)⟩
  · skip
    have q_16 := hq
    refine lv_if_eq (tgt := 23) hx hb dX11_keep_4 (by decide) (fun c => ?_) (fun c => absurd c (by decide))
    refine lv_iconst (v := (-1)) hx hb dX11_keep_23 (by decide) ?_
    have k99 : ((-1) : Int32).toInt = (-1) := (by decide)
    exact hret _ _ _ _ (-1) f L Q dX11_keep_24 hP hS ⟨⟨hI, hF, rfl, rfl, hJ⟩, (by decide)⟩

abbrev WkX7_takesRow : List (Nat × Nat × Option Nat) := [(40, 51, none)]
set_option maxHeartbeats 4000000 in
set_option maxRecDepth 100000 in
theorem kX7_takesRow (l : Launch) (D : va_G) (ca : Nat → ClassId) (za h : Nat → Nat) (hh : sgH 52 h) (f : sg_F) (L : sg_L) (Q : sg_Q) (hI : sgI loX hiX f) (hJ : JX f) (x0 : Int32) (x1 : Int32) (t : Nat) (ht_t : t < 6) (b0 : 0 ≤ x0.toInt ∧ x0.toInt ≤ 4) (b1 : 0 ≤ x1.toInt ∧ x1.toInt ≤ 60) (sz : Nat) : Met l yX7_takesRow gwX7_takesRow { frames := 0, cells := 0, slots := 0, locals := 0 } (sgP D vwCl (tyX ca) 52 h (eX ca h) zcX za f L Q sz [.ref (h (40 + 2 * t)), .int x0, .int x1]) (sgQv D vwCl 52 h (eX ca h) sz (fun f1 L1 Q1 => ((sgI loX hiX f1 ∧ sgK WkX7_takesRow f f1 ∧ True ∧ Q1 = Q ∧ JX f1)))) 0 0 (sgA 52 h sz) := by
  refine sg_ofWv (cc := cX7_takesRow) (maxL := 4) RX7 (by decide) rfl rfl (Nat.le_of_ble_eq_true rfl) ?_
  intro p e s m below meth cd Qz ls hx hb hml hown hts hK hZ hP hS hl hret
  have hA := sgY.self (n := 52) (h := h) (sz := s.heap.size)
  have hl : lv_has ls 4 [(0, .ref (h (40 + 2 * t))), (1, .int x0), (2, .int x1)] := hl
  obtain ⟨H, hH⟩ : ∃ z : Heap, z = s.heap := ⟨_, rfl⟩
  obtain ⟨locs, hlo⟩ : ∃ z : List Loc, z = [] := ⟨_, rfl⟩
  have hP : va_P D vwCl (sgw 52 h (eX ca h) f L Q) H := by rw [hH]; exact hP
  have hS : va_S (sgA 52 h s.heap.size) s.heap H locs := by rw [hH, hlo]; exact hS
  suffices hgo : W p l e ({ frames := 0, cells := 0, slots := 0, locals := 0 }) s m ([.ref (h (40 + 2 * t)), .int x0, .int x1] : List Value).toArray below meth cd H locs 0 0 Qz (F0 m 0 ls []) by rw [hH, hlo] at hgo; exact hgo
  clear hH hlo
  have hF : sgK WkX7_takesRow f f := sgK.rf
  have loop_12 : ∀ (n_12 : Nat) (y3_12 : Int32) (fp_12 : sg_F) (Lp_12 : sg_L) (H : Heap) (locs : List Loc) (ls : Array Slot), 60 - y3_12.toInt < (n_12 : Int) → 0 ≤ (fp_12 (40 + 2 * t) 1).toInt ∧ (fp_12 (40 + 2 * t) 1).toInt ≤ 4 → 0 ≤ y3_12.toInt ∧ y3_12.toInt ≤ 60 → sgI loX hiX fp_12 → sgK WkX7_takesRow f fp_12 → JX fp_12 → va_P D vwCl (sgw 52 h (eX ca h) fp_12 Lp_12 Q) H → va_S (sgA 52 h s.heap.size) s.heap H locs → lv_has ls 4 [(0, .ref (h (40 + 2 * t))), (2, .int x1), (3, .int y3_12)] → W p l e ({ frames := 0, cells := 0, slots := 0, locals := 0 }) s m ([.ref (h (40 + 2 * t)), .int x0, .int x1] : List Value).toArray below meth cd H locs 0 0 Qz (F0 m 12 ls []) := by
    intro n_12
    induction n_12 with
    | zero => intro y3_12 fp_12 Lp_12 H locs ls hm_12 hy0_12 hy1_12 hI hF hJ hP hS hl; exact absurd hm_12 (by omega)
    | succ n_12 ih_12 =>
      intro y3_12 fp_12 Lp_12 H locs ls hm_12 hy0_12 hy1_12 hI hF hJ hP hS hl
      obtain ⟨v_1, ev_1⟩ : ∃ z : Int32, z = fp_12 (40 + 2 * t) 1 := ⟨_, rfl⟩
      have q_2 : (-2) ≤ v_1.toInt ∧ v_1.toInt ≤ 4 := by rw [ev_1]; exact shb_1 hI ht_t
      have q_3 : (fp_12 (40 + 2 * t) 1).toInt = v_1.toInt := by rw [ev_1]
      refine lv_iload_n hx hb dX7_takesRow_12 rfl (lv_at hl 2 rfl) ?_
      refine lv_iload_n hx hb dX7_takesRow_13 rfl (lv_at hl 1 rfl) ?_
      refine lv_icmp_ge (tgt := 30) hx hb dX7_takesRow_14 (by decide) (fun c => ?_) (fun c => ?_)
      · skip
        have c_4 : x1.toInt ≤ y3_12.toInt := (by have z := bn_le c; omega)
        exact hret _ _ _ _ fp_12 Lp_12 Q dX7_takesRow_30 hP hS ⟨hI, hF, trivial, rfl, hJ⟩
      · skip
        have c_5 : y3_12.toInt < x1.toInt := (by have z := bn_nle c; omega)
        refine lv_aload_n hx hb dX7_takesRow_17 rfl (lv_at hl 0 rfl) ?_
        refine sg_get (ci := 7) (v := .ref (h (41 + 2 * t))) (C := RX7) (T := TX7) (N := 4) hx hb hts (fun w h => List.mem_cons_of_mem _ (gx_7 w h)) hown hK hP (40 + 2 * t) (by have := ht_t; omega) (eX_sh ca h ht_t _ _ _) rfl 0 (by decide) (hts _ (List.mem_cons_of_mem _ mw_86)) (fun _ h9 => h9) rfl dX7_takesRow_18 ?_
        refine lv_iload_n hx hb dX7_takesRow_21 rfl (lv_at hl 2 rfl) ?_
        refine lv_lconst (v := 0) hx hb dX7_takesRow_22 (by decide) ?_
        refine sg_last hx hb hh hA hK hP hS (41 + 2 * t) (by have := ht_t; omega) 1 (fun _ => eX_el ca h ht_t _ _ _) rfl (i := y3_12) (x := 0) (vp_in_iff.mpr ⟨by omega, by omega⟩) dX7_takesRow_23 (fun L_6 H locs eL_6 hP hS => ?_)
        obtain ⟨v_7, ev_7⟩ : ∃ z : Int32, z = y3_12 + 1 := ⟨_, rfl⟩
        have q_8 : v_7.toInt = y3_12.toInt + 1 := by rw [ev_7]; exact (bn_addc y3_12 1 (by decide) (by omega) (by omega))
        refine lv_iinc (v := v_7) (lv' := [(3, .int v_7), (0, .ref (h (40 + 2 * t))), (2, .int x1)]) hx hb dX7_takesRow_24 hl (k := 2) rfl (by rw [ev_7]; rfl) (by decide) rfl (fun ls hl => ?_)
        refine lv_goto (tgt := 12) hx hb dX7_takesRow_27 (by decide) ?_
        exact ih_12 v_7 fp_12 L_6 _ _ _ (by omega) (by have zzsht_1 : (fp_12 (40 + 2 * t) 1).toInt = v_1.toInt := (congrArg Int32.toInt (show fp_12 (40 + 2 * t) 1 = v_1 from ev_1.symm)); omega) (by omega) hI hF hJ hP hS (lv_sub hl [1, 2, 0] rfl)
  refine lv_aload_n hx hb dX7_takesRow_0 rfl (lv_at hl 0 rfl) ?_
  refine lv_iload_n hx hb dX7_takesRow_1 rfl (lv_at hl 1 rfl) ?_
  refine sg_put (ci := 7) (x := x0) (ty := .int) (C := RX7) (T := TX7) (N := 4) hx hb hts (fun w h => List.mem_cons_of_mem _ (gx_7 w h)) tyX7 tyX7_ok nmX7 hown hh hA hK hP hS (40 + 2 * t) (by have := ht_t; omega) (eX_sh ca h ht_t _ _ _) rfl 1 (by decide) (hts _ (List.mem_cons_of_mem _ mw_84)) (fun _ h9 => h9) rfl (eX_sh ca h ht_t _ _ _) (by decide +kernel) rfl rfl (Nat.le_of_ble_eq_true rfl) dX7_takesRow_2 (fun f_9 H locs ef_9 hP hS => ?_)
  have hI : sgI loX hiX f_9 := by rw [ef_9]; exact sgI.put hI (40 + 2 * t) 1 (shp_1 ht_t (show (-2) ≤ (x0 : Int32).toInt ∧ (x0 : Int32).toInt ≤ 4 from by omega))
  have hJ : JX f_9 := JX.sort hJ ef_9 ht_t (by omega)
  have hF : sgK WkX7_takesRow f f_9 := sgK.put hF ef_9 (sgin_r (a := 40) (b := 51) (o := none) (by decide) (by omega) (by omega) (Or.inl rfl))
  refine lv_aload_n hx hb dX7_takesRow_5 rfl (lv_at hl 0 rfl) ?_
  refine lv_iload_n hx hb dX7_takesRow_6 rfl (lv_at hl 2 rfl) ?_
  refine sg_put (ci := 7) (x := x1) (ty := .int) (C := RX7) (T := TX7) (N := 4) hx hb hts (fun w h => List.mem_cons_of_mem _ (gx_7 w h)) tyX7 tyX7_ok nmX7 hown hh hA hK hP hS (40 + 2 * t) (by have := ht_t; omega) (eX_sh ca h ht_t _ _ _) rfl 2 (by decide) (hts _ (List.mem_cons_of_mem _ mw_85)) (fun _ h9 => h9) rfl (eX_sh ca h ht_t _ _ _) (by decide +kernel) rfl rfl (Nat.le_of_ble_eq_true rfl) dX7_takesRow_7 (fun f_10 H locs ef_10 hP hS => ?_)
  have hI : sgI loX hiX f_10 := by rw [ef_10]; exact sgI.put hI (40 + 2 * t) 2 (shp_2 ht_t (show 0 ≤ (x1 : Int32).toInt ∧ (x1 : Int32).toInt ≤ 60 from by omega))
  have hJ : JX f_10 := JX.len hJ ef_10 ht_t
  have hF : sgK WkX7_takesRow f f_10 := sgK.put hF ef_10 (sgin_r (a := 40) (b := 51) (o := none) (by decide) (by omega) (by omega) (Or.inl rfl))
  refine lv_iconst (v := 0) hx hb dX7_takesRow_10 (by decide) ?_
  refine lv_istore_n (lv' := [(3, .int 0), (0, .ref (h (40 + 2 * t))), (1, .int x0), (2, .int x1)]) hx hb dX7_takesRow_11 rfl hl (by decide) rfl (fun ls hl => ?_)
  exact loop_12 61 0 f_10 L _ _ _ (by have kc0 : (0 : Int32).toInt = 0 := (by decide); omega) (by have zzsht_1 : (f_10 (40 + 2 * t) 1).toInt = x0.toInt := (congrArg Int32.toInt (show f_10 (40 + 2 * t) 1 = x0 from (by rw [ef_10, sg_up_s, sgu_n (by decide)]; exact (by rw [ef_9, sg_up_s, sgu_s])))); omega) (by decide) hI hF hJ hP hS (lv_sub hl [1, 3, 0] rfl)

abbrev WkX11_row : List (Nat × Nat × Option Nat) := [(40, 51, none)]
set_option maxHeartbeats 4000000 in
set_option maxRecDepth 100000 in
theorem kX11_row (l : Launch) (D : va_G) (ca : Nat → ClassId) (za h : Nat → Nat) (hh : sgH 52 h) (f : sg_F) (L : sg_L) (Q : sg_Q) (hI : sgI loX hiX f) (hJ : JX f) (x0 : Int32) (x1 : Int32) (x2 : Int32) (sz : Nat) : Met l yX11_row gwX11_row { frames := 1, cells := 0, slots := 0, locals := 23 } (sgP D vwCl (tyX ca) 52 h (eX ca h) zcX za f L Q sz [.ref (h 0), .int x0, .int x1, .int x2]) (sgQi D vwCl 52 h (eX ca h) sz (fun r f1 L1 Q1 => ((sgI loX hiX f1 ∧ sgK WkX11_row f f1 ∧ True ∧ Q1 = Q ∧ JX f1) ∧ ((r = 1 ∧ (0 ≤ x0.toInt ∧ x0.toInt ≤ 5 ∧ 0 ≤ x1.toInt ∧ x1.toInt ≤ 4 ∧ 0 ≤ x2.toInt ∧ x2.toInt ≤ 60)) ∨ (r = (-14) ∧ (0 ≤ x0.toInt ∧ x0.toInt ≤ 5 ∧ 0 ≤ x1.toInt ∧ x1.toInt ≤ 4 ∧ x2.toInt < 0)) ∨ (r = (-1) ∧ (¬ (0 ≤ x0.toInt ∧ x0.toInt ≤ 5 ∧ 0 ≤ x1.toInt ∧ x1.toInt ≤ 4 ∧ x2.toInt ≤ 60))))))) 0 0 (sgA 52 h sz) := by
  refine sg_ofWi (cc := cX11_row) (maxL := 4) RX11 (by decide) rfl rfl (Nat.le_of_ble_eq_true rfl) ?_
  intro p e s m below meth cd Qz ls hx hb hml hown hts hK hZ hP hS hl hret
  have hA := sgY.self (n := 52) (h := h) (sz := s.heap.size)
  have hl : lv_has ls 4 [(0, .ref (h 0)), (1, .int x0), (2, .int x1), (3, .int x2)] := hl
  obtain ⟨H, hH⟩ : ∃ z : Heap, z = s.heap := ⟨_, rfl⟩
  obtain ⟨locs, hlo⟩ : ∃ z : List Loc, z = [] := ⟨_, rfl⟩
  have hP : va_P D vwCl (sgw 52 h (eX ca h) f L Q) H := by rw [hH]; exact hP
  have hS : va_S (sgA 52 h s.heap.size) s.heap H locs := by rw [hH, hlo]; exact hS
  suffices hgo : W p l e ({ frames := 1, cells := 0, slots := 0, locals := 23 }) s m ([.ref (h 0), .int x0, .int x1, .int x2] : List Value).toArray below meth cd H locs 0 0 Qz (F0 m 0 ls []) by rw [hH, hlo] at hgo; exact hgo
  clear hH hlo
  have hF : sgK WkX11_row f f := sgK.rf
  refine lv_iload_n hx hb dX11_row_0 rfl (lv_at hl 1 rfl) ?_
  refine sg_calli (va_runS (As := [.int x0]) (rest := []) ⟨hx, hb, hml, hown, hts⟩ (kX11_isShelf l D ca za h hh f L Q hI x0 H.size) (va_cwS 1 hts (gw_S (fun _ h => List.mem_cons_of_mem _ h) mw_35 mw_36 mw_37 mw_34) rfl rfl rfl (by decide +kernel) ⟨Nat.le_of_ble_eq_true rfl, Nat.le_of_ble_eq_true rfl⟩) (sg_preS hA hK hP hS hZ) rfl rfl hl.1 rfl (lv_room (Nat.le_of_ble_eq_true rfl)) dX11_row_1 ⟨Nat.le_refl _, Nat.le_refl _⟩) hA hS (fun r_4 f_1 L_2 Q_3 H locs hq hP hS => ?_)
  obtain ⟨⟨ef9, eL9, eQ9⟩, hq⟩ := hq
  rw [ef9, eL9, eQ9] at hP; clear ef9 eL9 eQ9
  rcases hq with ⟨rfl, hq⟩ | ⟨rfl, hq⟩
  · skip
    have q_5 := hq
    refine lv_if_eq (tgt := 22) hx hb dX11_row_4 (by decide) (fun c => absurd c (by decide)) (fun c => ?_)
    refine lv_iload_n hx hb dX11_row_7 rfl (lv_at hl 2 rfl) ?_
    refine lv_if_lt (tgt := 22) hx hb dX11_row_8 (by decide) (fun c => ?_) (fun c => ?_)
    · skip
      have c_6 : x1.toInt < 0 := (by have z := bn_lt c; have k1 : (0 : Int32).toInt = 0 := (by decide); omega)
      refine lv_iconst (v := (-1)) hx hb dX11_row_22 (by decide) ?_
      have k99 : ((-1) : Int32).toInt = (-1) := (by decide)
      exact hret _ _ _ _ (-1) f L Q dX11_row_23 hP hS ⟨⟨hI, hF, trivial, rfl, hJ⟩, Or.inr (Or.inr (⟨rfl, by omega⟩))⟩
    · skip
      have c_7 : 0 ≤ x1.toInt := (by have z := bn_nlt c; have k1 : (0 : Int32).toInt = 0 := (by decide); omega)
      refine lv_iload_n hx hb dX11_row_11 rfl (lv_at hl 2 rfl) ?_
      refine lv_iconst (v := 4) hx hb dX11_row_12 (by decide) ?_
      refine lv_icmp_gt (tgt := 22) hx hb dX11_row_13 (by decide) (fun c => ?_) (fun c => ?_)
      · skip
        have c_8 : 4 < x1.toInt := (by have z := bn_lt c; have k1 : (4 : Int32).toInt = 4 := (by decide); omega)
        refine lv_iconst (v := (-1)) hx hb dX11_row_22 (by decide) ?_
        have k99 : ((-1) : Int32).toInt = (-1) := (by decide)
        exact hret _ _ _ _ (-1) f L Q dX11_row_23 hP hS ⟨⟨hI, hF, trivial, rfl, hJ⟩, Or.inr (Or.inr (⟨rfl, by omega⟩))⟩
      · skip
        have c_9 : x1.toInt ≤ 4 := (by have z := bn_nlt c; have k1 : (4 : Int32).toInt = 4 := (by decide); omega)
        refine lv_iload_n hx hb dX11_row_16 rfl (lv_at hl 3 rfl) ?_
        refine lv_bipush (v := 60) hx hb dX11_row_17 (by decide) ?_
        refine lv_icmp_le (tgt := 24) hx hb dX11_row_19 (by decide) (fun c => ?_) (fun c => ?_)
        · skip
          have c_10 : x2.toInt ≤ 60 := (by have z := bn_le c; have k1 : (60 : Int32).toInt = 60 := (by decide); omega)
          refine lv_iload_n hx hb dX11_row_24 rfl (lv_at hl 3 rfl) ?_
          refine lv_if_ge (tgt := 31) hx hb dX11_row_25 (by decide) (fun c => ?_) (fun c => ?_)
          · skip
            have c_12 : 0 ≤ x2.toInt := (by have z := bn_le c; have k1 : (0 : Int32).toInt = 0 := (by decide); omega)
            refine lv_aload_n hx hb dX11_row_31 rfl (lv_at hl 0 rfl) ?_
            refine sg_get (ci := 11) (v := .ref (h 39)) (C := RX11) (T := TX11) (N := 10) hx hb hts (fun w h => List.mem_cons_of_mem _ (gx_11 w h)) hown hK hP 0 (by decide) rfl rfl 9 (by decide) (hts _ (List.mem_cons_of_mem _ mw_41)) (fun _ h9 => h9) rfl dX11_row_32 ?_
            refine lv_iload_n hx hb dX11_row_35 rfl (lv_at hl 1 rfl) ?_
            obtain ⟨t_14, et_14⟩ : ∃ z : Nat, z = x0.toNatClampNeg := ⟨_, rfl⟩
            have ht_t_14 : t_14 < 6 := by rw [et_14]; exact bn_kI (by omega) (by omega)
            refine sg_aald hx hb hK hP 39 (by decide) 3 rfl rfl (i := x0) (a := (h (40 + 2 * t_14))) (vp_in_iff.mpr ⟨by omega, by omega⟩) (show (if x0.toNatClampNeg < 6 then some (h (40 + 2 * x0.toNatClampNeg)) else none) = some (h (40 + 2 * t_14)) from by rw [← et_14, if_pos ht_t_14]) dX11_row_36 ?_
            refine lv_iload_n hx hb dX11_row_37 rfl (lv_at hl 2 rfl) ?_
            refine lv_iload_n hx hb dX11_row_38 rfl (lv_at hl 3 rfl) ?_
            refine sg_callv (va_runV (As := [.int x1, .int x2]) (rest := []) ⟨hx, hb, hml, hown, hts⟩ (kX7_takesRow l D ca za h hh f L Q hI hJ x1 x2 t_14 ht_t_14 (by omega) (by omega) H.size) (cwV 2 hts (gw_V (fun _ h => List.mem_cons_of_mem _ h) mw_118 mw_119 mw_120 mw_121 mw_117) rfl rfl rfl (by decide +kernel) ⟨Nat.le_of_ble_eq_true rfl, Nat.le_of_ble_eq_true rfl⟩) (sg_preV (ci := 7) (C := RX7) (T := TX7) (N := 4) hA hK hP hS hZ (40 + 2 * t_14) (by have := ht_t_14; omega) (eX_sh ca h ht_t_14 _ _ _) rfl) rfl rfl hl.1 rfl (lv_room (Nat.le_of_ble_eq_true rfl)) dX11_row_39 ⟨Nat.le_refl _, Nat.le_refl _⟩) hA hS (fun f_15 L_16 Q_17 H locs hq hP hS => ?_)
            obtain ⟨hI, hk_f_15, eL9, eQ9, hJ⟩ := hq
            rw [eQ9] at hP; clear eQ9
            clear eL9
            have hF : sgK WkX11_row f f_15 := sgK.tr hF hk_f_15 (by decide)
            refine lv_iconst (v := 1) hx hb dX11_row_42 (by decide) ?_
            have k99 : (1 : Int32).toInt = 1 := (by decide)
            exact hret _ _ _ _ (1) f_15 L_16 Q dX11_row_43 hP hS ⟨⟨hI, hF, trivial, rfl, hJ⟩, Or.inl ⟨rfl, by omega⟩⟩
          · skip
            have c_13 : x2.toInt < 0 := (by have z := bn_nle c; have k1 : (0 : Int32).toInt = 0 := (by decide); omega)
            refine lv_bipush (v := (-14)) hx hb dX11_row_28 (by decide) ?_
            have k99 : ((-14) : Int32).toInt = (-14) := (by decide)
            exact hret _ _ _ _ (-14) f L Q dX11_row_30 hP hS ⟨⟨hI, hF, trivial, rfl, hJ⟩, Or.inr (Or.inl ⟨rfl, by omega⟩)⟩
        · skip
          have c_11 : 60 < x2.toInt := (by have z := bn_nle c; have k1 : (60 : Int32).toInt = 60 := (by decide); omega)
          refine lv_iconst (v := (-1)) hx hb dX11_row_22 (by decide) ?_
          have k99 : ((-1) : Int32).toInt = (-1) := (by decide)
          exact hret _ _ _ _ (-1) f L Q dX11_row_23 hP hS ⟨⟨hI, hF, trivial, rfl, hJ⟩, Or.inr (Or.inr (⟨rfl, by omega⟩))⟩
  · skip
    have q_18 := hq
    refine lv_if_eq (tgt := 22) hx hb dX11_row_4 (by decide) (fun c => ?_) (fun c => absurd c (by decide))
    refine lv_iconst (v := (-1)) hx hb dX11_row_22 (by decide) ?_
    have k99 : ((-1) : Int32).toInt = (-1) := (by decide)
    exact hret _ _ _ _ (-1) f L Q dX11_row_23 hP hS ⟨⟨hI, hF, trivial, rfl, hJ⟩, Or.inr (Or.inr (⟨rfl, by omega⟩))⟩

set_option maxHeartbeats 4000000 in
set_option maxRecDepth 100000 in
theorem kX7_isRow (l : Launch) (D : va_G) (ca : Nat → ClassId) (za h : Nat → Nat) (hh : sgH 52 h) (f : sg_F) (L : sg_L) (Q : sg_Q) (hI : sgI loX hiX f) (t : Nat) (ht_t : t < 6) (sz : Nat) : Met l yX7_isRow gwX7_isRow { frames := 0, cells := 0, slots := 0, locals := 0 } (sgP D vwCl (tyX ca) 52 h (eX ca h) zcX za f L Q sz [.ref (h (40 + 2 * t))]) (sgQi D vwCl 52 h (eX ca h) sz (fun r f1 L1 Q1 => ((f1 = f ∧ L1 = L ∧ Q1 = Q) ∧ (0 ≤ r.toInt ∧ r.toInt ≤ 1)))) 0 0 (sgA 52 h sz) := by
  refine sg_ofWz (cc := cX7_isRow) (maxL := 1) RX7 (by decide) rfl rfl (Nat.le_of_ble_eq_true rfl) ?_
  intro p e s m below meth cd Qz ls hx hb hml hown hts hK hZ hP hS hl hret
  have hA := sgY.self (n := 52) (h := h) (sz := s.heap.size)
  have hl : lv_has ls 1 [(0, .ref (h (40 + 2 * t)))] := hl
  obtain ⟨H, hH⟩ : ∃ z : Heap, z = s.heap := ⟨_, rfl⟩
  obtain ⟨locs, hlo⟩ : ∃ z : List Loc, z = [] := ⟨_, rfl⟩
  have hP : va_P D vwCl (sgw 52 h (eX ca h) f L Q) H := by rw [hH]; exact hP
  have hS : va_S (sgA 52 h s.heap.size) s.heap H locs := by rw [hH, hlo]; exact hS
  suffices hgo : W p l e ({ frames := 0, cells := 0, slots := 0, locals := 0 }) s m ([.ref (h (40 + 2 * t))] : List Value).toArray below meth cd H locs 0 0 Qz (F0 m 0 ls []) by rw [hH, hlo] at hgo; exact hgo
  clear hH hlo
  refine lv_aload_n hx hb dX7_isRow_0 rfl (lv_at hl 0 rfl) ?_
  refine sg_get (ci := 7) (v := .int (f (40 + 2 * t) 1)) (C := RX7) (T := TX7) (N := 4) hx hb hts (fun w h => List.mem_cons_of_mem _ (gx_7 w h)) hown hK hP (40 + 2 * t) (by have := ht_t; omega) (eX_sh ca h ht_t _ _ _) rfl 1 (by decide) (hts _ (List.mem_cons_of_mem _ mw_84)) (fun _ h9 => h9) rfl dX7_isRow_1 ?_
  refine lv_topi (fun v_1 ev_1 => ?_)
  have q_2 : (-2) ≤ v_1.toInt ∧ v_1.toInt ≤ 4 := by rw [ev_1]; exact shb_1 hI ht_t
  refine lv_if_lt (tgt := 11) hx hb dX7_isRow_4 (by decide) (fun c => ?_) (fun c => ?_)
  · skip
    have c_3 : v_1.toInt < 0 := (by have z := bn_lt c; have k1 : (0 : Int32).toInt = 0 := (by decide); omega)
    refine lv_iconst (v := 0) hx hb dX7_isRow_11 (by decide) ?_
    have k99 : (0 : Int32).toInt = 0 := (by decide)
    exact hret _ _ _ _ (0) f L Q dX7_isRow_12 (by decide) hP hS ⟨⟨rfl, rfl, rfl⟩, (by decide)⟩
  · skip
    have c_4 : 0 ≤ v_1.toInt := (by have z := bn_nlt c; have k1 : (0 : Int32).toInt = 0 := (by decide); omega)
    refine lv_iconst (v := 1) hx hb dX7_isRow_7 (by decide) ?_
    refine lv_goto (tgt := 12) hx hb dX7_isRow_8 (by decide) ?_
    have k99 : (1 : Int32).toInt = 1 := (by decide)
    exact hret _ _ _ _ (1) f L Q dX7_isRow_12 (by decide) hP hS ⟨⟨rfl, rfl, rfl⟩, (by decide)⟩

set_option maxHeartbeats 4000000 in
set_option maxRecDepth 100000 in
theorem kX11_refusalAt (l : Launch) (D : va_G) (ca : Nat → ClassId) (za h : Nat → Nat) (hh : sgH 52 h) (f : sg_F) (L : sg_L) (Q : sg_Q) (hI : sgI loX hiX f) (x0 : Int32) (x1 : Int32) (sz : Nat) : Met l yX11_refusalAt gwX11_refusalAt { frames := 1, cells := 0, slots := 0, locals := 22 } (sgP D vwCl (tyX ca) 52 h (eX ca h) zcX za f L Q sz [.ref (h 0), .int x0, .int x1]) (sgQi D vwCl 52 h (eX ca h) sz (fun r f1 L1 Q1 => ((f1 = f ∧ L1 = L ∧ Q1 = Q) ∧ ((r = 0 ∧ (0 ≤ x0.toInt ∧ x0.toInt ≤ 5 ∧ 0 ≤ x1.toInt ∧ x1.toInt ≤ 59)) ∨ (r.toInt = -1 ∨ r.toInt = -11 ∨ r.toInt = -12 ∨ r.toInt = -13))))) 0 0 (sgA 52 h sz) := by
  refine sg_ofWi (cc := cX11_refusalAt) (maxL := 4) RX11 (by decide) rfl rfl (Nat.le_of_ble_eq_true rfl) ?_
  intro p e s m below meth cd Qz ls hx hb hml hown hts hK hZ hP hS hl hret
  have hA := sgY.self (n := 52) (h := h) (sz := s.heap.size)
  have hl : lv_has ls 4 [(0, .ref (h 0)), (1, .int x0), (2, .int x1)] := hl
  obtain ⟨H, hH⟩ : ∃ z : Heap, z = s.heap := ⟨_, rfl⟩
  obtain ⟨locs, hlo⟩ : ∃ z : List Loc, z = [] := ⟨_, rfl⟩
  have hP : va_P D vwCl (sgw 52 h (eX ca h) f L Q) H := by rw [hH]; exact hP
  have hS : va_S (sgA 52 h s.heap.size) s.heap H locs := by rw [hH, hlo]; exact hS
  suffices hgo : W p l e ({ frames := 1, cells := 0, slots := 0, locals := 22 }) s m ([.ref (h 0), .int x0, .int x1] : List Value).toArray below meth cd H locs 0 0 Qz (F0 m 0 ls []) by rw [hH, hlo] at hgo; exact hgo
  clear hH hlo
  refine lv_iload_n hx hb dX11_refusalAt_0 rfl (lv_at hl 1 rfl) ?_
  refine sg_calli (va_runS (As := [.int x0]) (rest := []) ⟨hx, hb, hml, hown, hts⟩ (kX11_isShelf l D ca za h hh f L Q hI x0 H.size) (va_cwS 1 hts (gw_S (fun _ h => List.mem_cons_of_mem _ h) mw_35 mw_36 mw_37 mw_34) rfl rfl rfl (by decide +kernel) ⟨Nat.le_of_ble_eq_true rfl, Nat.le_of_ble_eq_true rfl⟩) (sg_preS hA hK hP hS hZ) rfl rfl hl.1 rfl (lv_room (Nat.le_of_ble_eq_true rfl)) dX11_refusalAt_1 ⟨Nat.le_refl _, Nat.le_refl _⟩) hA hS (fun r_4 f_1 L_2 Q_3 H locs hq hP hS => ?_)
  obtain ⟨⟨ef9, eL9, eQ9⟩, hq⟩ := hq
  rw [ef9, eL9, eQ9] at hP; clear ef9 eL9 eQ9
  rcases hq with ⟨rfl, hq⟩ | ⟨rfl, hq⟩
  · skip
    have q_5 := hq
    refine lv_if_ne (tgt := 9) hx hb dX11_refusalAt_4 (by decide) (fun c => ?_) (fun c => absurd c (by decide))
    refine lv_aload_n hx hb dX11_refusalAt_9 rfl (lv_at hl 0 rfl) ?_
    refine sg_get (ci := 11) (v := .ref (h 39)) (C := RX11) (T := TX11) (N := 10) hx hb hts (fun w h => List.mem_cons_of_mem _ (gx_11 w h)) hown hK hP 0 (by decide) rfl rfl 9 (by decide) (hts _ (List.mem_cons_of_mem _ mw_41)) (fun _ h9 => h9) rfl dX11_refusalAt_10 ?_
    refine lv_iload_n hx hb dX11_refusalAt_13 rfl (lv_at hl 1 rfl) ?_
    obtain ⟨t_6, et_6⟩ : ∃ z : Nat, z = x0.toNatClampNeg := ⟨_, rfl⟩
    have ht_t_6 : t_6 < 6 := by rw [et_6]; exact bn_kI (by omega) (by omega)
    refine sg_aald hx hb hK hP 39 (by decide) 3 rfl rfl (i := x0) (a := (h (40 + 2 * t_6))) (vp_in_iff.mpr ⟨by omega, by omega⟩) (show (if x0.toNatClampNeg < 6 then some (h (40 + 2 * x0.toNatClampNeg)) else none) = some (h (40 + 2 * t_6)) from by rw [← et_6, if_pos ht_t_6]) dX11_refusalAt_14 ?_
    refine lv_astore_n (lv' := [(3, .ref (h (40 + 2 * t_6))), (0, .ref (h 0)), (1, .int x0), (2, .int x1)]) hx hb dX11_refusalAt_15 rfl hl (by decide) rfl (fun ls hl => ?_)
    refine lv_aload_n hx hb dX11_refusalAt_16 rfl (lv_at hl 0 rfl) ?_
    refine sg_get (ci := 7) (v := .int (f (40 + 2 * t_6) 1)) (C := RX7) (T := TX7) (N := 4) hx hb hts (fun w h => List.mem_cons_of_mem _ (gx_7 w h)) hown hK hP (40 + 2 * t_6) (by have := ht_t_6; omega) (eX_sh ca h ht_t_6 _ _ _) rfl 1 (by decide) (hts _ (List.mem_cons_of_mem _ mw_42)) (fun _ h9 => h9) rfl dX11_refusalAt_17 ?_
    refine lv_topi (fun v_7 ev_7 => ?_)
    have q_8 : (-2) ≤ v_7.toInt ∧ v_7.toInt ≤ 4 := by rw [ev_7]; exact shb_1 hI ht_t_6
    refine lv_iconst (v := (-1)) hx hb dX11_refusalAt_20 (by decide) ?_
    refine lv_icmp_ne (tgt := 27) hx hb dX11_refusalAt_21 (by decide) (fun c => ?_) (fun c => ?_)
    · skip
      have c_9 : v_7.toInt ≠ (-1) := (by have z := bn_ne c; have k1 : ((-1) : Int32).toInt = (-1) := (by decide); omega)
      refine lv_aload_n hx hb dX11_refusalAt_27 rfl (lv_at hl 0 rfl) ?_
      refine sg_calli (va_runV (As := []) (rest := []) ⟨hx, hb, hml, hown, hts⟩ (kX7_isRow l D ca za h hh f L Q hI t_6 ht_t_6 H.size) (cwV 0 hts (gw_V (fun _ h => List.mem_cons_of_mem _ h) mw_207 mw_208 mw_209 mw_121 mw_206) rfl rfl rfl (by decide +kernel) ⟨Nat.le_of_ble_eq_true rfl, Nat.le_of_ble_eq_true rfl⟩) (sg_preV (ci := 7) (C := RX7) (T := TX7) (N := 4) hA hK hP hS hZ (40 + 2 * t_6) (by have := ht_t_6; omega) (eX_sh ca h ht_t_6 _ _ _) rfl) rfl rfl hl.1 rfl (lv_room (Nat.le_of_ble_eq_true rfl)) dX11_refusalAt_28 ⟨Nat.le_refl _, Nat.le_refl _⟩) hA hS (fun r_14 f_11 L_12 Q_13 H locs hq hP hS => ?_)
      obtain ⟨⟨ef9, eL9, eQ9⟩, hq⟩ := hq
      rw [ef9, eL9, eQ9] at hP; clear ef9 eL9 eQ9
      refine lv_if_ne (tgt := 37) hx hb dX11_refusalAt_31 (by decide) (fun c => ?_) (fun c => ?_)
      · skip
        have c_15 : r_14.toInt ≠ 0 := (by have z := bn_ne c; have k1 : (0 : Int32).toInt = 0 := (by decide); omega)
        refine lv_aload_n hx hb dX11_refusalAt_37 rfl (lv_at hl 0 rfl) ?_
        refine lv_iload_n hx hb dX11_refusalAt_38 rfl (lv_at hl 3 rfl) ?_
        refine lv_iconst (v := 1) hx hb dX11_refusalAt_39 (by decide) ?_
        obtain ⟨v_17, ev_17⟩ : ∃ z : Int32, z = f (40 + 2 * t_6) 2 := ⟨_, rfl⟩
        have q_18 : 0 ≤ v_17.toInt ∧ v_17.toInt ≤ 60 := by rw [ev_17]; exact shb_2 hI ht_t_6
        have q_19 : (f (40 + 2 * t_6) 2).toInt = v_17.toInt := (congrArg Int32.toInt (show f (40 + 2 * t_6) 2 = v_17 from ev_17.symm))
        refine sg_calli (va_runV (As := [.int x1, .int 1]) (rest := []) ⟨hx, hb, hml, hown, hts⟩ (kX7_hasPlaces l D ca za h hh f L Q hI x1 1 t_6 ht_t_6 H.size) (cwV 2 hts (gw_V (fun _ h => List.mem_cons_of_mem _ h) mw_180 mw_181 mw_182 mw_121 mw_179) rfl rfl rfl (by decide +kernel) ⟨Nat.le_of_ble_eq_true rfl, Nat.le_of_ble_eq_true rfl⟩) (sg_preV (ci := 7) (C := RX7) (T := TX7) (N := 4) hA hK hP hS hZ (40 + 2 * t_6) (by have := ht_t_6; omega) (eX_sh ca h ht_t_6 _ _ _) rfl) rfl rfl hl.1 rfl (lv_room (Nat.le_of_ble_eq_true rfl)) dX11_refusalAt_40 ⟨Nat.le_refl _, Nat.le_refl _⟩) hA hS (fun r_23 f_20 L_21 Q_22 H locs hq hP hS => ?_)
        obtain ⟨⟨ef9, eL9, eQ9⟩, hq⟩ := hq
        rw [ef9, eL9, eQ9] at hP; clear ef9 eL9 eQ9
        have k_24 : (1 : Int32).toInt = 1 := by decide
        rcases hq with ⟨rfl, hq⟩ | ⟨rfl, hq⟩
        · skip
          have q_25 := hq
          refine lv_if_eq (tgt := 50) hx hb dX11_refusalAt_43 (by decide) (fun c => absurd c (by decide)) (fun c => ?_)
          refine lv_iconst (v := 0) hx hb dX11_refusalAt_46 (by decide) ?_
          refine lv_goto (tgt := 52) hx hb dX11_refusalAt_47 (by decide) ?_
          have k99 : (0 : Int32).toInt = 0 := (by decide)
          exact hret _ _ _ _ (0) f L Q dX11_refusalAt_52 hP hS ⟨⟨rfl, rfl, rfl⟩, (by first | exact Or.inl ⟨rfl, by omega⟩ | exact Or.inr ((by omega)))⟩
        · skip
          have q_26 := hq
          refine lv_if_eq (tgt := 50) hx hb dX11_refusalAt_43 (by decide) (fun c => ?_) (fun c => absurd c (by decide))
          refine lv_bipush (v := (-13)) hx hb dX11_refusalAt_50 (by decide) ?_
          have k99 : ((-13) : Int32).toInt = (-13) := (by decide)
          exact hret _ _ _ _ (-13) f L Q dX11_refusalAt_52 hP hS ⟨⟨rfl, rfl, rfl⟩, Or.inr ((by omega))⟩
      · skip
        have c_16 : r_14.toInt = 0 := (by have z := Int32.toInt_inj.mpr c; have k1 : (0 : Int32).toInt = 0 := (by decide); omega)
        refine lv_bipush (v := (-12)) hx hb dX11_refusalAt_34 (by decide) ?_
        have k99 : ((-12) : Int32).toInt = (-12) := (by decide)
        exact hret _ _ _ _ (-12) f L Q dX11_refusalAt_36 hP hS ⟨⟨rfl, rfl, rfl⟩, Or.inr ((by omega))⟩
    · skip
      have c_10 : v_7.toInt = (-1) := (by have z := Int32.toInt_inj.mpr c; have k1 : ((-1) : Int32).toInt = (-1) := (by decide); omega)
      refine lv_bipush (v := (-11)) hx hb dX11_refusalAt_24 (by decide) ?_
      have k99 : ((-11) : Int32).toInt = (-11) := (by decide)
      exact hret _ _ _ _ (-11) f L Q dX11_refusalAt_26 hP hS ⟨⟨rfl, rfl, rfl⟩, Or.inr ((by omega))⟩
  · skip
    have q_27 := hq
    refine lv_if_ne (tgt := 9) hx hb dX11_refusalAt_4 (by decide) (fun c => absurd c (by decide)) (fun c => ?_)
    refine lv_iconst (v := (-1)) hx hb dX11_refusalAt_7 (by decide) ?_
    have k99 : ((-1) : Int32).toInt = (-1) := (by decide)
    exact hret _ _ _ _ (-1) f L Q dX11_refusalAt_8 hP hS ⟨⟨rfl, rfl, rfl⟩, Or.inr ((by omega))⟩

set_option maxHeartbeats 4000000 in
set_option maxRecDepth 100000 in
theorem kX7_cut (l : Launch) (D : va_G) (ca : Nat → ClassId) (za h : Nat → Nat) (hh : sgH 52 h) (f : sg_F) (L : sg_L) (Q : sg_Q) (hI : sgI loX hiX f) (x0 : Int64) (t : Nat) (ht_t : t < 6) (sz : Nat) : Met l yX7_cut gwX7_cut { frames := 0, cells := 0, slots := 0, locals := 0 } (sgP D vwCl (tyX ca) 52 h (eX ca h) zcX za f L Q sz [.ref (h (40 + 2 * t)), .long x0]) (sgQl D vwCl 52 h (eX ca h) sz (fun r f1 L1 Q1 => ((f1 = f ∧ L1 = L ∧ Q1 = Q) ∧ True))) 0 0 (sgA 52 h sz) := by
  refine sg_ofWl (cc := cX7_cut) (maxL := 3) RX7 (by decide) rfl rfl (Nat.le_of_ble_eq_true rfl) ?_
  intro p e s m below meth cd Qz ls hx hb hml hown hts hK hZ hP hS hl hret
  have hA := sgY.self (n := 52) (h := h) (sz := s.heap.size)
  have hl : lv_has ls 3 [(0, .ref (h (40 + 2 * t))), (1, .long x0)] := hl
  obtain ⟨H, hH⟩ : ∃ z : Heap, z = s.heap := ⟨_, rfl⟩
  obtain ⟨locs, hlo⟩ : ∃ z : List Loc, z = [] := ⟨_, rfl⟩
  have hP : va_P D vwCl (sgw 52 h (eX ca h) f L Q) H := by rw [hH]; exact hP
  have hS : va_S (sgA 52 h s.heap.size) s.heap H locs := by rw [hH, hlo]; exact hS
  suffices hgo : W p l e ({ frames := 0, cells := 0, slots := 0, locals := 0 }) s m ([.ref (h (40 + 2 * t)), .long x0] : List Value).toArray below meth cd H locs 0 0 Qz (F0 m 0 ls []) by rw [hH, hlo] at hgo; exact hgo
  clear hH hlo
  refine lv_aload_n hx hb dX7_cut_0 rfl (lv_at hl 0 rfl) ?_
  refine sg_get (ci := 7) (v := .int (f (40 + 2 * t) 1)) (C := RX7) (T := TX7) (N := 4) hx hb hts (fun w h => List.mem_cons_of_mem _ (gx_7 w h)) hown hK hP (40 + 2 * t) (by have := ht_t; omega) (eX_sh ca h ht_t _ _ _) rfl 1 (by decide) (hts _ (List.mem_cons_of_mem _ mw_84)) (fun _ h9 => h9) rfl dX7_cut_1 ?_
  refine lv_topi (fun v_1 ev_1 => ?_)
  have q_2 : (-2) ≤ v_1.toInt ∧ v_1.toInt ≤ 4 := by rw [ev_1]; exact shb_1 hI ht_t
  rcases (show (v_1.toInt ≠ 0 ∧ v_1.toInt ≠ 1 ∧ v_1.toInt ≠ 2 ∧ v_1.toInt ≠ 4) ∨ v_1.toInt = 0 ∨ v_1.toInt = 1 ∨ v_1.toInt = 2 ∨ v_1.toInt = 4 from by omega) with c | c | c | c | c
  · skip
    rcases (show (v_1.toInt < 0 ∨ 4 < v_1.toInt) ∨ v_1.toInt = 3 from by omega) with c9 | c9
    · skip
      refine lv_tableOut (x := v_1) (tgt := 66) hx hb dX7_cut_4 c9 (by decide) ?_
      refine lv_lload_n hx hb dX7_cut_66 rfl (lv_at hl 1 rfl) ?_
      exact hret _ _ _ _ (x0) f L Q dX7_cut_67 hP hS ⟨⟨rfl, rfl, rfl⟩, trivial⟩
    · skip
      refine lv_tableIn (x := v_1) (tgt := 66) hx hb dX7_cut_4 (by omega) (by omega) (by rw [c9]; rfl) (by decide) ?_
      refine lv_lload_n hx hb dX7_cut_66 rfl (lv_at hl 1 rfl) ?_
      exact hret _ _ _ _ (x0) f L Q dX7_cut_67 hP hS ⟨⟨rfl, rfl, rfl⟩, trivial⟩
  · skip
    have c_3 := c
    refine lv_tableIn (x := v_1) (tgt := 40) hx hb dX7_cut_4 (by omega) (by omega) (by rw [c]; rfl) (by decide) ?_
    refine lv_lload_n hx hb dX7_cut_40 rfl (lv_at hl 1 rfl) ?_
    obtain ⟨v_4, ev_4⟩ : ∃ z : Int32, z = Int64.toInt32 x0 := ⟨_, rfl⟩
    refine lv_l2i (v := v_4) hx hb dX7_cut_41 ev_4.symm ?_
    obtain ⟨v_5, ev_5⟩ : ∃ z : Int32, z = (Int32.toInt8 v_4).toInt32 := ⟨_, rfl⟩
    refine lv_i2b (v := v_5) hx hb dX7_cut_42 ev_5.symm ?_
    obtain ⟨w_6, ew_6⟩ : ∃ z : Int64, z = Int32.toInt64 v_5 := ⟨_, rfl⟩
    have q_7 : w_6.toInt = v_5.toInt := by rw [ew_6]; exact Int32.toInt_toInt64 _
    refine lv_i2l (v := w_6) hx hb dX7_cut_43 ew_6.symm ?_
    exact hret _ _ _ _ (w_6) f L Q dX7_cut_44 hP hS ⟨⟨rfl, rfl, rfl⟩, trivial⟩
  · skip
    have c_8 := c
    refine lv_tableIn (x := v_1) (tgt := 45) hx hb dX7_cut_4 (by omega) (by omega) (by rw [c]; rfl) (by decide) ?_
    refine lv_lload_n hx hb dX7_cut_45 rfl (lv_at hl 1 rfl) ?_
    obtain ⟨v_9, ev_9⟩ : ∃ z : Int32, z = Int64.toInt32 x0 := ⟨_, rfl⟩
    refine lv_l2i (v := v_9) hx hb dX7_cut_46 ev_9.symm ?_
    obtain ⟨v_10, ev_10⟩ : ∃ z : Int32, z = (Int32.toInt16 v_9).toInt32 := ⟨_, rfl⟩
    refine lv_i2s (v := v_10) hx hb dX7_cut_47 ev_10.symm ?_
    obtain ⟨w_11, ew_11⟩ : ∃ z : Int64, z = Int32.toInt64 v_10 := ⟨_, rfl⟩
    have q_12 : w_11.toInt = v_10.toInt := by rw [ew_11]; exact Int32.toInt_toInt64 _
    refine lv_i2l (v := w_11) hx hb dX7_cut_48 ew_11.symm ?_
    exact hret _ _ _ _ (w_11) f L Q dX7_cut_49 hP hS ⟨⟨rfl, rfl, rfl⟩, trivial⟩
  · skip
    have c_13 := c
    refine lv_tableIn (x := v_1) (tgt := 50) hx hb dX7_cut_4 (by omega) (by omega) (by rw [c]; rfl) (by decide) ?_
    refine lv_lload_n hx hb dX7_cut_50 rfl (lv_at hl 1 rfl) ?_
    obtain ⟨v_14, ev_14⟩ : ∃ z : Int32, z = Int64.toInt32 x0 := ⟨_, rfl⟩
    refine lv_l2i (v := v_14) hx hb dX7_cut_51 ev_14.symm ?_
    obtain ⟨w_15, ew_15⟩ : ∃ z : Int64, z = Int32.toInt64 v_14 := ⟨_, rfl⟩
    have q_16 : w_15.toInt = v_14.toInt := by rw [ew_15]; exact Int32.toInt_toInt64 _
    refine lv_i2l (v := w_15) hx hb dX7_cut_52 ew_15.symm ?_
    exact hret _ _ _ _ (w_15) f L Q dX7_cut_53 hP hS ⟨⟨rfl, rfl, rfl⟩, trivial⟩
  · skip
    have c_17 := c
    refine lv_tableIn (x := v_1) (tgt := 54) hx hb dX7_cut_4 (by omega) (by omega) (by rw [c]; rfl) (by decide) ?_
    refine lv_lload_n hx hb dX7_cut_54 rfl (lv_at hl 1 rfl) ?_
    refine lv_lconst (v := 0) hx hb dX7_cut_55 (by decide) ?_
    refine W.lcmp hx hb dX7_cut_56 ?_
    refine lv_topi (fun v_18 ev_18 => ?_)
    have q_19 : (v_18.toInt = -1 ∧ x0.toInt < 0) ∨ (v_18.toInt = 0 ∧ x0.toInt = 0) ∨ (v_18.toInt = 1 ∧ 0 < x0.toInt) := by rw [ev_18]; have k1 : (0 : Int64).toInt = 0 := (by decide); have z := bn_lcmpI (x0 : Int64) (0 : Int64); omega
    refine lv_if_eq (tgt := 64) hx hb dX7_cut_57 (by decide) (fun c => ?_) (fun c => ?_)
    · skip
      have c_20 : v_18.toInt = 0 := (by have z := Int32.toInt_inj.mpr c; have k1 : (0 : Int32).toInt = 0 := (by decide); omega)
      refine lv_lconst (v := 0) hx hb dX7_cut_64 (by decide) ?_
      exact hret _ _ _ _ (0) f L Q dX7_cut_65 hP hS ⟨⟨rfl, rfl, rfl⟩, trivial⟩
    · skip
      have c_21 : v_18.toInt ≠ 0 := (by have z := bn_ne c; have k1 : (0 : Int32).toInt = 0 := (by decide); omega)
      refine lv_lconst (v := 1) hx hb dX7_cut_60 (by decide) ?_
      refine lv_goto (tgt := 65) hx hb dX7_cut_61 (by decide) ?_
      exact hret _ _ _ _ (1) f L Q dX7_cut_65 hP hS ⟨⟨rfl, rfl, rfl⟩, trivial⟩

set_option maxHeartbeats 4000000 in
set_option maxRecDepth 100000 in
theorem kX11_put (l : Launch) (D : va_G) (ca : Nat → ClassId) (za h : Nat → Nat) (hh : sgH 52 h) (f : sg_F) (L : sg_L) (Q : sg_Q) (hI : sgI loX hiX f) (x0 : Int32) (x1 : Int32) (x2 : Int64) (sz : Nat) : Met l yX11_put gwX11_put { frames := 2, cells := 0, slots := 0, locals := 45 } (sgP D vwCl (tyX ca) 52 h (eX ca h) zcX za f L Q sz [.ref (h 0), .int x0, .int x1, .long x2]) (sgQi D vwCl 52 h (eX ca h) sz (fun r f1 L1 Q1 => ((f1 = f ∧ True ∧ Q1 = Q) ∧ ((-13) ≤ r.toInt ∧ r.toInt ≤ 1)))) 0 0 (sgA 52 h sz) := by
  refine sg_ofWi (cc := cX11_put) (maxL := 6) RX11 (by decide) rfl rfl (Nat.le_of_ble_eq_true rfl) ?_
  intro p e s m below meth cd Qz ls hx hb hml hown hts hK hZ hP hS hl hret
  have hA := sgY.self (n := 52) (h := h) (sz := s.heap.size)
  have hl : lv_has ls 6 [(0, .ref (h 0)), (1, .int x0), (2, .int x1), (3, .long x2)] := hl
  obtain ⟨H, hH⟩ : ∃ z : Heap, z = s.heap := ⟨_, rfl⟩
  obtain ⟨locs, hlo⟩ : ∃ z : List Loc, z = [] := ⟨_, rfl⟩
  have hP : va_P D vwCl (sgw 52 h (eX ca h) f L Q) H := by rw [hH]; exact hP
  have hS : va_S (sgA 52 h s.heap.size) s.heap H locs := by rw [hH, hlo]; exact hS
  suffices hgo : W p l e ({ frames := 2, cells := 0, slots := 0, locals := 45 }) s m ([.ref (h 0), .int x0, .int x1, .long x2] : List Value).toArray below meth cd H locs 0 0 Qz (F0 m 0 ls []) by rw [hH, hlo] at hgo; exact hgo
  clear hH hlo
  refine lv_aload_n hx hb dX11_put_0 rfl (lv_at hl 0 rfl) ?_
  refine lv_iload_n hx hb dX11_put_1 rfl (lv_at hl 1 rfl) ?_
  refine lv_iload_n hx hb dX11_put_2 rfl (lv_at hl 2 rfl) ?_
  refine sg_calli (va_runV (As := [.int x0, .int x1]) (rest := []) ⟨hx, hb, hml, hown, hts⟩ (kX11_refusalAt l D ca za h hh f L Q hI x0 x1 H.size) (cwV 2 hts (gw_V (fun _ h => List.mem_cons_of_mem _ h) mw_112 mw_113 mw_114 mw_37 mw_111) rfl rfl rfl (by decide +kernel) ⟨Nat.le_of_ble_eq_true rfl, Nat.le_of_ble_eq_true rfl⟩) (sg_preV (ci := 11) (C := RX11) (T := TX11) (N := 10) hA hK hP hS hZ 0 (by decide) rfl rfl) rfl rfl hl.1 rfl (lv_room (Nat.le_of_ble_eq_true rfl)) dX11_put_3 ⟨Nat.le_refl _, Nat.le_refl _⟩) hA hS (fun r_4 f_1 L_2 Q_3 H locs hq hP hS => ?_)
  obtain ⟨⟨ef9, eL9, eQ9⟩, hq⟩ := hq
  rw [ef9, eL9, eQ9] at hP; clear ef9 eL9 eQ9
  rcases hq with ⟨rfl, hq⟩ | hq
  · skip
    have q_5 := hq
    refine lv_istore (lv' := [(5, .int 0), (0, .ref (h 0)), (1, .int x0), (2, .int x1), (3, .long x2)]) hx hb dX11_put_6 hl (by decide) rfl (fun ls hl => ?_)
    refine lv_iload hx hb dX11_put_8 (lv_at hl 0 rfl) ?_
    refine lv_if_eq (tgt := 16) hx hb dX11_put_10 (by decide) (fun c => ?_) (fun c => absurd c (by decide))
    refine lv_aload_n hx hb dX11_put_16 rfl (lv_at hl 1 rfl) ?_
    refine sg_get (ci := 11) (v := .ref (h 39)) (C := RX11) (T := TX11) (N := 10) hx hb hts (fun w h => List.mem_cons_of_mem _ (gx_11 w h)) hown hK hP 0 (by decide) rfl rfl 9 (by decide) (hts _ (List.mem_cons_of_mem _ mw_41)) (fun _ h9 => h9) rfl dX11_put_17 ?_
    refine lv_iload_n hx hb dX11_put_20 rfl (lv_at hl 2 rfl) ?_
    obtain ⟨t_6, et_6⟩ : ∃ z : Nat, z = x0.toNatClampNeg := ⟨_, rfl⟩
    have ht_t_6 : t_6 < 6 := by rw [et_6]; exact bn_kI (by omega) (by omega)
    refine sg_aald hx hb hK hP 39 (by decide) 3 rfl rfl (i := x0) (a := (h (40 + 2 * t_6))) (vp_in_iff.mpr ⟨by omega, by omega⟩) (show (if x0.toNatClampNeg < 6 then some (h (40 + 2 * x0.toNatClampNeg)) else none) = some (h (40 + 2 * t_6)) from by rw [← et_6, if_pos ht_t_6]) dX11_put_21 ?_
    refine sg_get (ci := 7) (v := .ref (h (41 + 2 * t_6))) (C := RX7) (T := TX7) (N := 4) hx hb hts (fun w h => List.mem_cons_of_mem _ (gx_7 w h)) hown hK hP (40 + 2 * t_6) (by have := ht_t_6; omega) (eX_sh ca h ht_t_6 _ _ _) rfl 0 (by decide) (hts _ (List.mem_cons_of_mem _ mw_115)) (fun _ h9 => h9) rfl dX11_put_22 ?_
    refine lv_iload_n hx hb dX11_put_25 rfl (lv_at hl 3 rfl) ?_
    refine lv_aload_n hx hb dX11_put_26 rfl (lv_at hl 1 rfl) ?_
    refine sg_get (ci := 11) (v := .ref (h 39)) (C := RX11) (T := TX11) (N := 10) hx hb hts (fun w h => List.mem_cons_of_mem _ (gx_11 w h)) hown hK hP 0 (by decide) rfl rfl 9 (by decide) (hts _ (List.mem_cons_of_mem _ mw_41)) (fun _ h9 => h9) rfl dX11_put_27 ?_
    refine lv_iload_n hx hb dX11_put_30 rfl (lv_at hl 2 rfl) ?_
    refine sg_aald hx hb hK hP 39 (by decide) 3 rfl rfl (i := x0) (a := (h (40 + 2 * t_6))) (vp_in_iff.mpr ⟨by omega, by omega⟩) (show (if x0.toNatClampNeg < 6 then some (h (40 + 2 * x0.toNatClampNeg)) else none) = some (h (40 + 2 * t_6)) from by rw [← et_6, if_pos ht_t_6]) dX11_put_31 ?_
    refine lv_lload_n hx hb dX11_put_32 rfl (lv_at hl 4 rfl) ?_
    refine sg_calll (va_runV (As := [.long x2]) (rest := [.int x1, .ref (h (41 + 2 * t_6))]) ⟨hx, hb, hml, hown, hts⟩ (kX7_cut l D ca za h hh f L Q hI x2 t_6 ht_t_6 H.size) (cwV 1 hts (gw_V (fun _ h => List.mem_cons_of_mem _ h) mw_213 mw_214 mw_215 mw_121 mw_212) rfl rfl rfl (by decide +kernel) ⟨Nat.le_of_ble_eq_true rfl, Nat.le_of_ble_eq_true rfl⟩) (sg_preV (ci := 7) (C := RX7) (T := TX7) (N := 4) hA hK hP hS hZ (40 + 2 * t_6) (by have := ht_t_6; omega) (eX_sh ca h ht_t_6 _ _ _) rfl) rfl rfl hl.1 rfl (lv_room (Nat.le_of_ble_eq_true rfl)) dX11_put_33 ⟨Nat.le_refl _, Nat.le_refl _⟩) hA hS (fun r_10 f_7 L_8 Q_9 H locs hq hP hS => ?_)
    obtain ⟨⟨ef9, eL9, eQ9⟩, hq⟩ := hq
    rw [ef9, eL9, eQ9] at hP; clear ef9 eL9 eQ9
    clear hq
    refine sg_last hx hb hh hA hK hP hS (41 + 2 * t_6) (by have := ht_t_6; omega) 1 (fun _ => eX_el ca h ht_t_6 _ _ _) rfl (i := x1) (x := r_10) (vp_in_iff.mpr ⟨by omega, by omega⟩) dX11_put_36 (fun L_11 H locs eL_11 hP hS => ?_)
    refine lv_iconst (v := 1) hx hb dX11_put_37 (by decide) ?_
    have k99 : (1 : Int32).toInt = 1 := (by decide)
    exact hret _ _ _ _ (1) f L_11 Q dX11_put_38 hP hS ⟨⟨rfl, trivial, rfl⟩, (by decide)⟩
  · skip
    have q_12 := hq
    refine lv_istore (lv' := [(5, .int r_4), (0, .ref (h 0)), (1, .int x0), (2, .int x1), (3, .long x2)]) hx hb dX11_put_6 hl (by decide) rfl (fun ls hl => ?_)
    refine lv_iload hx hb dX11_put_8 (lv_at hl 0 rfl) ?_
    refine lv_if_eq (tgt := 16) hx hb dX11_put_10 (by decide) (fun c => ?_) (fun c => ?_)
    · skip
      exfalso; have c_13 : r_4.toInt = 0 := (by have z := Int32.toInt_inj.mpr c; have k1 : (0 : Int32).toInt = 0 := (by decide); omega); omega
    · skip
      have c_14 : r_4.toInt ≠ 0 := (by have z := bn_ne c; have k1 : (0 : Int32).toInt = 0 := (by decide); omega)
      refine lv_iload hx hb dX11_put_13 (lv_at hl 0 rfl) ?_
      exact hret _ _ _ _ (r_4) f L Q dX11_put_15 hP hS ⟨⟨rfl, trivial, rfl⟩, (by omega)⟩

set_option maxHeartbeats 4000000 in
set_option maxRecDepth 100000 in
theorem kX11_element (l : Launch) (D : va_G) (ca : Nat → ClassId) (za h : Nat → Nat) (hh : sgH 52 h) (f : sg_F) (L : sg_L) (Q : sg_Q) (hI : sgI loX hiX f) (x0 : Int32) (x1 : Int32) (sz : Nat) : Met l yX11_element gwX11_element { frames := 2, cells := 0, slots := 0, locals := 45 } (sgP D vwCl (tyX ca) 52 h (eX ca h) zcX za f L Q sz [.ref (h 0), .int x0, .int x1]) (sgQl D vwCl 52 h (eX ca h) sz (fun r f1 L1 Q1 => ((f1 = f ∧ L1 = L ∧ Q1 = Q) ∧ True))) 0 0 (sgA 52 h sz) := by
  refine sg_ofWl (cc := cX11_element) (maxL := 3) RX11 (by decide) rfl rfl (Nat.le_of_ble_eq_true rfl) ?_
  intro p e s m below meth cd Qz ls hx hb hml hown hts hK hZ hP hS hl hret
  have hA := sgY.self (n := 52) (h := h) (sz := s.heap.size)
  have hl : lv_has ls 3 [(0, .ref (h 0)), (1, .int x0), (2, .int x1)] := hl
  obtain ⟨H, hH⟩ : ∃ z : Heap, z = s.heap := ⟨_, rfl⟩
  obtain ⟨locs, hlo⟩ : ∃ z : List Loc, z = [] := ⟨_, rfl⟩
  have hP : va_P D vwCl (sgw 52 h (eX ca h) f L Q) H := by rw [hH]; exact hP
  have hS : va_S (sgA 52 h s.heap.size) s.heap H locs := by rw [hH, hlo]; exact hS
  suffices hgo : W p l e ({ frames := 2, cells := 0, slots := 0, locals := 45 }) s m ([.ref (h 0), .int x0, .int x1] : List Value).toArray below meth cd H locs 0 0 Qz (F0 m 0 ls []) by rw [hH, hlo] at hgo; exact hgo
  clear hH hlo
  refine lv_aload_n hx hb dX11_element_0 rfl (lv_at hl 0 rfl) ?_
  refine lv_iload_n hx hb dX11_element_1 rfl (lv_at hl 1 rfl) ?_
  refine lv_iload_n hx hb dX11_element_2 rfl (lv_at hl 2 rfl) ?_
  refine sg_calli (va_runV (As := [.int x0, .int x1]) (rest := []) ⟨hx, hb, hml, hown, hts⟩ (kX11_refusalAt l D ca za h hh f L Q hI x0 x1 H.size) (cwV 2 hts (gw_V (fun _ h => List.mem_cons_of_mem _ h) mw_112 mw_113 mw_114 mw_37 mw_111) rfl rfl rfl (by decide +kernel) ⟨Nat.le_of_ble_eq_true rfl, Nat.le_of_ble_eq_true rfl⟩) (sg_preV (ci := 11) (C := RX11) (T := TX11) (N := 10) hA hK hP hS hZ 0 (by decide) rfl rfl) rfl rfl hl.1 rfl (lv_room (Nat.le_of_ble_eq_true rfl)) dX11_element_3 ⟨Nat.le_refl _, Nat.le_refl _⟩) hA hS (fun r_4 f_1 L_2 Q_3 H locs hq hP hS => ?_)
  obtain ⟨⟨ef9, eL9, eQ9⟩, hq⟩ := hq
  rw [ef9, eL9, eQ9] at hP; clear ef9 eL9 eQ9
  rcases hq with ⟨rfl, hq⟩ | hq
  · skip
    have q_5 := hq
    refine lv_if_eq (tgt := 15) hx hb dX11_element_6 (by decide) (fun c => ?_) (fun c => absurd c (by decide))
    refine lv_aload_n hx hb dX11_element_15 rfl (lv_at hl 0 rfl) ?_
    refine sg_get (ci := 11) (v := .ref (h 39)) (C := RX11) (T := TX11) (N := 10) hx hb hts (fun w h => List.mem_cons_of_mem _ (gx_11 w h)) hown hK hP 0 (by decide) rfl rfl 9 (by decide) (hts _ (List.mem_cons_of_mem _ mw_41)) (fun _ h9 => h9) rfl dX11_element_16 ?_
    refine lv_iload_n hx hb dX11_element_19 rfl (lv_at hl 1 rfl) ?_
    obtain ⟨t_6, et_6⟩ : ∃ z : Nat, z = x0.toNatClampNeg := ⟨_, rfl⟩
    have ht_t_6 : t_6 < 6 := by rw [et_6]; exact bn_kI (by omega) (by omega)
    refine sg_aald hx hb hK hP 39 (by decide) 3 rfl rfl (i := x0) (a := (h (40 + 2 * t_6))) (vp_in_iff.mpr ⟨by omega, by omega⟩) (show (if x0.toNatClampNeg < 6 then some (h (40 + 2 * x0.toNatClampNeg)) else none) = some (h (40 + 2 * t_6)) from by rw [← et_6, if_pos ht_t_6]) dX11_element_20 ?_
    refine sg_get (ci := 7) (v := .ref (h (41 + 2 * t_6))) (C := RX7) (T := TX7) (N := 4) hx hb hts (fun w h => List.mem_cons_of_mem _ (gx_7 w h)) hown hK hP (40 + 2 * t_6) (by have := ht_t_6; omega) (eX_sh ca h ht_t_6 _ _ _) rfl 0 (by decide) (hts _ (List.mem_cons_of_mem _ mw_115)) (fun _ h9 => h9) rfl dX11_element_21 ?_
    refine lv_iload_n hx hb dX11_element_24 rfl (lv_at hl 2 rfl) ?_
    refine sg_lald hx hb hK hP (41 + 2 * t_6) (by have := ht_t_6; omega) 1 (eX_el ca h ht_t_6 _ _ _) rfl (i := x1) (vp_in_iff.mpr ⟨by omega, by omega⟩) dX11_element_25 ?_
    obtain ⟨w_7, ew_7⟩ : ∃ z : Int64, z = L (41 + 2 * t_6) (Int32.toNatClampNeg x1) := ⟨_, rfl⟩
    rw [← ew_7]
    exact hret _ _ _ _ (w_7) f L Q dX11_element_26 hP hS ⟨⟨rfl, rfl, rfl⟩, trivial⟩
  · skip
    have q_8 := hq
    refine lv_if_eq (tgt := 15) hx hb dX11_element_6 (by decide) (fun c => ?_) (fun c => ?_)
    · skip
      exfalso; have c_9 : r_4.toInt = 0 := (by have z := Int32.toInt_inj.mpr c; have k1 : (0 : Int32).toInt = 0 := (by decide); omega); omega
    · skip
      have c_10 : r_4.toInt ≠ 0 := (by have z := bn_ne c; have k1 : (0 : Int32).toInt = 0 := (by decide); omega)
      refine lv_ldc2 (v := (-9223372036854775808)) hx hb hown (hts _ (List.mem_cons_of_mem _ mw_116)) dX11_element_9 ?_
      refine lv_goto (tgt := 26) hx hb dX11_element_12 (by decide) ?_
      exact hret _ _ _ _ (-9223372036854775808) f L Q dX11_element_26 hP hS ⟨⟨rfl, rfl, rfl⟩, trivial⟩

set_option maxHeartbeats 4000000 in
set_option maxRecDepth 100000 in
theorem kX11_shift (l : Launch) (D : va_G) (ca : Nat → ClassId) (za h : Nat → Nat) (hh : sgH 52 h) (f : sg_F) (L : sg_L) (Q : sg_Q) (hI : sgI loX hiX f) (x0 : Int32) (x1 : Int32) (x2 : Int32) (x3 : Int32) (x4 : Int32) (sz : Nat) : Met l yX11_shift gwX11_shift { frames := 1, cells := 0, slots := 0, locals := 64 } (sgP D vwCl (tyX ca) 52 h (eX ca h) zcX za f L Q sz [.ref (h 0), .int x0, .int x1, .int x2, .int x3, .int x4]) (sgQi D vwCl 52 h (eX ca h) sz (fun r f1 L1 Q1 => ((f1 = f ∧ True ∧ Q1 = Q) ∧ ((-13) ≤ r.toInt ∧ r.toInt ≤ 60)))) 0 0 (sgA 52 h sz) := by
  refine sg_ofWi (cc := cX11_shift) (maxL := 8) RX11 (by decide) rfl rfl (Nat.le_of_ble_eq_true rfl) ?_
  intro p e s m below meth cd Qz ls hx hb hml hown hts hK hZ hP hS hl hret
  have hA := sgY.self (n := 52) (h := h) (sz := s.heap.size)
  have hl : lv_has ls 8 [(0, .ref (h 0)), (1, .int x0), (2, .int x1), (3, .int x2), (4, .int x3), (5, .int x4)] := hl
  obtain ⟨H, hH⟩ : ∃ z : Heap, z = s.heap := ⟨_, rfl⟩
  obtain ⟨locs, hlo⟩ : ∃ z : List Loc, z = [] := ⟨_, rfl⟩
  have hP : va_P D vwCl (sgw 52 h (eX ca h) f L Q) H := by rw [hH]; exact hP
  have hS : va_S (sgA 52 h s.heap.size) s.heap H locs := by rw [hH, hlo]; exact hS
  suffices hgo : W p l e ({ frames := 1, cells := 0, slots := 0, locals := 64 }) s m ([.ref (h 0), .int x0, .int x1, .int x2, .int x3, .int x4] : List Value).toArray below meth cd H locs 0 0 Qz (F0 m 0 ls []) by rw [hH, hlo] at hgo; exact hgo
  clear hH hlo
  refine lv_iload_n hx hb dX11_shift_0 rfl (lv_at hl 1 rfl) ?_
  refine sg_calli (va_runS (As := [.int x0]) (rest := []) ⟨hx, hb, hml, hown, hts⟩ (kX11_isShelf l D ca za h hh f L Q hI x0 H.size) (va_cwS 1 hts (gw_S (fun _ h => List.mem_cons_of_mem _ h) mw_35 mw_36 mw_37 mw_34) rfl rfl rfl (by decide +kernel) ⟨Nat.le_of_ble_eq_true rfl, Nat.le_of_ble_eq_true rfl⟩) (sg_preS hA hK hP hS hZ) rfl rfl hl.1 rfl (lv_room (Nat.le_of_ble_eq_true rfl)) dX11_shift_1 ⟨Nat.le_refl _, Nat.le_refl _⟩) hA hS (fun r_4 f_1 L_2 Q_3 H locs hq hP hS => ?_)
  obtain ⟨⟨ef9, eL9, eQ9⟩, hq⟩ := hq
  rw [ef9, eL9, eQ9] at hP; clear ef9 eL9 eQ9
  rcases hq with ⟨rfl, hq⟩ | ⟨rfl, hq⟩
  · skip
    have q_5 := hq
    refine lv_if_eq (tgt := 14) hx hb dX11_shift_4 (by decide) (fun c => absurd c (by decide)) (fun c => ?_)
    refine lv_iload_n hx hb dX11_shift_7 rfl (lv_at hl 3 rfl) ?_
    refine sg_calli (va_runS (As := [.int x2]) (rest := []) ⟨hx, hb, hml, hown, hts⟩ (kX11_isShelf l D ca za h hh f L Q hI x2 H.size) (va_cwS 1 hts (gw_S (fun _ h => List.mem_cons_of_mem _ h) mw_35 mw_36 mw_37 mw_34) rfl rfl rfl (by decide +kernel) ⟨Nat.le_of_ble_eq_true rfl, Nat.le_of_ble_eq_true rfl⟩) (sg_preS hA hK hP hS hZ) rfl rfl hl.1 rfl (lv_room (Nat.le_of_ble_eq_true rfl)) dX11_shift_8 ⟨Nat.le_refl _, Nat.le_refl _⟩) hA hS (fun r_9 f_6 L_7 Q_8 H locs hq hP hS => ?_)
    obtain ⟨⟨ef9, eL9, eQ9⟩, hq⟩ := hq
    rw [ef9, eL9, eQ9] at hP; clear ef9 eL9 eQ9
    rcases hq with ⟨rfl, hq⟩ | ⟨rfl, hq⟩
    · skip
      have q_10 := hq
      refine lv_if_ne (tgt := 16) hx hb dX11_shift_11 (by decide) (fun c => ?_) (fun c => absurd c (by decide))
      refine lv_aload_n hx hb dX11_shift_16 rfl (lv_at hl 0 rfl) ?_
      refine sg_get (ci := 11) (v := .ref (h 39)) (C := RX11) (T := TX11) (N := 10) hx hb hts (fun w h => List.mem_cons_of_mem _ (gx_11 w h)) hown hK hP 0 (by decide) rfl rfl 9 (by decide) (hts _ (List.mem_cons_of_mem _ mw_41)) (fun _ h9 => h9) rfl dX11_shift_17 ?_
      refine lv_iload_n hx hb dX11_shift_20 rfl (lv_at hl 1 rfl) ?_
      obtain ⟨t_11, et_11⟩ : ∃ z : Nat, z = x0.toNatClampNeg := ⟨_, rfl⟩
      have ht_t_11 : t_11 < 6 := by rw [et_11]; exact bn_kI (by omega) (by omega)
      refine sg_aald hx hb hK hP 39 (by decide) 3 rfl rfl (i := x0) (a := (h (40 + 2 * t_11))) (vp_in_iff.mpr ⟨by omega, by omega⟩) (show (if x0.toNatClampNeg < 6 then some (h (40 + 2 * x0.toNatClampNeg)) else none) = some (h (40 + 2 * t_11)) from by rw [← et_11, if_pos ht_t_11]) dX11_shift_21 ?_
      refine lv_astore (lv' := [(6, .ref (h (40 + 2 * t_11))), (0, .ref (h 0)), (1, .int x0), (2, .int x1), (3, .int x2), (4, .int x3), (5, .int x4)]) hx hb dX11_shift_22 hl (by decide) rfl (fun ls hl => ?_)
      refine lv_aload_n hx hb dX11_shift_24 rfl (lv_at hl 1 rfl) ?_
      refine sg_get (ci := 11) (v := .ref (h 39)) (C := RX11) (T := TX11) (N := 10) hx hb hts (fun w h => List.mem_cons_of_mem _ (gx_11 w h)) hown hK hP 0 (by decide) rfl rfl 9 (by decide) (hts _ (List.mem_cons_of_mem _ mw_41)) (fun _ h9 => h9) rfl dX11_shift_25 ?_
      refine lv_iload_n hx hb dX11_shift_28 rfl (lv_at hl 4 rfl) ?_
      obtain ⟨t_12, et_12⟩ : ∃ z : Nat, z = x2.toNatClampNeg := ⟨_, rfl⟩
      have ht_t_12 : t_12 < 6 := by rw [et_12]; exact bn_kI (by omega) (by omega)
      refine sg_aald hx hb hK hP 39 (by decide) 3 rfl rfl (i := x2) (a := (h (40 + 2 * t_12))) (vp_in_iff.mpr ⟨by omega, by omega⟩) (show (if x2.toNatClampNeg < 6 then some (h (40 + 2 * x2.toNatClampNeg)) else none) = some (h (40 + 2 * t_12)) from by rw [← et_12, if_pos ht_t_12]) dX11_shift_29 ?_
      refine lv_astore (lv' := [(7, .ref (h (40 + 2 * t_12))), (6, .ref (h (40 + 2 * t_11))), (0, .ref (h 0)), (1, .int x0), (2, .int x1), (3, .int x2), (4, .int x3), (5, .int x4)]) hx hb dX11_shift_30 hl (by decide) rfl (fun ls hl => ?_)
      refine lv_aload hx hb dX11_shift_32 (lv_at hl 1 rfl) ?_
      refine sg_get (ci := 7) (v := .int (f (40 + 2 * t_11) 1)) (C := RX7) (T := TX7) (N := 4) hx hb hts (fun w h => List.mem_cons_of_mem _ (gx_7 w h)) hown hK hP (40 + 2 * t_11) (by have := ht_t_11; omega) (eX_sh ca h ht_t_11 _ _ _) rfl 1 (by decide) (hts _ (List.mem_cons_of_mem _ mw_42)) (fun _ h9 => h9) rfl dX11_shift_34 ?_
      refine lv_topi (fun v_13 ev_13 => ?_)
      have q_14 : (-2) ≤ v_13.toInt ∧ v_13.toInt ≤ 4 := by rw [ev_13]; exact shb_1 hI ht_t_11
      refine lv_iconst (v := (-1)) hx hb dX11_shift_37 (by decide) ?_
      refine lv_icmp_eq (tgt := 50) hx hb dX11_shift_38 (by decide) (fun c => ?_) (fun c => ?_)
      · skip
        have c_15 : v_13.toInt = (-1) := (by have z := Int32.toInt_inj.mpr c; have k1 : ((-1) : Int32).toInt = (-1) := (by decide); omega)
        refine lv_bipush (v := (-11)) hx hb dX11_shift_50 (by decide) ?_
        have k99 : ((-11) : Int32).toInt = (-11) := (by decide)
        exact hret _ _ _ _ (-11) f L Q dX11_shift_52 hP hS ⟨⟨rfl, trivial, rfl⟩, (by decide)⟩
      · skip
        have c_16 : v_13.toInt ≠ (-1) := (by have z := bn_ne c; have k1 : ((-1) : Int32).toInt = (-1) := (by decide); omega)
        refine lv_aload hx hb dX11_shift_41 (lv_at hl 0 rfl) ?_
        refine sg_get (ci := 7) (v := .int (f (40 + 2 * t_12) 1)) (C := RX7) (T := TX7) (N := 4) hx hb hts (fun w h => List.mem_cons_of_mem _ (gx_7 w h)) hown hK hP (40 + 2 * t_12) (by have := ht_t_12; omega) (eX_sh ca h ht_t_12 _ _ _) rfl 1 (by decide) (hts _ (List.mem_cons_of_mem _ mw_42)) (fun _ h9 => h9) rfl dX11_shift_43 ?_
        refine lv_topi (fun v_17 ev_17 => ?_)
        have q_18 : (-2) ≤ v_17.toInt ∧ v_17.toInt ≤ 4 := by rw [ev_17]; exact shb_1 hI ht_t_12
        refine lv_iconst (v := (-1)) hx hb dX11_shift_46 (by decide) ?_
        refine lv_icmp_ne (tgt := 53) hx hb dX11_shift_47 (by decide) (fun c => ?_) (fun c => ?_)
        · skip
          have c_19 : v_17.toInt ≠ (-1) := (by have z := bn_ne c; have k1 : ((-1) : Int32).toInt = (-1) := (by decide); omega)
          refine lv_aload hx hb dX11_shift_53 (lv_at hl 1 rfl) ?_
          refine sg_calli (va_runV (As := []) (rest := []) ⟨hx, hb, hml, hown, hts⟩ (kX7_isRow l D ca za h hh f L Q hI t_11 ht_t_11 H.size) (cwV 0 hts (gw_V (fun _ h => List.mem_cons_of_mem _ h) mw_207 mw_208 mw_209 mw_121 mw_206) rfl rfl rfl (by decide +kernel) ⟨Nat.le_of_ble_eq_true rfl, Nat.le_of_ble_eq_true rfl⟩) (sg_preV (ci := 7) (C := RX7) (T := TX7) (N := 4) hA hK hP hS hZ (40 + 2 * t_11) (by have := ht_t_11; omega) (eX_sh ca h ht_t_11 _ _ _) rfl) rfl rfl hl.1 rfl (lv_room (Nat.le_of_ble_eq_true rfl)) dX11_shift_55 ⟨Nat.le_refl _, Nat.le_refl _⟩) hA hS (fun r_24 f_21 L_22 Q_23 H locs hq hP hS => ?_)
          obtain ⟨⟨ef9, eL9, eQ9⟩, hq⟩ := hq
          rw [ef9, eL9, eQ9] at hP; clear ef9 eL9 eQ9
          refine lv_if_eq (tgt := 74) hx hb dX11_shift_58 (by decide) (fun c => ?_) (fun c => ?_)
          · skip
            have c_25 : r_24.toInt = 0 := (by have z := Int32.toInt_inj.mpr c; have k1 : (0 : Int32).toInt = 0 := (by decide); omega)
            refine lv_bipush (v := (-12)) hx hb dX11_shift_74 (by decide) ?_
            have k99 : ((-12) : Int32).toInt = (-12) := (by decide)
            exact hret _ _ _ _ (-12) f L Q dX11_shift_76 hP hS ⟨⟨rfl, trivial, rfl⟩, (by decide)⟩
          · skip
            have c_26 : r_24.toInt ≠ 0 := (by have z := bn_ne c; have k1 : (0 : Int32).toInt = 0 := (by decide); omega)
            refine lv_aload hx hb dX11_shift_61 (lv_at hl 1 rfl) ?_
            refine sg_get (ci := 7) (v := .int v_13) (C := RX7) (T := TX7) (N := 4) hx hb hts (fun w h => List.mem_cons_of_mem _ (gx_7 w h)) hown hK hP (40 + 2 * t_11) (by have := ht_t_11; omega) (eX_sh ca h ht_t_11 _ _ _) rfl 1 (by decide) (hts _ (List.mem_cons_of_mem _ mw_42)) (fun _ h9 => h9) (congrArg (fun z => some (Value.int z)) (show f (40 + 2 * t_11) 1 = v_13 from ev_13.symm)) dX11_shift_63 ?_
            refine lv_aload hx hb dX11_shift_66 (lv_at hl 0 rfl) ?_
            refine sg_get (ci := 7) (v := .int v_17) (C := RX7) (T := TX7) (N := 4) hx hb hts (fun w h => List.mem_cons_of_mem _ (gx_7 w h)) hown hK hP (40 + 2 * t_12) (by have := ht_t_12; omega) (eX_sh ca h ht_t_12 _ _ _) rfl 1 (by decide) (hts _ (List.mem_cons_of_mem _ mw_42)) (fun _ h9 => h9) (congrArg (fun z => some (Value.int z)) (show f (40 + 2 * t_12) 1 = v_17 from ev_17.symm)) dX11_shift_68 ?_
            refine lv_icmp_eq (tgt := 77) hx hb dX11_shift_71 (by decide) (fun c => ?_) (fun c => ?_)
            · skip
              have c_27 : v_13.toInt = v_17.toInt := (by have z := Int32.toInt_inj.mpr c; omega)
              refine lv_aload hx hb dX11_shift_77 (lv_at hl 1 rfl) ?_
              refine lv_iload_n hx hb dX11_shift_79 rfl (lv_at hl 4 rfl) ?_
              refine lv_iload hx hb dX11_shift_80 (lv_at hl 7 rfl) ?_
              obtain ⟨v_29, ev_29⟩ : ∃ z : Int32, z = f (40 + 2 * t_11) 2 := ⟨_, rfl⟩
              have q_30 : 0 ≤ v_29.toInt ∧ v_29.toInt ≤ 60 := by rw [ev_29]; exact shb_2 hI ht_t_11
              have q_31 : (f (40 + 2 * t_11) 2).toInt = v_29.toInt := (congrArg Int32.toInt (show f (40 + 2 * t_11) 2 = v_29 from ev_29.symm))
              refine sg_calli (va_runV (As := [.int x1, .int x4]) (rest := []) ⟨hx, hb, hml, hown, hts⟩ (kX7_hasPlaces l D ca za h hh f L Q hI x1 x4 t_11 ht_t_11 H.size) (cwV 2 hts (gw_V (fun _ h => List.mem_cons_of_mem _ h) mw_180 mw_181 mw_182 mw_121 mw_179) rfl rfl rfl (by decide +kernel) ⟨Nat.le_of_ble_eq_true rfl, Nat.le_of_ble_eq_true rfl⟩) (sg_preV (ci := 7) (C := RX7) (T := TX7) (N := 4) hA hK hP hS hZ (40 + 2 * t_11) (by have := ht_t_11; omega) (eX_sh ca h ht_t_11 _ _ _) rfl) rfl rfl hl.1 rfl (lv_room (Nat.le_of_ble_eq_true rfl)) dX11_shift_82 ⟨Nat.le_refl _, Nat.le_refl _⟩) hA hS (fun r_35 f_32 L_33 Q_34 H locs hq hP hS => ?_)
              obtain ⟨⟨ef9, eL9, eQ9⟩, hq⟩ := hq
              rw [ef9, eL9, eQ9] at hP; clear ef9 eL9 eQ9
              rcases hq with ⟨rfl, hq⟩ | ⟨rfl, hq⟩
              · skip
                have q_36 := hq
                refine lv_if_eq (tgt := 100) hx hb dX11_shift_85 (by decide) (fun c => absurd c (by decide)) (fun c => ?_)
                refine lv_aload hx hb dX11_shift_88 (lv_at hl 0 rfl) ?_
                refine lv_iload hx hb dX11_shift_90 (lv_at hl 6 rfl) ?_
                refine lv_iload hx hb dX11_shift_92 (lv_at hl 7 rfl) ?_
                obtain ⟨v_37, ev_37⟩ : ∃ z : Int32, z = f (40 + 2 * t_12) 2 := ⟨_, rfl⟩
                have q_38 : 0 ≤ v_37.toInt ∧ v_37.toInt ≤ 60 := by rw [ev_37]; exact shb_2 hI ht_t_12
                have q_39 : (f (40 + 2 * t_12) 2).toInt = v_37.toInt := (congrArg Int32.toInt (show f (40 + 2 * t_12) 2 = v_37 from ev_37.symm))
                refine sg_calli (va_runV (As := [.int x3, .int x4]) (rest := []) ⟨hx, hb, hml, hown, hts⟩ (kX7_hasPlaces l D ca za h hh f L Q hI x3 x4 t_12 ht_t_12 H.size) (cwV 2 hts (gw_V (fun _ h => List.mem_cons_of_mem _ h) mw_180 mw_181 mw_182 mw_121 mw_179) rfl rfl rfl (by decide +kernel) ⟨Nat.le_of_ble_eq_true rfl, Nat.le_of_ble_eq_true rfl⟩) (sg_preV (ci := 7) (C := RX7) (T := TX7) (N := 4) hA hK hP hS hZ (40 + 2 * t_12) (by have := ht_t_12; omega) (eX_sh ca h ht_t_12 _ _ _) rfl) rfl rfl hl.1 rfl (lv_room (Nat.le_of_ble_eq_true rfl)) dX11_shift_94 ⟨Nat.le_refl _, Nat.le_refl _⟩) hA hS (fun r_43 f_40 L_41 Q_42 H locs hq hP hS => ?_)
                obtain ⟨⟨ef9, eL9, eQ9⟩, hq⟩ := hq
                rw [ef9, eL9, eQ9] at hP; clear ef9 eL9 eQ9
                rcases hq with ⟨rfl, hq⟩ | ⟨rfl, hq⟩
                · skip
                  have q_44 := hq
                  refine lv_if_ne (tgt := 103) hx hb dX11_shift_97 (by decide) (fun c => ?_) (fun c => absurd c (by decide))
                  refine lv_aload hx hb dX11_shift_103 (lv_at hl 1 rfl) ?_
                  refine sg_get (ci := 7) (v := .ref (h (41 + 2 * t_11))) (C := RX7) (T := TX7) (N := 4) hx hb hts (fun w h => List.mem_cons_of_mem _ (gx_7 w h)) hown hK hP (40 + 2 * t_11) (by have := ht_t_11; omega) (eX_sh ca h ht_t_11 _ _ _) rfl 0 (by decide) (hts _ (List.mem_cons_of_mem _ mw_115)) (fun _ h9 => h9) rfl dX11_shift_105 ?_
                  refine lv_iload_n hx hb dX11_shift_108 rfl (lv_at hl 4 rfl) ?_
                  refine lv_aload hx hb dX11_shift_109 (lv_at hl 0 rfl) ?_
                  refine sg_get (ci := 7) (v := .ref (h (41 + 2 * t_12))) (C := RX7) (T := TX7) (N := 4) hx hb hts (fun w h => List.mem_cons_of_mem _ (gx_7 w h)) hown hK hP (40 + 2 * t_12) (by have := ht_t_12; omega) (eX_sh ca h ht_t_12 _ _ _) rfl 0 (by decide) (hts _ (List.mem_cons_of_mem _ mw_115)) (fun _ h9 => h9) rfl dX11_shift_111 ?_
                  refine lv_iload hx hb dX11_shift_114 (lv_at hl 6 rfl) ?_
                  refine lv_iload hx hb dX11_shift_116 (lv_at hl 7 rfl) ?_
                  refine sg_copyl hx hb (hml.trans hl.1.symm) hown (hts _ (List.mem_cons_of_mem _ mw_211)) (hts _ (List.mem_cons_of_mem _ mw_22)) (hts _ (List.mem_cons_of_mem _ mw_23)) (hts _ (List.mem_cons_of_mem _ mw_24)) hh hA hK hP hS (41 + 2 * t_11) (41 + 2 * t_12) (by have := ht_t_11; omega) (by have := ht_t_12; omega) 1 1 (eX_el ca h ht_t_11 _ _ _) (fun _ => eX_el ca h ht_t_12 _ _ _) rfl rfl (sp := x1) (dp := x3) (nn := x4) (bn_n0 (by omega)) (bn_n0 (by omega)) (bn_n0 (by omega)) (bn_cp (by omega) (by omega) (by omega)) (bn_cp (by omega) (by omega) (by omega)) (Nat.le_of_ble_eq_true rfl) (Nat.le_of_ble_eq_true rfl) dX11_shift_118 (fun L_45 H locs eL_45 hP hS => ?_)
                  refine lv_iload hx hb dX11_shift_121 (lv_at hl 7 rfl) ?_
                  exact hret _ _ _ _ (x4) f L_45 Q dX11_shift_123 hP hS ⟨⟨rfl, trivial, rfl⟩, (by omega)⟩
                · skip
                  have q_46 := hq
                  refine lv_if_ne (tgt := 103) hx hb dX11_shift_97 (by decide) (fun c => absurd c (by decide)) (fun c => ?_)
                  refine lv_bipush (v := (-13)) hx hb dX11_shift_100 (by decide) ?_
                  have k99 : ((-13) : Int32).toInt = (-13) := (by decide)
                  exact hret _ _ _ _ (-13) f L Q dX11_shift_102 hP hS ⟨⟨rfl, trivial, rfl⟩, (by decide)⟩
              · skip
                have q_47 := hq
                refine lv_if_eq (tgt := 100) hx hb dX11_shift_85 (by decide) (fun c => ?_) (fun c => absurd c (by decide))
                refine lv_bipush (v := (-13)) hx hb dX11_shift_100 (by decide) ?_
                have k99 : ((-13) : Int32).toInt = (-13) := (by decide)
                exact hret _ _ _ _ (-13) f L Q dX11_shift_102 hP hS ⟨⟨rfl, trivial, rfl⟩, (by decide)⟩
            · skip
              have c_28 : v_13.toInt ≠ v_17.toInt := (by have z := bn_ne c; omega)
              refine lv_bipush (v := (-12)) hx hb dX11_shift_74 (by decide) ?_
              have k99 : ((-12) : Int32).toInt = (-12) := (by decide)
              exact hret _ _ _ _ (-12) f L Q dX11_shift_76 hP hS ⟨⟨rfl, trivial, rfl⟩, (by decide)⟩
        · skip
          have c_20 : v_17.toInt = (-1) := (by have z := Int32.toInt_inj.mpr c; have k1 : ((-1) : Int32).toInt = (-1) := (by decide); omega)
          refine lv_bipush (v := (-11)) hx hb dX11_shift_50 (by decide) ?_
          have k99 : ((-11) : Int32).toInt = (-11) := (by decide)
          exact hret _ _ _ _ (-11) f L Q dX11_shift_52 hP hS ⟨⟨rfl, trivial, rfl⟩, (by decide)⟩
    · skip
      have q_48 := hq
      refine lv_if_ne (tgt := 16) hx hb dX11_shift_11 (by decide) (fun c => absurd c (by decide)) (fun c => ?_)
      refine lv_iconst (v := (-1)) hx hb dX11_shift_14 (by decide) ?_
      have k99 : ((-1) : Int32).toInt = (-1) := (by decide)
      exact hret _ _ _ _ (-1) f L Q dX11_shift_15 hP hS ⟨⟨rfl, trivial, rfl⟩, (by decide)⟩
  · skip
    have q_49 := hq
    refine lv_if_eq (tgt := 14) hx hb dX11_shift_4 (by decide) (fun c => ?_) (fun c => absurd c (by decide))
    refine lv_iconst (v := (-1)) hx hb dX11_shift_14 (by decide) ?_
    have k99 : ((-1) : Int32).toInt = (-1) := (by decide)
    exact hret _ _ _ _ (-1) f L Q dX11_shift_15 hP hS ⟨⟨rfl, trivial, rfl⟩, (by decide)⟩
