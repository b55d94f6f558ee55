/-! contracts of any state. Laid by a program (wip/tool) -/
abbrev WkX11_act : List (Nat × Nat × Option Nat) := [(36, 36, some 3), (36, 36, some 4), (36, 36, some 5), (38, 38, some 0), (38, 38, some 1), (38, 38, some 2), (38, 38, some 3), (38, 38, some 4), (38, 38, some 5), (38, 38, some 6), (38, 38, some 7), (38, 38, some 8), (38, 38, some 9), (38, 38, some 10), (38, 38, some 11), (38, 38, some 12), (38, 38, some 13)]
set_option maxHeartbeats 4000000 in
set_option maxRecDepth 100000 in
theorem kX11_act (l : Launch) (D : va_G) (ca : Nat → ClassId) (za h : Nat → Nat) (hh : sgH 52 h) (f : sg_F) (L : sg_L) (Q : sg_Q) (hI : sgI loX hiX f) (x0 : Int32) (x1 : Int32) (x2 : Int32) (sz : Nat) : Met l yX11_act gwX11_act { frames := 13, cells := 0, slots := 0, locals := 323 } (sgP D vwCl (tyX ca) 52 h (eX ca h) zcX za f L Q sz [.ref (h 0), .int x0, .int x1, .int x2]) (sgQi D vwCl 52 h (eX ca h) sz (fun r f1 L1 Q1 => ((sgI loX hiX f1 ∧ sgK WkX11_act f f1 ∧ L1 = L ∧ Q1 = Q) ∧ True ∧ (r, f1) = sX11_act x0 x1 x2 f L))) 0 0 (sgA 52 h sz) := by
  refine sg_ofWi (cc := cX11_act) (maxL := 4) RX11 (by decide) rfl rfl (Nat.le_of_ble_eq_true rfl) ?_
  intro p e s m below meth cd Qz ls hx hb hml hown hts hK hZ hP hS hl hret
  have hA := sgY.self (n := 52) (h := h) (sz := s.heap.size)
  have hl : lv_has ls 4 [(0, .ref (h 0)), (1, .int x0), (2, .int x1), (3, .int x2)] := hl
  obtain ⟨H, hH⟩ : ∃ z : Heap, z = s.heap := ⟨_, rfl⟩
  obtain ⟨locs, hlo⟩ : ∃ z : List Loc, z = [] := ⟨_, rfl⟩
  have hP : va_P D vwCl (sgw 52 h (eX ca h) f L Q) H := by rw [hH]; exact hP
  have hS : va_S (sgA 52 h s.heap.size) s.heap H locs := by rw [hH, hlo]; exact hS
  suffices hgo : W p l e ({ frames := 13, cells := 0, slots := 0, locals := 323 }) s m ([.ref (h 0), .int x0, .int x1, .int x2] : List Value).toArray below meth cd H locs 0 0 Qz (F0 m 0 ls []) by rw [hH, hlo] at hgo; exact hgo
  clear hH hlo
  obtain ⟨sp, hsp⟩ : ∃ z : Int32 × sg_F, z = sX11_act x0 x1 x2 f L := ⟨_, rfl⟩
  have hs : sp = sX11_act x0 x1 x2 f L := hsp
  have hF : sgK WkX11_act f f := sgK.rf
  refine lv_aload_n hx hb dX11_act_0 rfl (lv_at hl 0 rfl) ?_
  refine sl_gX_0_8_11 hx hb hts hown hK hP dX11_act_1 ?_
  refine lv_iload_n hx hb dX11_act_4 rfl (lv_at hl 1 rfl) ?_
  refine lv_iload_n hx hb dX11_act_5 rfl (lv_at hl 2 rfl) ?_
  refine lv_iload_n hx hb dX11_act_6 rfl (lv_at hl 3 rfl) ?_
  refine sg_calli (va_runV (As := [.int x0, .int x1, .int x2]) (rest := []) ⟨hx, hb, hml, hown, hts⟩ (kX3_acts l D ca za h hh f L Q hI x0 x1 x2 H.size) (sl_c3_acts_12_0_0_300_11 hts ⟨Nat.le_of_ble_eq_true rfl, Nat.le_of_ble_eq_true rfl⟩) (sl_vX_36 hA hK hP hS hZ) rfl rfl hl.1 rfl (lv_room (Nat.le_of_ble_eq_true rfl)) dX11_act_7 ⟨Nat.le_refl _, Nat.le_refl _⟩) hA hS (fun r_4 f_1 L_2 Q_3 H locs hq hP hS => ?_)
  obtain ⟨⟨hI, hk_f_1, eL9, eQ9⟩, hq, u_5⟩ := hq
  rw [eL9, eQ9] at hP; clear eL9 eQ9
  have hF : sgK WkX11_act f f_1 := sgK.tr hF hk_f_1 (by decide +kernel)
  exact hret _ _ _ _ (r_4) f_1 L Q dX11_act_10 hP hS ⟨⟨hI, hF, rfl, rfl⟩, trivial, (Eq.trans (Eq.symm (hs.trans ((spl2_e u_5 rfl)))) hsp)⟩

set_option maxHeartbeats 4000000 in
set_option maxRecDepth 100000 in
theorem kX11_trace (l : Launch) (D : va_G) (ca : Nat → ClassId) (za h : Nat → Nat) (hh : sgH 52 h) (f : sg_F) (L : sg_L) (Q : sg_Q) (hI : sgI loX hiX f) (x0 : Int32) (sz : Nat) : Met l yX11_trace gwX11_trace { frames := 1, cells := 0, slots := 0, locals := 21 } (sgP D vwCl (tyX ca) 52 h (eX ca h) zcX za f L Q sz [.ref (h 0), .int x0]) (sgQi D vwCl 52 h (eX ca h) sz (fun r f1 L1 Q1 => ((f1 = f ∧ L1 = L ∧ Q1 = Q) ∧ ((-1) ≤ r.toInt ∧ r.toInt ≤ 81) ∧ (r) = sX11_trace x0 f L))) 0 0 (sgA 52 h sz) := by
  refine sg_ofWi (cc := cX11_trace) (maxL := 2) RX11 (by decide) rfl rfl (Nat.le_of_ble_eq_true rfl) ?_
  intro p e s m below meth cd Qz ls hx hb hml hown hts hK hZ hP hS hl hret
  have hA := sgY.self (n := 52) (h := h) (sz := s.heap.size)
  have hl : lv_has ls 2 [(0, .ref (h 0)), (1, .int x0)] := hl
  obtain ⟨H, hH⟩ : ∃ z : Heap, z = s.heap := ⟨_, rfl⟩
  obtain ⟨locs, hlo⟩ : ∃ z : List Loc, z = [] := ⟨_, rfl⟩
  have hP : va_P D vwCl (sgw 52 h (eX ca h) f L Q) H := by rw [hH]; exact hP
  have hS : va_S (sgA 52 h s.heap.size) s.heap H locs := by rw [hH, hlo]; exact hS
  suffices hgo : W p l e ({ frames := 1, cells := 0, slots := 0, locals := 21 }) s m ([.ref (h 0), .int x0] : List Value).toArray below meth cd H locs 0 0 Qz (F0 m 0 ls []) by rw [hH, hlo] at hgo; exact hgo
  clear hH hlo
  obtain ⟨sp, hsp⟩ : ∃ z : Int32, z = sX11_trace x0 f L := ⟨_, rfl⟩
  have hs : sp = sX11_trace x0 f L := hsp
  refine lv_iload_n hx hb dX11_trace_0 rfl (lv_at hl 1 rfl) ?_
  refine lv_if_lt (tgt := 20) hx hb dX11_trace_1 (by decide) (fun c => ?_) (fun c => ?_)
  · skip
    have c_1 : x0.toInt < 0 := (by first | exact (cm_lt1 ti_0 c) | (have z := bn_lt c; have k1 : (0 : Int32).toInt = 0 := ti_0; omega))
    refine lv_iconst (v := (-1)) hx hb dX11_trace_20 ic_m1 ?_
    refine lv_goto (tgt := 33) hx hb dX11_trace_21 (by decide) ?_
    have k99 : ((-1) : Int32).toInt = (-1) := ti_m1
    exact hret _ _ _ _ (-1) f L Q dX11_trace_33 hP hS ⟨⟨rfl, rfl, rfl⟩, (by decide), (Eq.trans (Eq.symm (hs.trans (((if_pos c_1).trans rfl)))) hsp)⟩
  · skip
    have c_2 : 0 ≤ x0.toInt := (by first | exact (cm_nlt1 ti_0 c) | (have z := bn_nlt c; have k1 : (0 : Int32).toInt = 0 := ti_0; omega))
    refine lv_iload_n hx hb dX11_trace_4 rfl (lv_at hl 1 rfl) ?_
    refine lv_aload_n hx hb dX11_trace_5 rfl (lv_at hl 0 rfl) ?_
    refine sl_gX_0_8_11 hx hb hts hown hK hP dX11_trace_6 ?_
    refine sl_gX_36_3_11 (v := (f 36 3)) hx hb hts hown hK hP rfl dX11_trace_9 ?_
    refine lv_topi (fun v_3 ev_3 => ?_)
    have q_4 : 0 ≤ v_3.toInt ∧ v_3.toInt ≤ 19 := by rw [ev_3]; exact hI 36 3
    refine lv_bipush (v := 24) hx hb dX11_trace_12 bp_24 ?_
    refine va_mmin hx hb (hml.trans hl.1.symm) hown (hts _ (List.mem_cons_of_mem _ mw_9)) (hts _ (List.mem_cons_of_mem _ mw_10)) (hts _ (List.mem_cons_of_mem _ mw_11)) (hts _ (List.mem_cons_of_mem _ mw_12)) (Nat.le_of_ble_eq_true rfl) (Nat.le_of_ble_eq_true rfl) (Nat.le_refl _) (Nat.le_refl _) dX11_trace_14 ?_
    refine lv_topi (fun v_5 ev_5 => ?_)
    replace hs := hs.trans ((if_neg (Int.not_lt.mpr c_2)).trans (spl_e ev_3 (spl_e ev_5 rfl)))
    have q_6 : (24 < v_3.toInt ∧ v_5.toInt = 24) ∨ (v_3.toInt ≤ 24 ∧ v_5.toInt = v_3.toInt) := by have z := bn_minI (24 : Int32) v_3; rw [← ev_5] at z; have k1 : (24 : Int32).toInt = 24 := ti_24; omega
    refine lv_icmp_lt (tgt := 24) hx hb dX11_trace_17 (by decide) (fun c => ?_) (fun c => ?_)
    · skip
      have c_7 : x0.toInt < v_5.toInt := (by first | exact (bn_lt c) | (have z := bn_lt c; omega))
      refine lv_aload_n hx hb dX11_trace_24 rfl (lv_at hl 0 rfl) ?_
      refine sl_gX_0_8_11 hx hb hts hown hK hP dX11_trace_25 ?_
      refine sl_gX_36_1_11 hx hb hts hown hK hP dX11_trace_28 ?_
      refine lv_iload_n hx hb dX11_trace_31 rfl (lv_at hl 1 rfl) ?_
      refine sg_iald hx hb hK hP 38 (by decide) 0 rfl rfl (i := x0) (vp_in_iff.mpr ⟨by omega, by omega⟩) dX11_trace_32 ?_
      refine lv_topi (fun v_9 ev_9 => ?_)
      have q_10 : 0 ≤ v_9.toInt ∧ v_9.toInt ≤ 81 := by rw [ev_9]; exact hI 38 _
      exact hret _ _ _ _ (v_9) f L Q dX11_trace_33 hP hS ⟨⟨rfl, rfl, rfl⟩, ⟨by omega, by omega⟩, (Eq.trans (Eq.symm (hs.trans ((if_pos c_7).trans (spl_e ev_9 rfl)))) hsp)⟩
    · skip
      have c_8 : v_5.toInt ≤ x0.toInt := (by first | exact (bn_nlt c) | (have z := bn_nlt c; omega))
      refine lv_iconst (v := (-1)) hx hb dX11_trace_20 ic_m1 ?_
      refine lv_goto (tgt := 33) hx hb dX11_trace_21 (by decide) ?_
      have k99 : ((-1) : Int32).toInt = (-1) := ti_m1
      exact hret _ _ _ _ (-1) f L Q dX11_trace_33 hP hS ⟨⟨rfl, rfl, rfl⟩, (by decide), (Eq.trans (Eq.symm (hs.trans ((if_neg (Int.not_lt.mpr c_8)).trans rfl))) hsp)⟩

abbrev WkX7_takesDesk : List (Nat × Nat × Option Nat) := [(40, 51, none)]
set_option maxHeartbeats 4000000 in
set_option maxRecDepth 100000 in
theorem kX7_takesDesk (l : Launch) (D : va_G) (ca : Nat → ClassId) (za h : Nat → Nat) (hh : sgH 52 h) (f : sg_F) (L : sg_L) (Q : sg_Q) (hI : sgI loX hiX f) (hJ : JX f) (x0 : Int32) (t : Nat) (ht_t : t < 6) (b0 : (-1) ≤ x0.toInt ∧ x0.toInt ≤ 49) (sz : Nat) : Met l yX7_takesDesk gwX7_takesDesk { frames := 0, cells := 0, slots := 0, locals := 0 } (sgP D vwCl (tyX ca) 52 h (eX ca h) zcX za f L Q sz [.ref (h (40 + 2 * t)), .int x0]) (sgQv D vwCl 52 h (eX ca h) sz (fun f1 L1 Q1 => ((sgI loX hiX f1 ∧ sgK WkX7_takesDesk f f1 ∧ L1 = L ∧ Q1 = Q ∧ JX f1) ∧ (f1) = sX7_takesDesk x0 t f L))) 0 0 (sgA 52 h sz) := by
  refine sg_ofWv (cc := cX7_takesDesk) (maxL := 2) RX7 (by decide) rfl rfl (Nat.le_of_ble_eq_true rfl) ?_
  intro p e s m below meth cd Qz ls hx hb hml hown hts hK hZ hP hS hl hret
  have hA := sgY.self (n := 52) (h := h) (sz := s.heap.size)
  have hl : lv_has ls 2 [(0, .ref (h (40 + 2 * t))), (1, .int x0)] := hl
  obtain ⟨H, hH⟩ : ∃ z : Heap, z = s.heap := ⟨_, rfl⟩
  obtain ⟨locs, hlo⟩ : ∃ z : List Loc, z = [] := ⟨_, rfl⟩
  have hP : va_P D vwCl (sgw 52 h (eX ca h) f L Q) H := by rw [hH]; exact hP
  have hS : va_S (sgA 52 h s.heap.size) s.heap H locs := by rw [hH, hlo]; exact hS
  suffices hgo : W p l e ({ frames := 0, cells := 0, slots := 0, locals := 0 }) s m ([.ref (h (40 + 2 * t)), .int x0] : List Value).toArray below meth cd H locs 0 0 Qz (F0 m 0 ls []) by rw [hH, hlo] at hgo; exact hgo
  clear hH hlo
  obtain ⟨sp, hsp⟩ : ∃ z : sg_F, z = sX7_takesDesk x0 t f L := ⟨_, rfl⟩
  have hs : sp = sX7_takesDesk x0 t f L := hsp
  have hF : sgK WkX7_takesDesk f f := sgK.rf
  refine lv_aload_n hx hb dX7_takesDesk_0 rfl (lv_at hl 0 rfl) ?_
  refine lv_iload_n hx hb dX7_takesDesk_1 rfl (lv_at hl 1 rfl) ?_
  refine lv_if_ge (tgt := 9) hx hb dX7_takesDesk_2 (by decide) (fun c => ?_) (fun c => ?_)
  · skip
    have c_1 : 0 ≤ x0.toInt := (by first | exact (cm_le0 ti_0 c) | (have z := bn_le c; have k1 : (0 : Int32).toInt = 0 := ti_0; omega))
    refine lv_bipush (v := (-2)) hx hb dX7_takesDesk_9 bp_m2 ?_
    refine sg_put (ci := 7) (x := (-2)) (ty := .int) (C := RX7) (T := TX7) (N := 4) hx hb hts (fun w h => List.mem_cons_of_mem _ (gx_7 w h)) tyX7 tyX7_ok nmX7 hown hh hA hK hP hS (40 + 2 * t) (by have := ht_t; omega) (eX_sh ca h ht_t _ _ _) rfl 1 (by decide) (hts _ (List.mem_cons_of_mem _ mw_84)) (fun _ h9 => h9) rfl (eX_sh ca h ht_t _ _ _) (by decide +kernel) rfl rfl (Nat.le_of_ble_eq_true rfl) dX7_takesDesk_11 (fun f_3 H locs ef_3 hP hS => ?_)
    have hI : sgI loX hiX f_3 := by rw [ef_3]; exact sgI.put hI (40 + 2 * t) 1 (shp_1 ht_t (show (-2) ≤ ((-2) : Int32).toInt ∧ ((-2) : Int32).toInt ≤ 4 from by decide))
    have hF : sgK WkX7_takesDesk f f_3 := sgK.put hF ef_3 (sgin_r (a := 40) (b := 51) (o := none) (by decide) (by omega) (by omega) (Or.inl rfl))
    refine lv_aload_n hx hb dX7_takesDesk_14 rfl (lv_at hl 0 rfl) ?_
    refine lv_iload_n hx hb dX7_takesDesk_15 rfl (lv_at hl 1 rfl) ?_
    refine sg_put (ci := 7) (x := x0) (ty := .int) (C := RX7) (T := TX7) (N := 4) hx hb hts (fun w h => List.mem_cons_of_mem _ (gx_7 w h)) tyX7 tyX7_ok nmX7 hown hh hA hK hP hS (40 + 2 * t) (by have := ht_t; omega) (eX_sh ca h ht_t _ _ _) rfl 3 (by decide) (hts _ (List.mem_cons_of_mem _ mw_87)) (fun _ h9 => h9) rfl (eX_sh ca h ht_t _ _ _) (by decide +kernel) rfl rfl (Nat.le_of_ble_eq_true rfl) dX7_takesDesk_16 (fun f_4 H locs ef_4 hP hS => ?_)
    have hI : sgI loX hiX f_4 := by rw [ef_4]; exact sgI.put hI (40 + 2 * t) 3 (shp_3 ht_t (show (-1) ≤ (x0 : Int32).toInt ∧ (x0 : Int32).toInt ≤ 49 from b0))
    have hJ : JX f_4 := JX.desk hJ ef_3 ef_4 ht_t (by have k0 : ((-2) : Int32).toInt = (-2) := ti_m2; omega)
    have hF : sgK WkX7_takesDesk f f_4 := sgK.put hF ef_4 (sgin_r (a := 40) (b := 51) (o := none) (by decide) (by omega) (by omega) (Or.inl rfl))
    exact hret _ _ _ _ f_4 L Q dX7_takesDesk_19 hP hS ⟨⟨hI, hF, rfl, rfl, hJ⟩, (Eq.trans (Eq.symm (hs.trans (((if_neg (Int.not_lt.mpr c_1)).trans (spl_e ef_3 (spl_e ef_4 rfl)))))) hsp)⟩
  · skip
    have c_2 : x0.toInt < 0 := (by first | exact (cm_nle0 ti_0 c) | (have z := bn_nle c; have k1 : (0 : Int32).toInt = 0 := ti_0; omega))
    refine lv_iconst (v := (-1)) hx hb dX7_takesDesk_5 ic_m1 ?_
    refine lv_goto (tgt := 11) hx hb dX7_takesDesk_6 (by decide) ?_
    refine sg_put (ci := 7) (x := (-1)) (ty := .int) (C := RX7) (T := TX7) (N := 4) hx hb hts (fun w h => List.mem_cons_of_mem _ (gx_7 w h)) tyX7 tyX7_ok nmX7 hown hh hA hK hP hS (40 + 2 * t) (by have := ht_t; omega) (eX_sh ca h ht_t _ _ _) rfl 1 (by decide) (hts _ (List.mem_cons_of_mem _ mw_84)) (fun _ h9 => h9) rfl (eX_sh ca h ht_t _ _ _) (by decide +kernel) rfl rfl (Nat.le_of_ble_eq_true rfl) dX7_takesDesk_11 (fun f_5 H locs ef_5 hP hS => ?_)
    have hI : sgI loX hiX f_5 := by rw [ef_5]; exact sgI.put hI (40 + 2 * t) 1 (shp_1 ht_t (show (-2) ≤ ((-1) : Int32).toInt ∧ ((-1) : Int32).toInt ≤ 4 from by decide))
    have hF : sgK WkX7_takesDesk f f_5 := sgK.put hF ef_5 (sgin_r (a := 40) (b := 51) (o := none) (by decide) (by omega) (by omega) (Or.inl rfl))
    refine lv_aload_n hx hb dX7_takesDesk_14 rfl (lv_at hl 0 rfl) ?_
    refine lv_iload_n hx hb dX7_takesDesk_15 rfl (lv_at hl 1 rfl) ?_
    refine sg_put (ci := 7) (x := x0) (ty := .int) (C := RX7) (T := TX7) (N := 4) hx hb hts (fun w h => List.mem_cons_of_mem _ (gx_7 w h)) tyX7 tyX7_ok nmX7 hown hh hA hK hP hS (40 + 2 * t) (by have := ht_t; omega) (eX_sh ca h ht_t _ _ _) rfl 3 (by decide) (hts _ (List.mem_cons_of_mem _ mw_87)) (fun _ h9 => h9) rfl (eX_sh ca h ht_t _ _ _) (by decide +kernel) rfl rfl (Nat.le_of_ble_eq_true rfl) dX7_takesDesk_16 (fun f_6 H locs ef_6 hP hS => ?_)
    have hI : sgI loX hiX f_6 := by rw [ef_6]; exact sgI.put hI (40 + 2 * t) 3 (shp_3 ht_t (show (-1) ≤ (x0 : Int32).toInt ∧ (x0 : Int32).toInt ≤ 49 from b0))
    have hJ : JX f_6 := JX.desk hJ ef_5 ef_6 ht_t (by have k0 : ((-1) : Int32).toInt = (-1) := ti_m1; omega)
    have hF : sgK WkX7_takesDesk f f_6 := sgK.put hF ef_6 (sgin_r (a := 40) (b := 51) (o := none) (by decide) (by omega) (by omega) (Or.inl rfl))
    exact hret _ _ _ _ f_6 L Q dX7_takesDesk_19 hP hS ⟨⟨hI, hF, rfl, rfl, hJ⟩, (Eq.trans (Eq.symm (hs.trans (((if_pos c_2).trans (spl_e ef_5 (spl_e ef_6 rfl)))))) hsp)⟩

abbrev WkX11_keep : List (Nat × Nat × Option Nat) := [(40, 51, none)]
set_option maxHeartbeats 4000000 in
set_option maxRecDepth 100000 in
theorem kX11_keep (l : Launch) (D : va_G) (ca : Nat → ClassId) (za h : Nat → Nat) (hh : sgH 52 h) (f : sg_F) (L : sg_L) (Q : sg_Q) (hI : sgI loX hiX f) (hJ : JX f) (x0 : Int32) (x1 : Int32) (sz : Nat) : Met l yX11_keep gwX11_keep { frames := 1, cells := 0, slots := 0, locals := 21 } (sgP D vwCl (tyX ca) 52 h (eX ca h) zcX za f L Q sz [.ref (h 0), .int x0, .int x1]) (sgQi D vwCl 52 h (eX ca h) sz (fun r f1 L1 Q1 => ((sgI loX hiX f1 ∧ sgK WkX11_keep f f1 ∧ L1 = L ∧ Q1 = Q ∧ JX f1) ∧ ((-1) ≤ r.toInt ∧ r.toInt ≤ 1) ∧ (r, f1) = sX11_keep x0 x1 f L))) 0 0 (sgA 52 h sz) := by
  refine sg_ofWi (cc := cX11_keep) (maxL := 3) RX11 (by decide) rfl rfl (Nat.le_of_ble_eq_true rfl) ?_
  intro p e s m below meth cd Qz ls hx hb hml hown hts hK hZ hP hS hl hret
  have hA := sgY.self (n := 52) (h := h) (sz := s.heap.size)
  have hl : lv_has ls 3 [(0, .ref (h 0)), (1, .int x0), (2, .int x1)] := hl
  obtain ⟨H, hH⟩ : ∃ z : Heap, z = s.heap := ⟨_, rfl⟩
  obtain ⟨locs, hlo⟩ : ∃ z : List Loc, z = [] := ⟨_, rfl⟩
  have hP : va_P D vwCl (sgw 52 h (eX ca h) f L Q) H := by rw [hH]; exact hP
  have hS : va_S (sgA 52 h s.heap.size) s.heap H locs := by rw [hH, hlo]; exact hS
  suffices hgo : W p l e ({ frames := 1, cells := 0, slots := 0, locals := 21 }) s m ([.ref (h 0), .int x0, .int x1] : List Value).toArray below meth cd H locs 0 0 Qz (F0 m 0 ls []) by rw [hH, hlo] at hgo; exact hgo
  clear hH hlo
  obtain ⟨sp, hsp⟩ : ∃ z : Int32 × sg_F, z = sX11_keep x0 x1 f L := ⟨_, rfl⟩
  have hs : sp = sX11_keep x0 x1 f L := hsp
  have hF : sgK WkX11_keep f f := sgK.rf
  refine lv_iload_n hx hb dX11_keep_0 rfl (lv_at hl 1 rfl) ?_
  refine sg_calli (va_runS (As := [.int x0]) (rest := []) ⟨hx, hb, hml, hown, hts⟩ (kX11_isShelf l D ca za h hh f L Q hI x0 H.size) (va_cwS 1 hts (gw_S (fun _ h => List.mem_cons_of_mem _ h) mw_35 mw_36 mw_37 mw_34) rfl rfl rfl hd_yX11_isShelf.2 ⟨Nat.le_of_ble_eq_true rfl, Nat.le_of_ble_eq_true rfl⟩) (sg_preS hA hK hP hS hZ) rfl rfl hl.1 rfl (lv_room (Nat.le_of_ble_eq_true rfl)) dX11_keep_1 ⟨Nat.le_refl _, Nat.le_refl _⟩) hA hS (fun r_4 f_1 L_2 Q_3 H locs hq hP hS => ?_)
  obtain ⟨⟨ef9, eL9, eQ9⟩, hq, u_5⟩ := hq
  replace hs := hs.trans (spl_e u_5 rfl)
  rw [ef9, eL9, eQ9] at hP; clear ef9 eL9 eQ9
  rcases hq with ⟨rfl, hq⟩ | ⟨rfl, hq⟩
  · skip
    have hc_6 := hq
    refine lv_if_eq (tgt := 23) hx hb dX11_keep_4 (by decide) (fun c => absurd c (by decide)) (fun c => ?_)
    refine lv_iload_n hx hb dX11_keep_7 rfl (lv_at hl 2 rfl) ?_
    refine lv_iconst (v := (-1)) hx hb dX11_keep_8 ic_m1 ?_
    refine lv_icmp_lt (tgt := 23) hx hb dX11_keep_9 (by decide) (fun c => ?_) (fun c => ?_)
    · skip
      have c_7 : x1.toInt < (-1) := (by first | exact (cm_lt1 ti_m1 c) | (have z := bn_lt c; have k1 : ((-1) : Int32).toInt = (-1) := ti_m1; omega))
      refine lv_iconst (v := (-1)) hx hb dX11_keep_23 ic_m1 ?_
      have k99 : ((-1) : Int32).toInt = (-1) := ti_m1
      exact hret _ _ _ _ (-1) f L Q dX11_keep_24 hP hS ⟨⟨hI, hF, rfl, rfl, hJ⟩, (by decide), (Eq.trans (Eq.symm (hs.trans ((if_pos rfl).trans ((if_pos c_7).trans rfl)))) hsp)⟩
    · skip
      have c_8 : (-1) ≤ x1.toInt := (by first | exact (cm_nlt1 ti_m1 c) | (have z := bn_nlt c; have k1 : ((-1) : Int32).toInt = (-1) := ti_m1; omega))
      refine lv_iload_n hx hb dX11_keep_12 rfl (lv_at hl 2 rfl) ?_
      refine lv_aload_n hx hb dX11_keep_13 rfl (lv_at hl 0 rfl) ?_
      refine sl_gX_0_8_11 hx hb hts hown hK hP dX11_keep_14 ?_
      refine sl_gX_36_2_11 (v := (f 36 2)) hx hb hts hown hK hP rfl dX11_keep_17 ?_
      refine lv_topi (fun v_9 ev_9 => ?_)
      replace hs := hs.trans ((if_pos rfl).trans ((if_neg (Int.not_lt.mpr c_8)).trans (spl_e ev_9 rfl)))
      have q_10 : 0 ≤ v_9.toInt ∧ v_9.toInt ≤ 50 := by rw [ev_9]; exact hI 36 2
      refine lv_icmp_lt (tgt := 25) hx hb dX11_keep_20 (by decide) (fun c => ?_) (fun c => ?_)
      · skip
        have c_11 : x1.toInt < v_9.toInt := (by first | exact (bn_lt c) | (have z := bn_lt c; omega))
        refine lv_aload_n hx hb dX11_keep_25 rfl (lv_at hl 0 rfl) ?_
        refine sl_gX_0_9_11 hx hb hts hown hK hP dX11_keep_26 ?_
        refine lv_iload_n hx hb dX11_keep_29 rfl (lv_at hl 1 rfl) ?_
        obtain ⟨t_13, et_13⟩ : ∃ z : Nat, z = x0.toNatClampNeg := ⟨_, rfl⟩
        have ht_t_13 : t_13 < 6 := by rw [et_13]; exact bn_kI (by omega) (by omega)
        refine sg_aald hx hb hK hP 39 (by decide) 3 rfl rfl (i := x0) (a := (h (40 + 2 * t_13))) (vp_in_iff.mpr ⟨by omega, by omega⟩) (show (if x0.toNatClampNeg < 6 then some (h (40 + 2 * x0.toNatClampNeg)) else none) = some (h (40 + 2 * t_13)) from by rw [← et_13, if_pos ht_t_13]) dX11_keep_30 ?_
        refine lv_iload_n hx hb dX11_keep_31 rfl (lv_at hl 2 rfl) ?_
        refine sg_callv (va_runV (As := [.int x1]) (rest := []) ⟨hx, hb, hml, hown, hts⟩ (kX7_takesDesk l D ca za h hh f L Q hI hJ x1 t_13 ht_t_13 ⟨by omega, by omega⟩ H.size) (sl_c7_takesDesk_0_0_0_0_11 hts ⟨Nat.le_of_ble_eq_true rfl, Nat.le_of_ble_eq_true rfl⟩) (sg_preV (ci := 7) (C := RX7) (T := TX7) (N := 4) hA hK hP hS hZ (40 + 2 * t_13) (by have := ht_t_13; omega) (eX_sh ca h ht_t_13 _ _ _) rfl) rfl rfl hl.1 rfl (lv_room (Nat.le_of_ble_eq_true rfl)) dX11_keep_32 ⟨Nat.le_refl _, Nat.le_refl _⟩) hA hS (fun f_14 L_15 Q_16 H locs hq hP hS => ?_)
        obtain ⟨⟨hI, hk_f_14, eL9, eQ9, hJ⟩, u_17⟩ := hq
        rw [eL9, eQ9] at hP; clear eL9 eQ9
        have hF : sgK WkX11_keep f f_14 := sgK.tr hF hk_f_14 (by decide +kernel)
        refine lv_iconst (v := 1) hx hb dX11_keep_35 ic_1 ?_
        have k99 : (1 : Int32).toInt = 1 := ti_1
        exact hret _ _ _ _ (1) f_14 L Q dX11_keep_36 hP hS ⟨⟨hI, hF, rfl, rfl, hJ⟩, (by decide), (Eq.trans (Eq.symm (hs.trans ((if_pos c_11).trans (spl_e et_13 (spl_e u_17 rfl))))) hsp)⟩
      · skip
        have c_12 : v_9.toInt ≤ x1.toInt := (by first | exact (bn_nlt c) | (have z := bn_nlt c; omega))
        refine lv_iconst (v := (-1)) hx hb dX11_keep_23 ic_m1 ?_
        have k99 : ((-1) : Int32).toInt = (-1) := ti_m1
        exact hret _ _ _ _ (-1) f L Q dX11_keep_24 hP hS ⟨⟨hI, hF, rfl, rfl, hJ⟩, (by decide), (Eq.trans (Eq.symm (hs.trans ((if_neg (Int.not_lt.mpr c_12)).trans rfl))) hsp)⟩
  · skip
    have hc_6 := hq
    refine lv_if_eq (tgt := 23) hx hb dX11_keep_4 (by decide) (fun c => ?_) (fun c => absurd c (by decide))
    refine lv_iconst (v := (-1)) hx hb dX11_keep_23 ic_m1 ?_
    have k99 : ((-1) : Int32).toInt = (-1) := ti_m1
    exact hret _ _ _ _ (-1) f L Q dX11_keep_24 hP hS ⟨⟨hI, hF, rfl, rfl, hJ⟩, (by decide), (Eq.trans (Eq.symm (hs.trans ((if_neg (by decide)).trans rfl))) hsp)⟩

abbrev WkX7_takesRow : List (Nat × Nat × Option Nat) := [(40, 51, none)]
set_option maxHeartbeats 4000000 in
set_option maxRecDepth 100000 in
theorem kX7_takesRow (l : Launch) (D : va_G) (ca : Nat → ClassId) (za h : Nat → Nat) (hh : sgH 52 h) (f : sg_F) (L : sg_L) (Q : sg_Q) (hI : sgI loX hiX f) (hJ : JX f) (x0 : Int32) (x1 : Int32) (t : Nat) (ht_t : t < 6) (b0 : 0 ≤ x0.toInt ∧ x0.toInt ≤ 4) (b1 : 0 ≤ x1.toInt ∧ x1.toInt ≤ 60) (sz : Nat) : Met l yX7_takesRow gwX7_takesRow { frames := 0, cells := 0, slots := 0, locals := 0 } (sgP D vwCl (tyX ca) 52 h (eX ca h) zcX za f L Q sz [.ref (h (40 + 2 * t)), .int x0, .int x1]) (sgQv D vwCl 52 h (eX ca h) sz (fun f1 L1 Q1 => ((sgI loX hiX f1 ∧ sgK WkX7_takesRow f f1 ∧ True ∧ Q1 = Q ∧ JX f1) ∧ (f1, L1) = sX7_takesRow x0 x1 t f L))) 0 0 (sgA 52 h sz) := by
  refine sg_ofWv (cc := cX7_takesRow) (maxL := 4) RX7 (by decide) rfl rfl (Nat.le_of_ble_eq_true rfl) ?_
  intro p e s m below meth cd Qz ls hx hb hml hown hts hK hZ hP hS hl hret
  have hA := sgY.self (n := 52) (h := h) (sz := s.heap.size)
  have hl : lv_has ls 4 [(0, .ref (h (40 + 2 * t))), (1, .int x0), (2, .int x1)] := hl
  obtain ⟨H, hH⟩ : ∃ z : Heap, z = s.heap := ⟨_, rfl⟩
  obtain ⟨locs, hlo⟩ : ∃ z : List Loc, z = [] := ⟨_, rfl⟩
  have hP : va_P D vwCl (sgw 52 h (eX ca h) f L Q) H := by rw [hH]; exact hP
  have hS : va_S (sgA 52 h s.heap.size) s.heap H locs := by rw [hH, hlo]; exact hS
  suffices hgo : W p l e ({ frames := 0, cells := 0, slots := 0, locals := 0 }) s m ([.ref (h (40 + 2 * t)), .int x0, .int x1] : List Value).toArray below meth cd H locs 0 0 Qz (F0 m 0 ls []) by rw [hH, hlo] at hgo; exact hgo
  clear hH hlo
  obtain ⟨sp, hsp⟩ : ∃ z : sg_F × sg_L, z = sX7_takesRow x0 x1 t f L := ⟨_, rfl⟩
  have hs : sp = sX7_takesRow x0 x1 t f L := hsp
  have hF : sgK WkX7_takesRow f f := sgK.rf
  have loop_12 : ∀ (n_12 : Nat) (y3_12 : Int32) (fp_12 : sg_F) (Lp_12 : sg_L) (H : Heap) (locs : List Loc) (ls : Array Slot), sp = sX7_takesRow_l12 x0 x1 t n_12 y3_12 fp_12 Lp_12 → 60 - y3_12.toInt < (n_12 : Int) → 0 ≤ (fp_12 (40 + 2 * t) 1).toInt ∧ (fp_12 (40 + 2 * t) 1).toInt ≤ 4 → 0 ≤ y3_12.toInt ∧ y3_12.toInt ≤ 60 → sgI loX hiX fp_12 → sgK WkX7_takesRow f fp_12 → JX fp_12 → va_P D vwCl (sgw 52 h (eX ca h) fp_12 Lp_12 Q) H → va_S (sgA 52 h s.heap.size) s.heap H locs → lv_has ls 4 [(0, .ref (h (40 + 2 * t))), (2, .int x1), (3, .int y3_12)] → W p l e ({ frames := 0, cells := 0, slots := 0, locals := 0 }) s m ([.ref (h (40 + 2 * t)), .int x0, .int x1] : List Value).toArray below meth cd H locs 0 0 Qz (F0 m 12 ls []) := by
    intro n_12
    induction n_12 with
    | zero => intro y3_12 fp_12 Lp_12 H locs ls hs hm_12 hy0_12 hy1_12 hI hF hJ hP hS hl; exact absurd hm_12 (by omega)
    | succ n_12 ih_12 =>
      intro y3_12 fp_12 Lp_12 H locs ls hs hm_12 hy0_12 hy1_12 hI hF hJ hP hS hl
      have hs : sp = sX7_takesRow_h12 x0 x1 t (sX7_takesRow_l12 x0 x1 t n_12) y3_12 fp_12 Lp_12 := hs
      obtain ⟨v_1, ev_1⟩ : ∃ z : Int32, z = fp_12 (40 + 2 * t) 1 := ⟨_, rfl⟩
      replace hs := hs.trans (spl_e ev_1 rfl)
      have q_2 : (-2) ≤ v_1.toInt ∧ v_1.toInt ≤ 4 := by rw [ev_1]; exact shb_1 hI ht_t
      have q_3 : (fp_12 (40 + 2 * t) 1).toInt = v_1.toInt := by rw [ev_1]
      refine lv_iload_n hx hb dX7_takesRow_12 rfl (lv_at hl 2 rfl) ?_
      refine lv_iload_n hx hb dX7_takesRow_13 rfl (lv_at hl 1 rfl) ?_
      refine lv_icmp_ge (tgt := 30) hx hb dX7_takesRow_14 (by decide) (fun c => ?_) (fun c => ?_)
      · skip
        have c_4 : x1.toInt ≤ y3_12.toInt := (by first | exact (bn_le c) | (have z := bn_le c; omega))
        exact hret _ _ _ _ fp_12 Lp_12 Q dX7_takesRow_30 hP hS ⟨⟨hI, hF, trivial, rfl, hJ⟩, (Eq.trans (Eq.symm (hs.trans ((if_neg (Int.not_lt.mpr c_4)).trans rfl))) hsp)⟩
      · skip
        have c_5 : y3_12.toInt < x1.toInt := (by first | exact (bn_nle c) | (have z := bn_nle c; omega))
        refine lv_aload_n hx hb dX7_takesRow_17 rfl (lv_at hl 0 rfl) ?_
        refine sg_get (ci := 7) (v := .ref (h (41 + 2 * t))) (C := RX7) (T := TX7) (N := 4) hx hb hts (fun w h => List.mem_cons_of_mem _ (gx_7 w h)) hown hK hP (40 + 2 * t) (by have := ht_t; omega) (eX_sh ca h ht_t _ _ _) rfl 0 (by decide) (hts _ (List.mem_cons_of_mem _ mw_86)) (fun _ h9 => h9) rfl dX7_takesRow_18 ?_
        refine lv_iload_n hx hb dX7_takesRow_21 rfl (lv_at hl 2 rfl) ?_
        refine lv_lconst (v := 0) hx hb dX7_takesRow_22 (by decide) ?_
        refine sg_last hx hb hh hA hK hP hS (41 + 2 * t) (by have := ht_t; omega) 1 (fun _ => eX_el ca h ht_t _ _ _) rfl (i := y3_12) (x := 0) (vp_in_iff.mpr ⟨by omega, by omega⟩) dX7_takesRow_23 (fun L_6 H locs eL_6 hP hS => ?_)
        obtain ⟨v_7, ev_7⟩ : ∃ z : Int32, z = y3_12 + 1 := ⟨_, rfl⟩
        have q_8 : v_7.toInt = y3_12.toInt + 1 := by rw [ev_7]; exact (bn_addc y3_12 1 (by decide) (by omega) (by omega))
        refine lv_iinc (v := v_7) (lv' := [(3, .int v_7), (0, .ref (h (40 + 2 * t))), (2, .int x1)]) hx hb dX7_takesRow_24 hl (k := 2) rfl (by rw [ev_7]; rfl) (by decide) rfl (fun ls hl => ?_)
        refine lv_goto (tgt := 12) hx hb dX7_takesRow_27 (by decide) ?_
        exact ih_12 v_7 fp_12 L_6 _ _ _ (hs.trans ((if_pos c_5).trans (spl_e eL_6 (spl_e ev_7 rfl)))) (by omega) (by have zzsht_1 : (fp_12 (40 + 2 * t) 1).toInt = v_1.toInt := (congrArg Int32.toInt (show fp_12 (40 + 2 * t) 1 = v_1 from ev_1.symm)); exact ⟨by omega, by omega⟩) ⟨by omega, by omega⟩ hI hF hJ hP hS (lv_sub hl [1, 2, 0] rfl)
  refine lv_aload_n hx hb dX7_takesRow_0 rfl (lv_at hl 0 rfl) ?_
  refine lv_iload_n hx hb dX7_takesRow_1 rfl (lv_at hl 1 rfl) ?_
  refine sg_put (ci := 7) (x := x0) (ty := .int) (C := RX7) (T := TX7) (N := 4) hx hb hts (fun w h => List.mem_cons_of_mem _ (gx_7 w h)) tyX7 tyX7_ok nmX7 hown hh hA hK hP hS (40 + 2 * t) (by have := ht_t; omega) (eX_sh ca h ht_t _ _ _) rfl 1 (by decide) (hts _ (List.mem_cons_of_mem _ mw_84)) (fun _ h9 => h9) rfl (eX_sh ca h ht_t _ _ _) (by decide +kernel) rfl rfl (Nat.le_of_ble_eq_true rfl) dX7_takesRow_2 (fun f_9 H locs ef_9 hP hS => ?_)
  have hI : sgI loX hiX f_9 := by rw [ef_9]; exact sgI.put hI (40 + 2 * t) 1 (shp_1 ht_t (show (-2) ≤ (x0 : Int32).toInt ∧ (x0 : Int32).toInt ≤ 4 from ⟨by omega, by omega⟩))
  have hJ : JX f_9 := JX.sort hJ ef_9 ht_t (by omega)
  have hF : sgK WkX7_takesRow f f_9 := sgK.put hF ef_9 (sgin_r (a := 40) (b := 51) (o := none) (by decide) (by omega) (by omega) (Or.inl rfl))
  refine lv_aload_n hx hb dX7_takesRow_5 rfl (lv_at hl 0 rfl) ?_
  refine lv_iload_n hx hb dX7_takesRow_6 rfl (lv_at hl 2 rfl) ?_
  refine sg_put (ci := 7) (x := x1) (ty := .int) (C := RX7) (T := TX7) (N := 4) hx hb hts (fun w h => List.mem_cons_of_mem _ (gx_7 w h)) tyX7 tyX7_ok nmX7 hown hh hA hK hP hS (40 + 2 * t) (by have := ht_t; omega) (eX_sh ca h ht_t _ _ _) rfl 2 (by decide) (hts _ (List.mem_cons_of_mem _ mw_85)) (fun _ h9 => h9) rfl (eX_sh ca h ht_t _ _ _) (by decide +kernel) rfl rfl (Nat.le_of_ble_eq_true rfl) dX7_takesRow_7 (fun f_10 H locs ef_10 hP hS => ?_)
  have hI : sgI loX hiX f_10 := by rw [ef_10]; exact sgI.put hI (40 + 2 * t) 2 (shp_2 ht_t (show 0 ≤ (x1 : Int32).toInt ∧ (x1 : Int32).toInt ≤ 60 from b1))
  have hJ : JX f_10 := JX.len hJ ef_10 ht_t
  have hF : sgK WkX7_takesRow f f_10 := sgK.put hF ef_10 (sgin_r (a := 40) (b := 51) (o := none) (by decide) (by omega) (by omega) (Or.inl rfl))
  refine lv_iconst (v := 0) hx hb dX7_takesRow_10 ic_0 ?_
  refine lv_istore_n (lv' := [(3, .int 0), (0, .ref (h (40 + 2 * t))), (1, .int x0), (2, .int x1)]) hx hb dX7_takesRow_11 rfl hl (by decide) rfl (fun ls hl => ?_)
  exact loop_12 61 0 f_10 L _ _ _ (hs.trans ((spl_e ef_9 (spl_e ef_10 rfl)))) (by have kc0 : (0 : Int32).toInt = 0 := ti_0; omega) (by have zzsht_1 : (f_10 (40 + 2 * t) 1).toInt = x0.toInt := (congrArg Int32.toInt (show f_10 (40 + 2 * t) 1 = x0 from (by rw [ef_10, sg_up_s, sgu_n (by decide)]; exact (by rw [ef_9, sg_up_s, sgu_s])))); exact ⟨by omega, by omega⟩) (by decide) hI hF hJ hP hS (lv_sub hl [1, 3, 0] rfl)

abbrev WkX11_row : List (Nat × Nat × Option Nat) := [(40, 51, none)]
set_option maxHeartbeats 4000000 in
set_option maxRecDepth 100000 in
theorem kX11_row (l : Launch) (D : va_G) (ca : Nat → ClassId) (za h : Nat → Nat) (hh : sgH 52 h) (f : sg_F) (L : sg_L) (Q : sg_Q) (hI : sgI loX hiX f) (hJ : JX f) (x0 : Int32) (x1 : Int32) (x2 : Int32) (sz : Nat) : Met l yX11_row gwX11_row { frames := 1, cells := 0, slots := 0, locals := 23 } (sgP D vwCl (tyX ca) 52 h (eX ca h) zcX za f L Q sz [.ref (h 0), .int x0, .int x1, .int x2]) (sgQi D vwCl 52 h (eX ca h) sz (fun r f1 L1 Q1 => ((sgI loX hiX f1 ∧ sgK WkX11_row f f1 ∧ True ∧ Q1 = Q ∧ JX f1) ∧ ((-14) ≤ r.toInt ∧ r.toInt ≤ 1) ∧ (r, f1, L1) = sX11_row x0 x1 x2 f L))) 0 0 (sgA 52 h sz) := by
  refine sg_ofWi (cc := cX11_row) (maxL := 4) RX11 (by decide) rfl rfl (Nat.le_of_ble_eq_true rfl) ?_
  intro p e s m below meth cd Qz ls hx hb hml hown hts hK hZ hP hS hl hret
  have hA := sgY.self (n := 52) (h := h) (sz := s.heap.size)
  have hl : lv_has ls 4 [(0, .ref (h 0)), (1, .int x0), (2, .int x1), (3, .int x2)] := hl
  obtain ⟨H, hH⟩ : ∃ z : Heap, z = s.heap := ⟨_, rfl⟩
  obtain ⟨locs, hlo⟩ : ∃ z : List Loc, z = [] := ⟨_, rfl⟩
  have hP : va_P D vwCl (sgw 52 h (eX ca h) f L Q) H := by rw [hH]; exact hP
  have hS : va_S (sgA 52 h s.heap.size) s.heap H locs := by rw [hH, hlo]; exact hS
  suffices hgo : W p l e ({ frames := 1, cells := 0, slots := 0, locals := 23 }) s m ([.ref (h 0), .int x0, .int x1, .int x2] : List Value).toArray below meth cd H locs 0 0 Qz (F0 m 0 ls []) by rw [hH, hlo] at hgo; exact hgo
  clear hH hlo
  obtain ⟨sp, hsp⟩ : ∃ z : Int32 × sg_F × sg_L, z = sX11_row x0 x1 x2 f L := ⟨_, rfl⟩
  have hs : sp = sX11_row x0 x1 x2 f L := hsp
  have hF : sgK WkX11_row f f := sgK.rf
  refine lv_iload_n hx hb dX11_row_0 rfl (lv_at hl 1 rfl) ?_
  refine sg_calli (va_runS (As := [.int x0]) (rest := []) ⟨hx, hb, hml, hown, hts⟩ (kX11_isShelf l D ca za h hh f L Q hI x0 H.size) (va_cwS 1 hts (gw_S (fun _ h => List.mem_cons_of_mem _ h) mw_35 mw_36 mw_37 mw_34) rfl rfl rfl hd_yX11_isShelf.2 ⟨Nat.le_of_ble_eq_true rfl, Nat.le_of_ble_eq_true rfl⟩) (sg_preS hA hK hP hS hZ) rfl rfl hl.1 rfl (lv_room (Nat.le_of_ble_eq_true rfl)) dX11_row_1 ⟨Nat.le_refl _, Nat.le_refl _⟩) hA hS (fun r_4 f_1 L_2 Q_3 H locs hq hP hS => ?_)
  obtain ⟨⟨ef9, eL9, eQ9⟩, hq, u_5⟩ := hq
  replace hs := hs.trans (spl_e u_5 rfl)
  rw [ef9, eL9, eQ9] at hP; clear ef9 eL9 eQ9
  rcases hq with ⟨rfl, hq⟩ | ⟨rfl, hq⟩
  · skip
    have hc_6 := hq
    refine lv_if_eq (tgt := 22) hx hb dX11_row_4 (by decide) (fun c => absurd c (by decide)) (fun c => ?_)
    refine lv_iload_n hx hb dX11_row_7 rfl (lv_at hl 2 rfl) ?_
    refine lv_if_lt (tgt := 22) hx hb dX11_row_8 (by decide) (fun c => ?_) (fun c => ?_)
    · skip
      have c_7 : x1.toInt < 0 := (by first | exact (cm_lt1 ti_0 c) | (have z := bn_lt c; have k1 : (0 : Int32).toInt = 0 := ti_0; omega))
      refine lv_iconst (v := (-1)) hx hb dX11_row_22 ic_m1 ?_
      have k99 : ((-1) : Int32).toInt = (-1) := ti_m1
      exact hret _ _ _ _ (-1) f L Q dX11_row_23 hP hS ⟨⟨hI, hF, trivial, rfl, hJ⟩, (by decide), (Eq.trans (Eq.symm (hs.trans ((if_pos rfl).trans ((if_pos c_7).trans rfl)))) hsp)⟩
    · skip
      have c_8 : 0 ≤ x1.toInt := (by first | exact (cm_nlt1 ti_0 c) | (have z := bn_nlt c; have k1 : (0 : Int32).toInt = 0 := ti_0; omega))
      replace hs := hs.trans ((if_pos rfl).trans ((if_neg (Int.not_lt.mpr c_8)).trans rfl))
      refine lv_iload_n hx hb dX11_row_11 rfl (lv_at hl 2 rfl) ?_
      refine lv_iconst (v := 4) hx hb dX11_row_12 ic_4 ?_
      refine lv_icmp_gt (tgt := 22) hx hb dX11_row_13 (by decide) (fun c => ?_) (fun c => ?_)
      · skip
        have c_9 : 4 < x1.toInt := (by first | exact (cm_lt0 ti_4 c) | (have z := bn_lt c; have k1 : (4 : Int32).toInt = 4 := ti_4; omega))
        refine lv_iconst (v := (-1)) hx hb dX11_row_22 ic_m1 ?_
        have k99 : ((-1) : Int32).toInt = (-1) := ti_m1
        exact hret _ _ _ _ (-1) f L Q dX11_row_23 hP hS ⟨⟨hI, hF, trivial, rfl, hJ⟩, (by decide), (Eq.trans (Eq.symm (hs.trans ((if_pos c_9).trans rfl))) hsp)⟩
      · skip
        have c_10 : x1.toInt ≤ 4 := (by first | exact (cm_nlt0 ti_4 c) | (have z := bn_nlt c; have k1 : (4 : Int32).toInt = 4 := ti_4; omega))
        replace hs := hs.trans ((if_neg (Int.not_lt.mpr c_10)).trans rfl)
        refine lv_iload_n hx hb dX11_row_16 rfl (lv_at hl 3 rfl) ?_
        refine lv_bipush (v := 60) hx hb dX11_row_17 bp_60 ?_
        refine lv_icmp_le (tgt := 24) hx hb dX11_row_19 (by decide) (fun c => ?_) (fun c => ?_)
        · skip
          have c_11 : x2.toInt ≤ 60 := (by first | exact (cm_le1 ti_60 c) | (have z := bn_le c; have k1 : (60 : Int32).toInt = 60 := ti_60; omega))
          replace hs := hs.trans ((if_neg (Int.not_lt.mpr c_11)).trans rfl)
          refine lv_iload_n hx hb dX11_row_24 rfl (lv_at hl 3 rfl) ?_
          refine lv_if_ge (tgt := 31) hx hb dX11_row_25 (by decide) (fun c => ?_) (fun c => ?_)
          · skip
            have c_13 : 0 ≤ x2.toInt := (by first | exact (cm_le0 ti_0 c) | (have z := bn_le c; have k1 : (0 : Int32).toInt = 0 := ti_0; omega))
            refine lv_aload_n hx hb dX11_row_31 rfl (lv_at hl 0 rfl) ?_
            refine sl_gX_0_9_11 hx hb hts hown hK hP dX11_row_32 ?_
            refine lv_iload_n hx hb dX11_row_35 rfl (lv_at hl 1 rfl) ?_
            obtain ⟨t_15, et_15⟩ : ∃ z : Nat, z = x0.toNatClampNeg := ⟨_, rfl⟩
            have ht_t_15 : t_15 < 6 := by rw [et_15]; exact bn_kI (by omega) (by omega)
            refine sg_aald hx hb hK hP 39 (by decide) 3 rfl rfl (i := x0) (a := (h (40 + 2 * t_15))) (vp_in_iff.mpr ⟨by omega, by omega⟩) (show (if x0.toNatClampNeg < 6 then some (h (40 + 2 * x0.toNatClampNeg)) else none) = some (h (40 + 2 * t_15)) from by rw [← et_15, if_pos ht_t_15]) dX11_row_36 ?_
            refine lv_iload_n hx hb dX11_row_37 rfl (lv_at hl 2 rfl) ?_
            refine lv_iload_n hx hb dX11_row_38 rfl (lv_at hl 3 rfl) ?_
            refine sg_callv (va_runV (As := [.int x1, .int x2]) (rest := []) ⟨hx, hb, hml, hown, hts⟩ (kX7_takesRow l D ca za h hh f L Q hI hJ x1 x2 t_15 ht_t_15 ⟨by omega, by omega⟩ ⟨by omega, by omega⟩ H.size) (sl_c7_takesRow_0_0_0_0_11 hts ⟨Nat.le_of_ble_eq_true rfl, Nat.le_of_ble_eq_true rfl⟩) (sg_preV (ci := 7) (C := RX7) (T := TX7) (N := 4) hA hK hP hS hZ (40 + 2 * t_15) (by have := ht_t_15; omega) (eX_sh ca h ht_t_15 _ _ _) rfl) rfl rfl hl.1 rfl (lv_room (Nat.le_of_ble_eq_true rfl)) dX11_row_39 ⟨Nat.le_refl _, Nat.le_refl _⟩) hA hS (fun f_16 L_17 Q_18 H locs hq hP hS => ?_)
            obtain ⟨⟨hI, hk_f_16, eL9, eQ9, hJ⟩, u_19⟩ := hq
            rw [eQ9] at hP; clear eQ9
            clear eL9
            have hF : sgK WkX11_row f f_16 := sgK.tr hF hk_f_16 (by decide +kernel)
            refine lv_iconst (v := 1) hx hb dX11_row_42 ic_1 ?_
            have k99 : (1 : Int32).toInt = 1 := ti_1
            exact hret _ _ _ _ (1) f_16 L_17 Q dX11_row_43 hP hS ⟨⟨hI, hF, trivial, rfl, hJ⟩, (by decide), (Eq.trans (Eq.symm (hs.trans ((if_neg (Int.not_lt.mpr c_13)).trans (spl_e et_15 (spl2_e u_19 rfl))))) hsp)⟩
          · skip
            have c_14 : x2.toInt < 0 := (by first | exact (cm_nle0 ti_0 c) | (have z := bn_nle c; have k1 : (0 : Int32).toInt = 0 := ti_0; omega))
            refine lv_bipush (v := (-14)) hx hb dX11_row_28 bp_m14 ?_
            have k99 : ((-14) : Int32).toInt = (-14) := ti_m14
            exact hret _ _ _ _ (-14) f L Q dX11_row_30 hP hS ⟨⟨hI, hF, trivial, rfl, hJ⟩, (by decide), (Eq.trans (Eq.symm (hs.trans ((if_pos c_14).trans rfl))) hsp)⟩
        · skip
          have c_12 : 60 < x2.toInt := (by first | exact (cm_nle1 ti_60 c) | (have z := bn_nle c; have k1 : (60 : Int32).toInt = 60 := ti_60; omega))
          refine lv_iconst (v := (-1)) hx hb dX11_row_22 ic_m1 ?_
          have k99 : ((-1) : Int32).toInt = (-1) := ti_m1
          exact hret _ _ _ _ (-1) f L Q dX11_row_23 hP hS ⟨⟨hI, hF, trivial, rfl, hJ⟩, (by decide), (Eq.trans (Eq.symm (hs.trans ((if_pos c_12).trans rfl))) hsp)⟩
  · skip
    have hc_6 := hq
    refine lv_if_eq (tgt := 22) hx hb dX11_row_4 (by decide) (fun c => ?_) (fun c => absurd c (by decide))
    refine lv_iconst (v := (-1)) hx hb dX11_row_22 ic_m1 ?_
    have k99 : ((-1) : Int32).toInt = (-1) := ti_m1
    exact hret _ _ _ _ (-1) f L Q dX11_row_23 hP hS ⟨⟨hI, hF, trivial, rfl, hJ⟩, (by decide), (Eq.trans (Eq.symm (hs.trans ((if_neg (by decide)).trans rfl))) hsp)⟩

set_option maxHeartbeats 4000000 in
set_option maxRecDepth 100000 in
theorem kX7_isRow (l : Launch) (D : va_G) (ca : Nat → ClassId) (za h : Nat → Nat) (hh : sgH 52 h) (f : sg_F) (L : sg_L) (Q : sg_Q) (hI : sgI loX hiX f) (t : Nat) (ht_t : t < 6) (sz : Nat) : Met l yX7_isRow gwX7_isRow { frames := 0, cells := 0, slots := 0, locals := 0 } (sgP D vwCl (tyX ca) 52 h (eX ca h) zcX za f L Q sz [.ref (h (40 + 2 * t))]) (sgQi D vwCl 52 h (eX ca h) sz (fun r f1 L1 Q1 => ((f1 = f ∧ L1 = L ∧ Q1 = Q) ∧ (0 ≤ r.toInt ∧ r.toInt ≤ 1) ∧ (r) = sX7_isRow t f L))) 0 0 (sgA 52 h sz) := by
  refine sg_ofWz (cc := cX7_isRow) (maxL := 1) RX7 (by decide) rfl rfl (Nat.le_of_ble_eq_true rfl) ?_
  intro p e s m below meth cd Qz ls hx hb hml hown hts hK hZ hP hS hl hret
  have hA := sgY.self (n := 52) (h := h) (sz := s.heap.size)
  have hl : lv_has ls 1 [(0, .ref (h (40 + 2 * t)))] := hl
  obtain ⟨H, hH⟩ : ∃ z : Heap, z = s.heap := ⟨_, rfl⟩
  obtain ⟨locs, hlo⟩ : ∃ z : List Loc, z = [] := ⟨_, rfl⟩
  have hP : va_P D vwCl (sgw 52 h (eX ca h) f L Q) H := by rw [hH]; exact hP
  have hS : va_S (sgA 52 h s.heap.size) s.heap H locs := by rw [hH, hlo]; exact hS
  suffices hgo : W p l e ({ frames := 0, cells := 0, slots := 0, locals := 0 }) s m ([.ref (h (40 + 2 * t))] : List Value).toArray below meth cd H locs 0 0 Qz (F0 m 0 ls []) by rw [hH, hlo] at hgo; exact hgo
  clear hH hlo
  obtain ⟨sp, hsp⟩ : ∃ z : Int32, z = sX7_isRow t f L := ⟨_, rfl⟩
  have hs : sp = sX7_isRow t f L := hsp
  refine lv_aload_n hx hb dX7_isRow_0 rfl (lv_at hl 0 rfl) ?_
  refine sg_get (ci := 7) (v := .int (f (40 + 2 * t) 1)) (C := RX7) (T := TX7) (N := 4) hx hb hts (fun w h => List.mem_cons_of_mem _ (gx_7 w h)) hown hK hP (40 + 2 * t) (by have := ht_t; omega) (eX_sh ca h ht_t _ _ _) rfl 1 (by decide) (hts _ (List.mem_cons_of_mem _ mw_84)) (fun _ h9 => h9) rfl dX7_isRow_1 ?_
  refine lv_topi (fun v_1 ev_1 => ?_)
  replace hs := hs.trans (spl_e ev_1 rfl)
  have q_2 : (-2) ≤ v_1.toInt ∧ v_1.toInt ≤ 4 := by rw [ev_1]; exact shb_1 hI ht_t
  refine lv_if_lt (tgt := 11) hx hb dX7_isRow_4 (by decide) (fun c => ?_) (fun c => ?_)
  · skip
    have c_3 : v_1.toInt < 0 := (by first | exact (cm_lt1 ti_0 c) | (have z := bn_lt c; have k1 : (0 : Int32).toInt = 0 := ti_0; omega))
    refine lv_iconst (v := 0) hx hb dX7_isRow_11 ic_0 ?_
    have k99 : (0 : Int32).toInt = 0 := ti_0
    exact hret _ _ _ _ (0) f L Q dX7_isRow_12 (by decide) hP hS ⟨⟨rfl, rfl, rfl⟩, (by decide), (Eq.trans (Eq.symm (hs.trans ((if_pos c_3).trans rfl))) hsp)⟩
  · skip
    have c_4 : 0 ≤ v_1.toInt := (by first | exact (cm_nlt1 ti_0 c) | (have z := bn_nlt c; have k1 : (0 : Int32).toInt = 0 := ti_0; omega))
    refine lv_iconst (v := 1) hx hb dX7_isRow_7 ic_1 ?_
    refine lv_goto (tgt := 12) hx hb dX7_isRow_8 (by decide) ?_
    have k99 : (1 : Int32).toInt = 1 := ti_1
    exact hret _ _ _ _ (1) f L Q dX7_isRow_12 (by decide) hP hS ⟨⟨rfl, rfl, rfl⟩, (by decide), (Eq.trans (Eq.symm (hs.trans ((if_neg (Int.not_lt.mpr c_4)).trans rfl))) hsp)⟩

set_option maxHeartbeats 4000000 in
set_option maxRecDepth 100000 in
theorem kX11_refusalAt (l : Launch) (D : va_G) (ca : Nat → ClassId) (za h : Nat → Nat) (hh : sgH 52 h) (f : sg_F) (L : sg_L) (Q : sg_Q) (hI : sgI loX hiX f) (x0 : Int32) (x1 : Int32) (sz : Nat) : Met l yX11_refusalAt gwX11_refusalAt { frames := 1, cells := 0, slots := 0, locals := 22 } (sgP D vwCl (tyX ca) 52 h (eX ca h) zcX za f L Q sz [.ref (h 0), .int x0, .int x1]) (sgQi D vwCl 52 h (eX ca h) sz (fun r f1 L1 Q1 => ((f1 = f ∧ L1 = L ∧ Q1 = Q) ∧ ((r = 0 ∧ (0 ≤ x0.toInt ∧ x0.toInt ≤ 5 ∧ 0 ≤ x1.toInt ∧ x1.toInt ≤ 59)) ∨ (r.toInt = -1 ∨ r.toInt = -11 ∨ r.toInt = -12 ∨ r.toInt = -13)) ∧ (r) = sX11_refusalAt x0 x1 f L))) 0 0 (sgA 52 h sz) := by
  refine sg_ofWi (cc := cX11_refusalAt) (maxL := 4) RX11 (by decide) rfl rfl (Nat.le_of_ble_eq_true rfl) ?_
  intro p e s m below meth cd Qz ls hx hb hml hown hts hK hZ hP hS hl hret
  have hA := sgY.self (n := 52) (h := h) (sz := s.heap.size)
  have hl : lv_has ls 4 [(0, .ref (h 0)), (1, .int x0), (2, .int x1)] := hl
  obtain ⟨H, hH⟩ : ∃ z : Heap, z = s.heap := ⟨_, rfl⟩
  obtain ⟨locs, hlo⟩ : ∃ z : List Loc, z = [] := ⟨_, rfl⟩
  have hP : va_P D vwCl (sgw 52 h (eX ca h) f L Q) H := by rw [hH]; exact hP
  have hS : va_S (sgA 52 h s.heap.size) s.heap H locs := by rw [hH, hlo]; exact hS
  suffices hgo : W p l e ({ frames := 1, cells := 0, slots := 0, locals := 22 }) s m ([.ref (h 0), .int x0, .int x1] : List Value).toArray below meth cd H locs 0 0 Qz (F0 m 0 ls []) by rw [hH, hlo] at hgo; exact hgo
  clear hH hlo
  obtain ⟨sp, hsp⟩ : ∃ z : Int32, z = sX11_refusalAt x0 x1 f L := ⟨_, rfl⟩
  have hs : sp = sX11_refusalAt x0 x1 f L := hsp
  refine lv_iload_n hx hb dX11_refusalAt_0 rfl (lv_at hl 1 rfl) ?_
  refine sg_calli (va_runS (As := [.int x0]) (rest := []) ⟨hx, hb, hml, hown, hts⟩ (kX11_isShelf l D ca za h hh f L Q hI x0 H.size) (va_cwS 1 hts (gw_S (fun _ h => List.mem_cons_of_mem _ h) mw_35 mw_36 mw_37 mw_34) rfl rfl rfl hd_yX11_isShelf.2 ⟨Nat.le_of_ble_eq_true rfl, Nat.le_of_ble_eq_true rfl⟩) (sg_preS hA hK hP hS hZ) rfl rfl hl.1 rfl (lv_room (Nat.le_of_ble_eq_true rfl)) dX11_refusalAt_1 ⟨Nat.le_refl _, Nat.le_refl _⟩) hA hS (fun r_4 f_1 L_2 Q_3 H locs hq hP hS => ?_)
  obtain ⟨⟨ef9, eL9, eQ9⟩, hq, u_5⟩ := hq
  replace hs := hs.trans (spl_e u_5 rfl)
  rw [ef9, eL9, eQ9] at hP; clear ef9 eL9 eQ9
  rcases hq with ⟨rfl, hq⟩ | ⟨rfl, hq⟩
  · skip
    have hc_6 := hq
    refine lv_if_ne (tgt := 9) hx hb dX11_refusalAt_4 (by decide) (fun c => ?_) (fun c => absurd c (by decide))
    refine lv_aload_n hx hb dX11_refusalAt_9 rfl (lv_at hl 0 rfl) ?_
    refine sl_gX_0_9_11 hx hb hts hown hK hP dX11_refusalAt_10 ?_
    refine lv_iload_n hx hb dX11_refusalAt_13 rfl (lv_at hl 1 rfl) ?_
    obtain ⟨t_7, et_7⟩ : ∃ z : Nat, z = x0.toNatClampNeg := ⟨_, rfl⟩
    have ht_t_7 : t_7 < 6 := by rw [et_7]; exact bn_kI (by omega) (by omega)
    refine sg_aald hx hb hK hP 39 (by decide) 3 rfl rfl (i := x0) (a := (h (40 + 2 * t_7))) (vp_in_iff.mpr ⟨by omega, by omega⟩) (show (if x0.toNatClampNeg < 6 then some (h (40 + 2 * x0.toNatClampNeg)) else none) = some (h (40 + 2 * t_7)) from by rw [← et_7, if_pos ht_t_7]) dX11_refusalAt_14 ?_
    refine lv_astore_n (lv' := [(3, .ref (h (40 + 2 * t_7))), (0, .ref (h 0)), (1, .int x0), (2, .int x1)]) hx hb dX11_refusalAt_15 rfl hl (by decide) rfl (fun ls hl => ?_)
    refine lv_aload_n hx hb dX11_refusalAt_16 rfl (lv_at hl 0 rfl) ?_
    refine sg_get (ci := 7) (v := .int (f (40 + 2 * t_7) 1)) (C := RX7) (T := TX7) (N := 4) hx hb hts (fun w h => List.mem_cons_of_mem _ (gx_7 w h)) hown hK hP (40 + 2 * t_7) (by have := ht_t_7; omega) (eX_sh ca h ht_t_7 _ _ _) rfl 1 (by decide) (hts _ (List.mem_cons_of_mem _ mw_42)) (fun _ h9 => h9) rfl dX11_refusalAt_17 ?_
    refine lv_topi (fun v_8 ev_8 => ?_)
    replace hs := hs.trans ((if_pos rfl).trans (spl_e et_7 (spl_e ev_8 rfl)))
    have q_9 : (-2) ≤ v_8.toInt ∧ v_8.toInt ≤ 4 := by rw [ev_8]; exact shb_1 hI ht_t_7
    refine lv_iconst (v := (-1)) hx hb dX11_refusalAt_20 ic_m1 ?_
    refine lv_icmp_ne (tgt := 27) hx hb dX11_refusalAt_21 (by decide) (fun c => ?_) (fun c => ?_)
    · skip
      have c_10 : v_8.toInt ≠ (-1) := (by first | exact (cm_ne1 ti_m1 c) | (have z := bn_ne c; have k1 : ((-1) : Int32).toInt = (-1) := ti_m1; omega))
      refine lv_aload_n hx hb dX11_refusalAt_27 rfl (lv_at hl 0 rfl) ?_
      refine sg_calli (va_runV (As := []) (rest := []) ⟨hx, hb, hml, hown, hts⟩ (kX7_isRow l D ca za h hh f L Q hI t_7 ht_t_7 H.size) (sl_c7_isRow_0_0_0_0_11 hts ⟨Nat.le_of_ble_eq_true rfl, Nat.le_of_ble_eq_true rfl⟩) (sg_preV (ci := 7) (C := RX7) (T := TX7) (N := 4) hA hK hP hS hZ (40 + 2 * t_7) (by have := ht_t_7; omega) (eX_sh ca h ht_t_7 _ _ _) rfl) rfl rfl hl.1 rfl (lv_room (Nat.le_of_ble_eq_true rfl)) dX11_refusalAt_28 ⟨Nat.le_refl _, Nat.le_refl _⟩) hA hS (fun r_15 f_12 L_13 Q_14 H locs hq hP hS => ?_)
      obtain ⟨⟨ef9, eL9, eQ9⟩, hq, u_16⟩ := hq
      replace hs := hs.trans ((if_neg c_10).trans (spl_e u_16 rfl))
      rw [ef9, eL9, eQ9] at hP; clear ef9 eL9 eQ9
      refine lv_if_ne (tgt := 37) hx hb dX11_refusalAt_31 (by decide) (fun c => ?_) (fun c => ?_)
      · skip
        have c_17 : r_15.toInt ≠ 0 := (by first | exact (cm_ne1 ti_0 c) | (have z := bn_ne c; have k1 : (0 : Int32).toInt = 0 := ti_0; omega))
        refine lv_aload_n hx hb dX11_refusalAt_37 rfl (lv_at hl 0 rfl) ?_
        refine lv_iload_n hx hb dX11_refusalAt_38 rfl (lv_at hl 3 rfl) ?_
        refine lv_iconst (v := 1) hx hb dX11_refusalAt_39 ic_1 ?_
        obtain ⟨v_19, ev_19⟩ : ∃ z : Int32, z = f (40 + 2 * t_7) 2 := ⟨_, rfl⟩
        have q_20 : 0 ≤ v_19.toInt ∧ v_19.toInt ≤ 60 := by rw [ev_19]; exact shb_2 hI ht_t_7
        have q_21 : (f (40 + 2 * t_7) 2).toInt = v_19.toInt := (congrArg Int32.toInt (show f (40 + 2 * t_7) 2 = v_19 from ev_19.symm))
        refine sg_calli (va_runV (As := [.int x1, .int 1]) (rest := []) ⟨hx, hb, hml, hown, hts⟩ (kX7_hasPlaces l D ca za h hh f L Q hI x1 1 t_7 ht_t_7 H.size) (sl_c7_hasPlaces_0_0_0_0_11 hts ⟨Nat.le_of_ble_eq_true rfl, Nat.le_of_ble_eq_true rfl⟩) (sg_preV (ci := 7) (C := RX7) (T := TX7) (N := 4) hA hK hP hS hZ (40 + 2 * t_7) (by have := ht_t_7; omega) (eX_sh ca h ht_t_7 _ _ _) rfl) rfl rfl hl.1 rfl (lv_room (Nat.le_of_ble_eq_true rfl)) dX11_refusalAt_40 ⟨Nat.le_refl _, Nat.le_refl _⟩) hA hS (fun r_25 f_22 L_23 Q_24 H locs hq hP hS => ?_)
        obtain ⟨⟨ef9, eL9, eQ9⟩, hq, u_26⟩ := hq
        replace hs := hs.trans ((if_neg c_17).trans (spl_e ev_19 (spl_e u_26 rfl)))
        rw [ef9, eL9, eQ9] at hP; clear ef9 eL9 eQ9
        have k_27 : (1 : Int32).toInt = 1 := by decide
        rcases hq with ⟨rfl, hq⟩ | ⟨rfl, hq⟩
        · skip
          have hc_28 := hq
          refine lv_if_eq (tgt := 50) hx hb dX11_refusalAt_43 (by decide) (fun c => absurd c (by decide)) (fun c => ?_)
          refine lv_iconst (v := 0) hx hb dX11_refusalAt_46 ic_0 ?_
          refine lv_goto (tgt := 52) hx hb dX11_refusalAt_47 (by decide) ?_
          have k99 : (0 : Int32).toInt = 0 := ti_0
          exact hret _ _ _ _ (0) f L Q dX11_refusalAt_52 hP hS ⟨⟨rfl, rfl, rfl⟩, (by first | exact Or.inl ⟨rfl, by omega⟩ | exact Or.inr ((by omega))), (Eq.trans (Eq.symm (hs.trans ((if_pos rfl).trans rfl))) hsp)⟩
        · skip
          have hc_28 := hq
          refine lv_if_eq (tgt := 50) hx hb dX11_refusalAt_43 (by decide) (fun c => ?_) (fun c => absurd c (by decide))
          refine lv_bipush (v := (-13)) hx hb dX11_refusalAt_50 bp_m13 ?_
          have k99 : ((-13) : Int32).toInt = (-13) := ti_m13
          exact hret _ _ _ _ (-13) f L Q dX11_refusalAt_52 hP hS ⟨⟨rfl, rfl, rfl⟩, Or.inr ((by omega)), (Eq.trans (Eq.symm (hs.trans ((if_neg (by decide)).trans rfl))) hsp)⟩
      · skip
        have c_18 : r_15.toInt = 0 := (by first | exact (cm_eq1 ti_0 c) | (have z := Int32.toInt_inj.mpr c; have k1 : (0 : Int32).toInt = 0 := ti_0; omega))
        refine lv_bipush (v := (-12)) hx hb dX11_refusalAt_34 bp_m12 ?_
        have k99 : ((-12) : Int32).toInt = (-12) := ti_m12
        exact hret _ _ _ _ (-12) f L Q dX11_refusalAt_36 hP hS ⟨⟨rfl, rfl, rfl⟩, Or.inr ((by omega)), (Eq.trans (Eq.symm (hs.trans ((if_pos c_18).trans rfl))) hsp)⟩
    · skip
      have c_11 : v_8.toInt = (-1) := (by first | exact (cm_eq1 ti_m1 c) | (have z := Int32.toInt_inj.mpr c; have k1 : ((-1) : Int32).toInt = (-1) := ti_m1; omega))
      refine lv_bipush (v := (-11)) hx hb dX11_refusalAt_24 bp_m11 ?_
      have k99 : ((-11) : Int32).toInt = (-11) := ti_m11
      exact hret _ _ _ _ (-11) f L Q dX11_refusalAt_26 hP hS ⟨⟨rfl, rfl, rfl⟩, Or.inr ((by omega)), (Eq.trans (Eq.symm (hs.trans ((if_pos c_11).trans rfl))) hsp)⟩
  · skip
    have hc_6 := hq
    refine lv_if_ne (tgt := 9) hx hb dX11_refusalAt_4 (by decide) (fun c => absurd c (by decide)) (fun c => ?_)
    refine lv_iconst (v := (-1)) hx hb dX11_refusalAt_7 ic_m1 ?_
    have k99 : ((-1) : Int32).toInt = (-1) := ti_m1
    exact hret _ _ _ _ (-1) f L Q dX11_refusalAt_8 hP hS ⟨⟨rfl, rfl, rfl⟩, Or.inr ((by omega)), (Eq.trans (Eq.symm (hs.trans ((if_neg (by decide)).trans rfl))) hsp)⟩

set_option maxHeartbeats 4000000 in
set_option maxRecDepth 100000 in
theorem kX7_cut (l : Launch) (D : va_G) (ca : Nat → ClassId) (za h : Nat → Nat) (hh : sgH 52 h) (f : sg_F) (L : sg_L) (Q : sg_Q) (hI : sgI loX hiX f) (x0 : Int64) (t : Nat) (ht_t : t < 6) (sz : Nat) : Met l yX7_cut gwX7_cut { frames := 0, cells := 0, slots := 0, locals := 0 } (sgP D vwCl (tyX ca) 52 h (eX ca h) zcX za f L Q sz [.ref (h (40 + 2 * t)), .long x0]) (sgQl D vwCl 52 h (eX ca h) sz (fun r f1 L1 Q1 => ((f1 = f ∧ L1 = L ∧ Q1 = Q) ∧ True ∧ (r) = sX7_cut x0 t f L))) 0 0 (sgA 52 h sz) := by
  refine sg_ofWl (cc := cX7_cut) (maxL := 3) RX7 (by decide) rfl rfl (Nat.le_of_ble_eq_true rfl) ?_
  intro p e s m below meth cd Qz ls hx hb hml hown hts hK hZ hP hS hl hret
  have hA := sgY.self (n := 52) (h := h) (sz := s.heap.size)
  have hl : lv_has ls 3 [(0, .ref (h (40 + 2 * t))), (1, .long x0)] := hl
  obtain ⟨H, hH⟩ : ∃ z : Heap, z = s.heap := ⟨_, rfl⟩
  obtain ⟨locs, hlo⟩ : ∃ z : List Loc, z = [] := ⟨_, rfl⟩
  have hP : va_P D vwCl (sgw 52 h (eX ca h) f L Q) H := by rw [hH]; exact hP
  have hS : va_S (sgA 52 h s.heap.size) s.heap H locs := by rw [hH, hlo]; exact hS
  suffices hgo : W p l e ({ frames := 0, cells := 0, slots := 0, locals := 0 }) s m ([.ref (h (40 + 2 * t)), .long x0] : List Value).toArray below meth cd H locs 0 0 Qz (F0 m 0 ls []) by rw [hH, hlo] at hgo; exact hgo
  clear hH hlo
  obtain ⟨sp, hsp⟩ : ∃ z : Int64, z = sX7_cut x0 t f L := ⟨_, rfl⟩
  have hs : sp = sX7_cut x0 t f L := hsp
  refine lv_aload_n hx hb dX7_cut_0 rfl (lv_at hl 0 rfl) ?_
  refine sg_get (ci := 7) (v := .int (f (40 + 2 * t) 1)) (C := RX7) (T := TX7) (N := 4) hx hb hts (fun w h => List.mem_cons_of_mem _ (gx_7 w h)) hown hK hP (40 + 2 * t) (by have := ht_t; omega) (eX_sh ca h ht_t _ _ _) rfl 1 (by decide) (hts _ (List.mem_cons_of_mem _ mw_84)) (fun _ h9 => h9) rfl dX7_cut_1 ?_
  refine lv_topi (fun v_1 ev_1 => ?_)
  replace hs := hs.trans (spl_e ev_1 rfl)
  have q_2 : (-2) ≤ v_1.toInt ∧ v_1.toInt ≤ 4 := by rw [ev_1]; exact shb_1 hI ht_t
  rcases (show (v_1.toInt ≠ 0 ∧ v_1.toInt ≠ 1 ∧ v_1.toInt ≠ 2 ∧ v_1.toInt ≠ 4) ∨ v_1.toInt = 0 ∨ v_1.toInt = 1 ∨ v_1.toInt = 2 ∨ v_1.toInt = 4 from by omega) with c | c | c | c | c
  · skip
    have cs_3 := c
    replace hs := hs.trans ((if_neg cs_3.1).trans ((if_neg cs_3.2.1).trans ((if_neg cs_3.2.2.1).trans ((if_neg cs_3.2.2.2).trans rfl))))
    rcases (show (v_1.toInt < 0 ∨ 4 < v_1.toInt) ∨ v_1.toInt = 3 from by omega) with c9 | c9
    · skip
      refine lv_tableOut (x := v_1) (tgt := 66) hx hb dX7_cut_4 c9 (by decide) ?_
      refine lv_lload_n hx hb dX7_cut_66 rfl (lv_at hl 1 rfl) ?_
      exact hret _ _ _ _ (x0) f L Q dX7_cut_67 hP hS ⟨⟨rfl, rfl, rfl⟩, trivial, (Eq.trans (Eq.symm (hs.trans ((if_neg (by omega)).trans rfl))) hsp)⟩
    · skip
      refine lv_tableIn (x := v_1) (tgt := 66) hx hb dX7_cut_4 (by omega) (by omega) (by rw [c9]; rfl) (by decide) ?_
      refine lv_lload_n hx hb dX7_cut_66 rfl (lv_at hl 1 rfl) ?_
      exact hret _ _ _ _ (x0) f L Q dX7_cut_67 hP hS ⟨⟨rfl, rfl, rfl⟩, trivial, (Eq.trans (Eq.symm (hs.trans ((if_pos c9).trans rfl))) hsp)⟩
  · skip
    have cs_3 := c
    have c_4 := c
    refine lv_tableIn (x := v_1) (tgt := 40) hx hb dX7_cut_4 (by omega) (by omega) (by rw [c]; rfl) (by decide) ?_
    refine lv_lload_n hx hb dX7_cut_40 rfl (lv_at hl 1 rfl) ?_
    obtain ⟨v_5, ev_5⟩ : ∃ z : Int32, z = Int64.toInt32 x0 := ⟨_, rfl⟩
    refine lv_l2i (v := v_5) hx hb dX7_cut_41 ev_5.symm ?_
    obtain ⟨v_6, ev_6⟩ : ∃ z : Int32, z = (Int32.toInt8 v_5).toInt32 := ⟨_, rfl⟩
    refine lv_i2b (v := v_6) hx hb dX7_cut_42 ev_6.symm ?_
    obtain ⟨w_7, ew_7⟩ : ∃ z : Int64, z = Int32.toInt64 v_6 := ⟨_, rfl⟩
    have q_8 : w_7.toInt = v_6.toInt := by rw [ew_7]; exact Int32.toInt_toInt64 _
    refine lv_i2l (v := w_7) hx hb dX7_cut_43 ew_7.symm ?_
    exact hret _ _ _ _ (w_7) f L Q dX7_cut_44 hP hS ⟨⟨rfl, rfl, rfl⟩, trivial, (Eq.trans (Eq.symm (hs.trans ((if_pos cs_3).trans (spl_e ev_5 (spl_e ev_6 (spl_e ew_7 rfl)))))) hsp)⟩
  · skip
    have cs_3 := c
    have c_9 := c
    refine lv_tableIn (x := v_1) (tgt := 45) hx hb dX7_cut_4 (by omega) (by omega) (by rw [c]; rfl) (by decide) ?_
    refine lv_lload_n hx hb dX7_cut_45 rfl (lv_at hl 1 rfl) ?_
    obtain ⟨v_10, ev_10⟩ : ∃ z : Int32, z = Int64.toInt32 x0 := ⟨_, rfl⟩
    refine lv_l2i (v := v_10) hx hb dX7_cut_46 ev_10.symm ?_
    obtain ⟨v_11, ev_11⟩ : ∃ z : Int32, z = (Int32.toInt16 v_10).toInt32 := ⟨_, rfl⟩
    refine lv_i2s (v := v_11) hx hb dX7_cut_47 ev_11.symm ?_
    obtain ⟨w_12, ew_12⟩ : ∃ z : Int64, z = Int32.toInt64 v_11 := ⟨_, rfl⟩
    have q_13 : w_12.toInt = v_11.toInt := by rw [ew_12]; exact Int32.toInt_toInt64 _
    refine lv_i2l (v := w_12) hx hb dX7_cut_48 ew_12.symm ?_
    exact hret _ _ _ _ (w_12) f L Q dX7_cut_49 hP hS ⟨⟨rfl, rfl, rfl⟩, trivial, (Eq.trans (Eq.symm (hs.trans ((if_neg (fun z => absurd (z.symm.trans cs_3) (by decide))).trans ((if_pos cs_3).trans (spl_e ev_10 (spl_e ev_11 (spl_e ew_12 rfl))))))) hsp)⟩
  · skip
    have cs_3 := c
    have c_14 := c
    refine lv_tableIn (x := v_1) (tgt := 50) hx hb dX7_cut_4 (by omega) (by omega) (by rw [c]; rfl) (by decide) ?_
    refine lv_lload_n hx hb dX7_cut_50 rfl (lv_at hl 1 rfl) ?_
    obtain ⟨v_15, ev_15⟩ : ∃ z : Int32, z = Int64.toInt32 x0 := ⟨_, rfl⟩
    refine lv_l2i (v := v_15) hx hb dX7_cut_51 ev_15.symm ?_
    obtain ⟨w_16, ew_16⟩ : ∃ z : Int64, z = Int32.toInt64 v_15 := ⟨_, rfl⟩
    have q_17 : w_16.toInt = v_15.toInt := by rw [ew_16]; exact Int32.toInt_toInt64 _
    refine lv_i2l (v := w_16) hx hb dX7_cut_52 ew_16.symm ?_
    exact hret _ _ _ _ (w_16) f L Q dX7_cut_53 hP hS ⟨⟨rfl, rfl, rfl⟩, trivial, (Eq.trans (Eq.symm (hs.trans ((if_neg (fun z => absurd (z.symm.trans cs_3) (by decide))).trans ((if_neg (fun z => absurd (z.symm.trans cs_3) (by decide))).trans ((if_pos cs_3).trans (spl_e ev_15 (spl_e ew_16 rfl))))))) hsp)⟩
  · skip
    have cs_3 := c
    have c_18 := c
    refine lv_tableIn (x := v_1) (tgt := 54) hx hb dX7_cut_4 (by omega) (by omega) (by rw [c]; rfl) (by decide) ?_
    refine lv_lload_n hx hb dX7_cut_54 rfl (lv_at hl 1 rfl) ?_
    refine lv_lconst (v := 0) hx hb dX7_cut_55 (by decide) ?_
    refine W.lcmp hx hb dX7_cut_56 ?_
    refine lv_topi (fun v_19 ev_19 => ?_)
    replace hs := hs.trans ((if_neg (fun z => absurd (z.symm.trans cs_3) (by decide))).trans ((if_neg (fun z => absurd (z.symm.trans cs_3) (by decide))).trans ((if_neg (fun z => absurd (z.symm.trans cs_3) (by decide))).trans ((if_pos cs_3).trans (spl_e ev_19 rfl)))))
    have q_20 : (v_19.toInt = -1 ∧ x0.toInt < 0) ∨ (v_19.toInt = 0 ∧ x0.toInt = 0) ∨ (v_19.toInt = 1 ∧ 0 < x0.toInt) := by rw [ev_19]; have k1 : (0 : Int64).toInt = 0 := (by decide); have z := bn_lcmpI (x0 : Int64) (0 : Int64); omega
    refine lv_if_eq (tgt := 64) hx hb dX7_cut_57 (by decide) (fun c => ?_) (fun c => ?_)
    · skip
      have c_21 : v_19.toInt = 0 := (by first | exact (cm_eq1 ti_0 c) | (have z := Int32.toInt_inj.mpr c; have k1 : (0 : Int32).toInt = 0 := ti_0; omega))
      refine lv_lconst (v := 0) hx hb dX7_cut_64 (by decide) ?_
      exact hret _ _ _ _ (0) f L Q dX7_cut_65 hP hS ⟨⟨rfl, rfl, rfl⟩, trivial, (Eq.trans (Eq.symm (hs.trans ((if_pos c_21).trans rfl))) hsp)⟩
    · skip
      have c_22 : v_19.toInt ≠ 0 := (by first | exact (cm_ne1 ti_0 c) | (have z := bn_ne c; have k1 : (0 : Int32).toInt = 0 := ti_0; omega))
      refine lv_lconst (v := 1) hx hb dX7_cut_60 (by decide) ?_
      refine lv_goto (tgt := 65) hx hb dX7_cut_61 (by decide) ?_
      exact hret _ _ _ _ (1) f L Q dX7_cut_65 hP hS ⟨⟨rfl, rfl, rfl⟩, trivial, (Eq.trans (Eq.symm (hs.trans ((if_neg c_22).trans rfl))) hsp)⟩

set_option maxHeartbeats 4000000 in
set_option maxRecDepth 100000 in
theorem kX11_put (l : Launch) (D : va_G) (ca : Nat → ClassId) (za h : Nat → Nat) (hh : sgH 52 h) (f : sg_F) (L : sg_L) (Q : sg_Q) (hI : sgI loX hiX f) (x0 : Int32) (x1 : Int32) (x2 : Int64) (sz : Nat) : Met l yX11_put gwX11_put { frames := 2, cells := 0, slots := 0, locals := 45 } (sgP D vwCl (tyX ca) 52 h (eX ca h) zcX za f L Q sz [.ref (h 0), .int x0, .int x1, .long x2]) (sgQi D vwCl 52 h (eX ca h) sz (fun r f1 L1 Q1 => ((f1 = f ∧ True ∧ Q1 = Q) ∧ ((-13) ≤ r.toInt ∧ r.toInt ≤ 1) ∧ (r, L1) = sX11_put x0 x1 x2 f L))) 0 0 (sgA 52 h sz) := by
  refine sg_ofWi (cc := cX11_put) (maxL := 6) RX11 (by decide) rfl rfl (Nat.le_of_ble_eq_true rfl) ?_
  intro p e s m below meth cd Qz ls hx hb hml hown hts hK hZ hP hS hl hret
  have hA := sgY.self (n := 52) (h := h) (sz := s.heap.size)
  have hl : lv_has ls 6 [(0, .ref (h 0)), (1, .int x0), (2, .int x1), (3, .long x2)] := hl
  obtain ⟨H, hH⟩ : ∃ z : Heap, z = s.heap := ⟨_, rfl⟩
  obtain ⟨locs, hlo⟩ : ∃ z : List Loc, z = [] := ⟨_, rfl⟩
  have hP : va_P D vwCl (sgw 52 h (eX ca h) f L Q) H := by rw [hH]; exact hP
  have hS : va_S (sgA 52 h s.heap.size) s.heap H locs := by rw [hH, hlo]; exact hS
  suffices hgo : W p l e ({ frames := 2, cells := 0, slots := 0, locals := 45 }) s m ([.ref (h 0), .int x0, .int x1, .long x2] : List Value).toArray below meth cd H locs 0 0 Qz (F0 m 0 ls []) by rw [hH, hlo] at hgo; exact hgo
  clear hH hlo
  obtain ⟨sp, hsp⟩ : ∃ z : Int32 × sg_L, z = sX11_put x0 x1 x2 f L := ⟨_, rfl⟩
  have hs : sp = sX11_put x0 x1 x2 f L := hsp
  refine lv_aload_n hx hb dX11_put_0 rfl (lv_at hl 0 rfl) ?_
  refine lv_iload_n hx hb dX11_put_1 rfl (lv_at hl 1 rfl) ?_
  refine lv_iload_n hx hb dX11_put_2 rfl (lv_at hl 2 rfl) ?_
  refine sg_calli (va_runV (As := [.int x0, .int x1]) (rest := []) ⟨hx, hb, hml, hown, hts⟩ (kX11_refusalAt l D ca za h hh f L Q hI x0 x1 H.size) (sl_c11_refusalAt_1_0_0_22_11 hts ⟨Nat.le_of_ble_eq_true rfl, Nat.le_of_ble_eq_true rfl⟩) (sl_vX_0 hA hK hP hS hZ) rfl rfl hl.1 rfl (lv_room (Nat.le_of_ble_eq_true rfl)) dX11_put_3 ⟨Nat.le_refl _, Nat.le_refl _⟩) hA hS (fun r_4 f_1 L_2 Q_3 H locs hq hP hS => ?_)
  obtain ⟨⟨ef9, eL9, eQ9⟩, hq, u_5⟩ := hq
  replace hs := hs.trans (spl_e u_5 rfl)
  rw [ef9, eL9, eQ9] at hP; clear ef9 eL9 eQ9
  rcases hq with ⟨rfl, hq⟩ | hq
  · skip
    have hc_6 := hq
    refine lv_istore (lv' := [(5, .int 0), (0, .ref (h 0)), (1, .int x0), (2, .int x1), (3, .long x2)]) hx hb dX11_put_6 hl (by decide) rfl (fun ls hl => ?_)
    refine lv_iload hx hb dX11_put_8 (lv_at hl 0 rfl) ?_
    refine lv_if_eq (tgt := 16) hx hb dX11_put_10 (by decide) (fun c => ?_) (fun c => absurd c (by decide))
    refine lv_aload_n hx hb dX11_put_16 rfl (lv_at hl 1 rfl) ?_
    refine sl_gX_0_9_11 hx hb hts hown hK hP dX11_put_17 ?_
    refine lv_iload_n hx hb dX11_put_20 rfl (lv_at hl 2 rfl) ?_
    obtain ⟨t_7, et_7⟩ : ∃ z : Nat, z = x0.toNatClampNeg := ⟨_, rfl⟩
    have ht_t_7 : t_7 < 6 := by rw [et_7]; exact bn_kI (by omega) (by omega)
    refine sg_aald hx hb hK hP 39 (by decide) 3 rfl rfl (i := x0) (a := (h (40 + 2 * t_7))) (vp_in_iff.mpr ⟨by omega, by omega⟩) (show (if x0.toNatClampNeg < 6 then some (h (40 + 2 * x0.toNatClampNeg)) else none) = some (h (40 + 2 * t_7)) from by rw [← et_7, if_pos ht_t_7]) dX11_put_21 ?_
    refine sg_get (ci := 7) (v := .ref (h (41 + 2 * t_7))) (C := RX7) (T := TX7) (N := 4) hx hb hts (fun w h => List.mem_cons_of_mem _ (gx_7 w h)) hown hK hP (40 + 2 * t_7) (by have := ht_t_7; omega) (eX_sh ca h ht_t_7 _ _ _) rfl 0 (by decide) (hts _ (List.mem_cons_of_mem _ mw_115)) (fun _ h9 => h9) rfl dX11_put_22 ?_
    refine lv_iload_n hx hb dX11_put_25 rfl (lv_at hl 3 rfl) ?_
    refine lv_aload_n hx hb dX11_put_26 rfl (lv_at hl 1 rfl) ?_
    refine sl_gX_0_9_11 hx hb hts hown hK hP dX11_put_27 ?_
    refine lv_iload_n hx hb dX11_put_30 rfl (lv_at hl 2 rfl) ?_
    refine sg_aald hx hb hK hP 39 (by decide) 3 rfl rfl (i := x0) (a := (h (40 + 2 * t_7))) (vp_in_iff.mpr ⟨by omega, by omega⟩) (show (if x0.toNatClampNeg < 6 then some (h (40 + 2 * x0.toNatClampNeg)) else none) = some (h (40 + 2 * t_7)) from by rw [← et_7, if_pos ht_t_7]) dX11_put_31 ?_
    refine lv_lload_n hx hb dX11_put_32 rfl (lv_at hl 4 rfl) ?_
    refine sg_calll (va_runV (As := [.long x2]) (rest := [.int x1, .ref (h (41 + 2 * t_7))]) ⟨hx, hb, hml, hown, hts⟩ (kX7_cut l D ca za h hh f L Q hI x2 t_7 ht_t_7 H.size) (sl_c7_cut_0_0_0_0_11 hts ⟨Nat.le_of_ble_eq_true rfl, Nat.le_of_ble_eq_true rfl⟩) (sg_preV (ci := 7) (C := RX7) (T := TX7) (N := 4) hA hK hP hS hZ (40 + 2 * t_7) (by have := ht_t_7; omega) (eX_sh ca h ht_t_7 _ _ _) rfl) rfl rfl hl.1 rfl (lv_room (Nat.le_of_ble_eq_true rfl)) dX11_put_33 ⟨Nat.le_refl _, Nat.le_refl _⟩) hA hS (fun r_11 f_8 L_9 Q_10 H locs hq hP hS => ?_)
    obtain ⟨⟨ef9, eL9, eQ9⟩, hq, u_12⟩ := hq
    rw [ef9, eL9, eQ9] at hP; clear ef9 eL9 eQ9
    clear hq
    refine sg_last hx hb hh hA hK hP hS (41 + 2 * t_7) (by have := ht_t_7; omega) 1 (fun _ => eX_el ca h ht_t_7 _ _ _) rfl (i := x1) (x := r_11) (vp_in_iff.mpr ⟨by omega, by omega⟩) dX11_put_36 (fun L_13 H locs eL_13 hP hS => ?_)
    refine lv_iconst (v := 1) hx hb dX11_put_37 ic_1 ?_
    have k99 : (1 : Int32).toInt = 1 := ti_1
    exact hret _ _ _ _ (1) f L_13 Q dX11_put_38 hP hS ⟨⟨rfl, trivial, rfl⟩, (by decide), (Eq.trans (Eq.symm (hs.trans ((if_pos rfl).trans (spl_e et_7 (spl_e u_12 (spl_e eL_13 rfl)))))) hsp)⟩
  · skip
    have hc_6 := hq
    refine lv_istore (lv' := [(5, .int r_4), (0, .ref (h 0)), (1, .int x0), (2, .int x1), (3, .long x2)]) hx hb dX11_put_6 hl (by decide) rfl (fun ls hl => ?_)
    refine lv_iload hx hb dX11_put_8 (lv_at hl 0 rfl) ?_
    refine lv_if_eq (tgt := 16) hx hb dX11_put_10 (by decide) (fun c => ?_) (fun c => ?_)
    · skip
      exfalso; have c_14 : r_4.toInt = 0 := (by first | exact (cm_eq1 ti_0 c) | (have z := Int32.toInt_inj.mpr c; have k1 : (0 : Int32).toInt = 0 := ti_0; omega)); first | exact absurd c_14 (by assumption) | omega
    · skip
      have c_15 : r_4.toInt ≠ 0 := (by first | exact (cm_ne1 ti_0 c) | (have z := bn_ne c; have k1 : (0 : Int32).toInt = 0 := ti_0; omega))
      refine lv_iload hx hb dX11_put_13 (lv_at hl 0 rfl) ?_
      exact hret _ _ _ _ (r_4) f L Q dX11_put_15 hP hS ⟨⟨rfl, trivial, rfl⟩, ⟨by omega, by omega⟩, (Eq.trans (Eq.symm (hs.trans ((if_neg (fun z9 => by have k9 : (0 : Int32).toInt = 0 := ti_0; have h9 := hc_6; rw [z9] at h9; omega)).trans rfl))) hsp)⟩

set_option maxHeartbeats 4000000 in
set_option maxRecDepth 100000 in
theorem kX11_element (l : Launch) (D : va_G) (ca : Nat → ClassId) (za h : Nat → Nat) (hh : sgH 52 h) (f : sg_F) (L : sg_L) (Q : sg_Q) (hI : sgI loX hiX f) (x0 : Int32) (x1 : Int32) (sz : Nat) : Met l yX11_element gwX11_element { frames := 2, cells := 0, slots := 0, locals := 45 } (sgP D vwCl (tyX ca) 52 h (eX ca h) zcX za f L Q sz [.ref (h 0), .int x0, .int x1]) (sgQl D vwCl 52 h (eX ca h) sz (fun r f1 L1 Q1 => ((f1 = f ∧ L1 = L ∧ Q1 = Q) ∧ True ∧ (r) = sX11_element x0 x1 f L))) 0 0 (sgA 52 h sz) := by
  refine sg_ofWl (cc := cX11_element) (maxL := 3) RX11 (by decide) rfl rfl (Nat.le_of_ble_eq_true rfl) ?_
  intro p e s m below meth cd Qz ls hx hb hml hown hts hK hZ hP hS hl hret
  have hA := sgY.self (n := 52) (h := h) (sz := s.heap.size)
  have hl : lv_has ls 3 [(0, .ref (h 0)), (1, .int x0), (2, .int x1)] := hl
  obtain ⟨H, hH⟩ : ∃ z : Heap, z = s.heap := ⟨_, rfl⟩
  obtain ⟨locs, hlo⟩ : ∃ z : List Loc, z = [] := ⟨_, rfl⟩
  have hP : va_P D vwCl (sgw 52 h (eX ca h) f L Q) H := by rw [hH]; exact hP
  have hS : va_S (sgA 52 h s.heap.size) s.heap H locs := by rw [hH, hlo]; exact hS
  suffices hgo : W p l e ({ frames := 2, cells := 0, slots := 0, locals := 45 }) s m ([.ref (h 0), .int x0, .int x1] : List Value).toArray below meth cd H locs 0 0 Qz (F0 m 0 ls []) by rw [hH, hlo] at hgo; exact hgo
  clear hH hlo
  obtain ⟨sp, hsp⟩ : ∃ z : Int64, z = sX11_element x0 x1 f L := ⟨_, rfl⟩
  have hs : sp = sX11_element x0 x1 f L := hsp
  refine lv_aload_n hx hb dX11_element_0 rfl (lv_at hl 0 rfl) ?_
  refine lv_iload_n hx hb dX11_element_1 rfl (lv_at hl 1 rfl) ?_
  refine lv_iload_n hx hb dX11_element_2 rfl (lv_at hl 2 rfl) ?_
  refine sg_calli (va_runV (As := [.int x0, .int x1]) (rest := []) ⟨hx, hb, hml, hown, hts⟩ (kX11_refusalAt l D ca za h hh f L Q hI x0 x1 H.size) (sl_c11_refusalAt_1_0_0_22_11 hts ⟨Nat.le_of_ble_eq_true rfl, Nat.le_of_ble_eq_true rfl⟩) (sl_vX_0 hA hK hP hS hZ) rfl rfl hl.1 rfl (lv_room (Nat.le_of_ble_eq_true rfl)) dX11_element_3 ⟨Nat.le_refl _, Nat.le_refl _⟩) hA hS (fun r_4 f_1 L_2 Q_3 H locs hq hP hS => ?_)
  obtain ⟨⟨ef9, eL9, eQ9⟩, hq, u_5⟩ := hq
  replace hs := hs.trans (spl_e u_5 rfl)
  rw [ef9, eL9, eQ9] at hP; clear ef9 eL9 eQ9
  rcases hq with ⟨rfl, hq⟩ | hq
  · skip
    have hc_6 := hq
    refine lv_if_eq (tgt := 15) hx hb dX11_element_6 (by decide) (fun c => ?_) (fun c => absurd c (by decide))
    refine lv_aload_n hx hb dX11_element_15 rfl (lv_at hl 0 rfl) ?_
    refine sl_gX_0_9_11 hx hb hts hown hK hP dX11_element_16 ?_
    refine lv_iload_n hx hb dX11_element_19 rfl (lv_at hl 1 rfl) ?_
    obtain ⟨t_7, et_7⟩ : ∃ z : Nat, z = x0.toNatClampNeg := ⟨_, rfl⟩
    have ht_t_7 : t_7 < 6 := by rw [et_7]; exact bn_kI (by omega) (by omega)
    refine sg_aald hx hb hK hP 39 (by decide) 3 rfl rfl (i := x0) (a := (h (40 + 2 * t_7))) (vp_in_iff.mpr ⟨by omega, by omega⟩) (show (if x0.toNatClampNeg < 6 then some (h (40 + 2 * x0.toNatClampNeg)) else none) = some (h (40 + 2 * t_7)) from by rw [← et_7, if_pos ht_t_7]) dX11_element_20 ?_
    refine sg_get (ci := 7) (v := .ref (h (41 + 2 * t_7))) (C := RX7) (T := TX7) (N := 4) hx hb hts (fun w h => List.mem_cons_of_mem _ (gx_7 w h)) hown hK hP (40 + 2 * t_7) (by have := ht_t_7; omega) (eX_sh ca h ht_t_7 _ _ _) rfl 0 (by decide) (hts _ (List.mem_cons_of_mem _ mw_115)) (fun _ h9 => h9) rfl dX11_element_21 ?_
    refine lv_iload_n hx hb dX11_element_24 rfl (lv_at hl 2 rfl) ?_
    refine sg_lald hx hb hK hP (41 + 2 * t_7) (by have := ht_t_7; omega) 1 (eX_el ca h ht_t_7 _ _ _) rfl (i := x1) (vp_in_iff.mpr ⟨by omega, by omega⟩) dX11_element_25 ?_
    obtain ⟨w_8, ew_8⟩ : ∃ z : Int64, z = L (41 + 2 * t_7) (Int32.toNatClampNeg x1) := ⟨_, rfl⟩
    rw [← ew_8]
    exact hret _ _ _ _ (w_8) f L Q dX11_element_26 hP hS ⟨⟨rfl, rfl, rfl⟩, trivial, (Eq.trans (Eq.symm (hs.trans ((if_pos rfl).trans (spl_e et_7 (spl_e ew_8 rfl))))) hsp)⟩
  · skip
    have hc_6 := hq
    refine lv_if_eq (tgt := 15) hx hb dX11_element_6 (by decide) (fun c => ?_) (fun c => ?_)
    · skip
      exfalso; have c_9 : r_4.toInt = 0 := (by first | exact (cm_eq1 ti_0 c) | (have z := Int32.toInt_inj.mpr c; have k1 : (0 : Int32).toInt = 0 := ti_0; omega)); first | exact absurd c_9 (by assumption) | omega
    · skip
      have c_10 : r_4.toInt ≠ 0 := (by first | exact (cm_ne1 ti_0 c) | (have z := bn_ne c; have k1 : (0 : Int32).toInt = 0 := ti_0; omega))
      refine lv_ldc2 (v := (-9223372036854775808)) hx hb hown (hts _ (List.mem_cons_of_mem _ mw_116)) dX11_element_9 ?_
      refine lv_goto (tgt := 26) hx hb dX11_element_12 (by decide) ?_
      exact hret _ _ _ _ (-9223372036854775808) f L Q dX11_element_26 hP hS ⟨⟨rfl, rfl, rfl⟩, trivial, (Eq.trans (Eq.symm (hs.trans ((if_neg (fun z9 => by have k9 : (0 : Int32).toInt = 0 := ti_0; have h9 := hc_6; rw [z9] at h9; omega)).trans rfl))) hsp)⟩

set_option maxHeartbeats 4000000 in
set_option maxRecDepth 100000 in
theorem kX11_shift (l : Launch) (D : va_G) (ca : Nat → ClassId) (za h : Nat → Nat) (hh : sgH 52 h) (f : sg_F) (L : sg_L) (Q : sg_Q) (hI : sgI loX hiX f) (x0 : Int32) (x1 : Int32) (x2 : Int32) (x3 : Int32) (x4 : Int32) (sz : Nat) : Met l yX11_shift gwX11_shift { frames := 1, cells := 0, slots := 0, locals := 64 } (sgP D vwCl (tyX ca) 52 h (eX ca h) zcX za f L Q sz [.ref (h 0), .int x0, .int x1, .int x2, .int x3, .int x4]) (sgQi D vwCl 52 h (eX ca h) sz (fun r f1 L1 Q1 => ((f1 = f ∧ True ∧ Q1 = Q) ∧ ((-13) ≤ r.toInt ∧ r.toInt ≤ 60) ∧ (r, L1) = sX11_shift x0 x1 x2 x3 x4 f L))) 0 0 (sgA 52 h sz) := by
  refine sg_ofWi (cc := cX11_shift) (maxL := 8) RX11 (by decide) rfl rfl (Nat.le_of_ble_eq_true rfl) ?_
  intro p e s m below meth cd Qz ls hx hb hml hown hts hK hZ hP hS hl hret
  have hA := sgY.self (n := 52) (h := h) (sz := s.heap.size)
  have hl : lv_has ls 8 [(0, .ref (h 0)), (1, .int x0), (2, .int x1), (3, .int x2), (4, .int x3), (5, .int x4)] := hl
  obtain ⟨H, hH⟩ : ∃ z : Heap, z = s.heap := ⟨_, rfl⟩
  obtain ⟨locs, hlo⟩ : ∃ z : List Loc, z = [] := ⟨_, rfl⟩
  have hP : va_P D vwCl (sgw 52 h (eX ca h) f L Q) H := by rw [hH]; exact hP
  have hS : va_S (sgA 52 h s.heap.size) s.heap H locs := by rw [hH, hlo]; exact hS
  suffices hgo : W p l e ({ frames := 1, cells := 0, slots := 0, locals := 64 }) s m ([.ref (h 0), .int x0, .int x1, .int x2, .int x3, .int x4] : List Value).toArray below meth cd H locs 0 0 Qz (F0 m 0 ls []) by rw [hH, hlo] at hgo; exact hgo
  clear hH hlo
  obtain ⟨sp, hsp⟩ : ∃ z : Int32 × sg_L, z = sX11_shift x0 x1 x2 x3 x4 f L := ⟨_, rfl⟩
  have hs : sp = sX11_shift x0 x1 x2 x3 x4 f L := hsp
  refine lv_iload_n hx hb dX11_shift_0 rfl (lv_at hl 1 rfl) ?_
  refine sg_calli (va_runS (As := [.int x0]) (rest := []) ⟨hx, hb, hml, hown, hts⟩ (kX11_isShelf l D ca za h hh f L Q hI x0 H.size) (va_cwS 1 hts (gw_S (fun _ h => List.mem_cons_of_mem _ h) mw_35 mw_36 mw_37 mw_34) rfl rfl rfl hd_yX11_isShelf.2 ⟨Nat.le_of_ble_eq_true rfl, Nat.le_of_ble_eq_true rfl⟩) (sg_preS hA hK hP hS hZ) rfl rfl hl.1 rfl (lv_room (Nat.le_of_ble_eq_true rfl)) dX11_shift_1 ⟨Nat.le_refl _, Nat.le_refl _⟩) hA hS (fun r_4 f_1 L_2 Q_3 H locs hq hP hS => ?_)
  obtain ⟨⟨ef9, eL9, eQ9⟩, hq, u_5⟩ := hq
  replace hs := hs.trans (spl_e u_5 rfl)
  rw [ef9, eL9, eQ9] at hP; clear ef9 eL9 eQ9
  rcases hq with ⟨rfl, hq⟩ | ⟨rfl, hq⟩
  · skip
    have hc_6 := hq
    refine lv_if_eq (tgt := 14) hx hb dX11_shift_4 (by decide) (fun c => absurd c (by decide)) (fun c => ?_)
    refine lv_iload_n hx hb dX11_shift_7 rfl (lv_at hl 3 rfl) ?_
    refine sg_calli (va_runS (As := [.int x2]) (rest := []) ⟨hx, hb, hml, hown, hts⟩ (kX11_isShelf l D ca za h hh f L Q hI x2 H.size) (va_cwS 1 hts (gw_S (fun _ h => List.mem_cons_of_mem _ h) mw_35 mw_36 mw_37 mw_34) rfl rfl rfl hd_yX11_isShelf.2 ⟨Nat.le_of_ble_eq_true rfl, Nat.le_of_ble_eq_true rfl⟩) (sg_preS hA hK hP hS hZ) rfl rfl hl.1 rfl (lv_room (Nat.le_of_ble_eq_true rfl)) dX11_shift_8 ⟨Nat.le_refl _, Nat.le_refl _⟩) hA hS (fun r_10 f_7 L_8 Q_9 H locs hq hP hS => ?_)
    obtain ⟨⟨ef9, eL9, eQ9⟩, hq, u_11⟩ := hq
    replace hs := hs.trans ((if_pos rfl).trans (spl_e u_11 rfl))
    rw [ef9, eL9, eQ9] at hP; clear ef9 eL9 eQ9
    rcases hq with ⟨rfl, hq⟩ | ⟨rfl, hq⟩
    · skip
      have hc_12 := hq
      refine lv_if_ne (tgt := 16) hx hb dX11_shift_11 (by decide) (fun c => ?_) (fun c => absurd c (by decide))
      refine lv_aload_n hx hb dX11_shift_16 rfl (lv_at hl 0 rfl) ?_
      refine sl_gX_0_9_11 hx hb hts hown hK hP dX11_shift_17 ?_
      refine lv_iload_n hx hb dX11_shift_20 rfl (lv_at hl 1 rfl) ?_
      obtain ⟨t_13, et_13⟩ : ∃ z : Nat, z = x0.toNatClampNeg := ⟨_, rfl⟩
      have ht_t_13 : t_13 < 6 := by rw [et_13]; exact bn_kI (by omega) (by omega)
      refine sg_aald hx hb hK hP 39 (by decide) 3 rfl rfl (i := x0) (a := (h (40 + 2 * t_13))) (vp_in_iff.mpr ⟨by omega, by omega⟩) (show (if x0.toNatClampNeg < 6 then some (h (40 + 2 * x0.toNatClampNeg)) else none) = some (h (40 + 2 * t_13)) from by rw [← et_13, if_pos ht_t_13]) dX11_shift_21 ?_
      refine lv_astore (lv' := [(6, .ref (h (40 + 2 * t_13))), (0, .ref (h 0)), (1, .int x0), (2, .int x1), (3, .int x2), (4, .int x3), (5, .int x4)]) hx hb dX11_shift_22 hl (by decide) rfl (fun ls hl => ?_)
      refine lv_aload_n hx hb dX11_shift_24 rfl (lv_at hl 1 rfl) ?_
      refine sl_gX_0_9_11 hx hb hts hown hK hP dX11_shift_25 ?_
      refine lv_iload_n hx hb dX11_shift_28 rfl (lv_at hl 4 rfl) ?_
      obtain ⟨t_14, et_14⟩ : ∃ z : Nat, z = x2.toNatClampNeg := ⟨_, rfl⟩
      have ht_t_14 : t_14 < 6 := by rw [et_14]; exact bn_kI (by omega) (by omega)
      refine sg_aald hx hb hK hP 39 (by decide) 3 rfl rfl (i := x2) (a := (h (40 + 2 * t_14))) (vp_in_iff.mpr ⟨by omega, by omega⟩) (show (if x2.toNatClampNeg < 6 then some (h (40 + 2 * x2.toNatClampNeg)) else none) = some (h (40 + 2 * t_14)) from by rw [← et_14, if_pos ht_t_14]) dX11_shift_29 ?_
      refine lv_astore (lv' := [(7, .ref (h (40 + 2 * t_14))), (6, .ref (h (40 + 2 * t_13))), (0, .ref (h 0)), (1, .int x0), (2, .int x1), (3, .int x2), (4, .int x3), (5, .int x4)]) hx hb dX11_shift_30 hl (by decide) rfl (fun ls hl => ?_)
      refine lv_aload hx hb dX11_shift_32 (lv_at hl 1 rfl) ?_
      refine sg_get (ci := 7) (v := .int (f (40 + 2 * t_13) 1)) (C := RX7) (T := TX7) (N := 4) hx hb hts (fun w h => List.mem_cons_of_mem _ (gx_7 w h)) hown hK hP (40 + 2 * t_13) (by have := ht_t_13; omega) (eX_sh ca h ht_t_13 _ _ _) rfl 1 (by decide) (hts _ (List.mem_cons_of_mem _ mw_42)) (fun _ h9 => h9) rfl dX11_shift_34 ?_
      refine lv_topi (fun v_15 ev_15 => ?_)
      replace hs := hs.trans ((if_pos rfl).trans (spl_e et_13 (spl_e et_14 (spl_e ev_15 rfl))))
      have q_16 : (-2) ≤ v_15.toInt ∧ v_15.toInt ≤ 4 := by rw [ev_15]; exact shb_1 hI ht_t_13
      refine lv_iconst (v := (-1)) hx hb dX11_shift_37 ic_m1 ?_
      refine lv_icmp_eq (tgt := 50) hx hb dX11_shift_38 (by decide) (fun c => ?_) (fun c => ?_)
      · skip
        have c_17 : v_15.toInt = (-1) := (by first | exact (cm_eq1 ti_m1 c) | (have z := Int32.toInt_inj.mpr c; have k1 : ((-1) : Int32).toInt = (-1) := ti_m1; omega))
        refine lv_bipush (v := (-11)) hx hb dX11_shift_50 bp_m11 ?_
        have k99 : ((-11) : Int32).toInt = (-11) := ti_m11
        exact hret _ _ _ _ (-11) f L Q dX11_shift_52 hP hS ⟨⟨rfl, trivial, rfl⟩, (by decide), (Eq.trans (Eq.symm (hs.trans ((if_pos c_17).trans rfl))) hsp)⟩
      · skip
        have c_18 : v_15.toInt ≠ (-1) := (by first | exact (cm_ne1 ti_m1 c) | (have z := bn_ne c; have k1 : ((-1) : Int32).toInt = (-1) := ti_m1; omega))
        refine lv_aload hx hb dX11_shift_41 (lv_at hl 0 rfl) ?_
        refine sg_get (ci := 7) (v := .int (f (40 + 2 * t_14) 1)) (C := RX7) (T := TX7) (N := 4) hx hb hts (fun w h => List.mem_cons_of_mem _ (gx_7 w h)) hown hK hP (40 + 2 * t_14) (by have := ht_t_14; omega) (eX_sh ca h ht_t_14 _ _ _) rfl 1 (by decide) (hts _ (List.mem_cons_of_mem _ mw_42)) (fun _ h9 => h9) rfl dX11_shift_43 ?_
        refine lv_topi (fun v_19 ev_19 => ?_)
        replace hs := hs.trans ((if_neg c_18).trans (spl_e ev_19 rfl))
        have q_20 : (-2) ≤ v_19.toInt ∧ v_19.toInt ≤ 4 := by rw [ev_19]; exact shb_1 hI ht_t_14
        refine lv_iconst (v := (-1)) hx hb dX11_shift_46 ic_m1 ?_
        refine lv_icmp_ne (tgt := 53) hx hb dX11_shift_47 (by decide) (fun c => ?_) (fun c => ?_)
        · skip
          have c_21 : v_19.toInt ≠ (-1) := (by first | exact (cm_ne1 ti_m1 c) | (have z := bn_ne c; have k1 : ((-1) : Int32).toInt = (-1) := ti_m1; omega))
          refine lv_aload hx hb dX11_shift_53 (lv_at hl 1 rfl) ?_
          refine sg_calli (va_runV (As := []) (rest := []) ⟨hx, hb, hml, hown, hts⟩ (kX7_isRow l D ca za h hh f L Q hI t_13 ht_t_13 H.size) (sl_c7_isRow_0_0_0_0_11 hts ⟨Nat.le_of_ble_eq_true rfl, Nat.le_of_ble_eq_true rfl⟩) (sg_preV (ci := 7) (C := RX7) (T := TX7) (N := 4) hA hK hP hS hZ (40 + 2 * t_13) (by have := ht_t_13; omega) (eX_sh ca h ht_t_13 _ _ _) rfl) rfl rfl hl.1 rfl (lv_room (Nat.le_of_ble_eq_true rfl)) dX11_shift_55 ⟨Nat.le_refl _, Nat.le_refl _⟩) hA hS (fun r_26 f_23 L_24 Q_25 H locs hq hP hS => ?_)
          obtain ⟨⟨ef9, eL9, eQ9⟩, hq, u_27⟩ := hq
          replace hs := hs.trans ((if_neg c_21).trans (spl_e u_27 rfl))
          rw [ef9, eL9, eQ9] at hP; clear ef9 eL9 eQ9
          refine lv_if_eq (tgt := 74) hx hb dX11_shift_58 (by decide) (fun c => ?_) (fun c => ?_)
          · skip
            have c_28 : r_26.toInt = 0 := (by first | exact (cm_eq1 ti_0 c) | (have z := Int32.toInt_inj.mpr c; have k1 : (0 : Int32).toInt = 0 := ti_0; omega))
            refine lv_bipush (v := (-12)) hx hb dX11_shift_74 bp_m12 ?_
            have k99 : ((-12) : Int32).toInt = (-12) := ti_m12
            exact hret _ _ _ _ (-12) f L Q dX11_shift_76 hP hS ⟨⟨rfl, trivial, rfl⟩, (by decide), (Eq.trans (Eq.symm (hs.trans ((if_pos c_28).trans rfl))) hsp)⟩
          · skip
            have c_29 : r_26.toInt ≠ 0 := (by first | exact (cm_ne1 ti_0 c) | (have z := bn_ne c; have k1 : (0 : Int32).toInt = 0 := ti_0; omega))
            replace hs := hs.trans ((if_neg c_29).trans rfl)
            refine lv_aload hx hb dX11_shift_61 (lv_at hl 1 rfl) ?_
            refine sg_get (ci := 7) (v := .int v_15) (C := RX7) (T := TX7) (N := 4) hx hb hts (fun w h => List.mem_cons_of_mem _ (gx_7 w h)) hown hK hP (40 + 2 * t_13) (by have := ht_t_13; omega) (eX_sh ca h ht_t_13 _ _ _) rfl 1 (by decide) (hts _ (List.mem_cons_of_mem _ mw_42)) (fun _ h9 => h9) (congrArg (fun z => some (Value.int z)) (show f (40 + 2 * t_13) 1 = v_15 from ev_15.symm)) dX11_shift_63 ?_
            refine lv_aload hx hb dX11_shift_66 (lv_at hl 0 rfl) ?_
            refine sg_get (ci := 7) (v := .int v_19) (C := RX7) (T := TX7) (N := 4) hx hb hts (fun w h => List.mem_cons_of_mem _ (gx_7 w h)) hown hK hP (40 + 2 * t_14) (by have := ht_t_14; omega) (eX_sh ca h ht_t_14 _ _ _) rfl 1 (by decide) (hts _ (List.mem_cons_of_mem _ mw_42)) (fun _ h9 => h9) (congrArg (fun z => some (Value.int z)) (show f (40 + 2 * t_14) 1 = v_19 from ev_19.symm)) dX11_shift_68 ?_
            refine lv_icmp_eq (tgt := 77) hx hb dX11_shift_71 (by decide) (fun c => ?_) (fun c => ?_)
            · skip
              have c_30 : v_15.toInt = v_19.toInt := (by first | exact (Int32.toInt_inj.mpr c) | (have z := Int32.toInt_inj.mpr c; omega))
              refine lv_aload hx hb dX11_shift_77 (lv_at hl 1 rfl) ?_
              refine lv_iload_n hx hb dX11_shift_79 rfl (lv_at hl 4 rfl) ?_
              refine lv_iload hx hb dX11_shift_80 (lv_at hl 7 rfl) ?_
              obtain ⟨v_32, ev_32⟩ : ∃ z : Int32, z = f (40 + 2 * t_13) 2 := ⟨_, rfl⟩
              have q_33 : 0 ≤ v_32.toInt ∧ v_32.toInt ≤ 60 := by rw [ev_32]; exact shb_2 hI ht_t_13
              have q_34 : (f (40 + 2 * t_13) 2).toInt = v_32.toInt := (congrArg Int32.toInt (show f (40 + 2 * t_13) 2 = v_32 from ev_32.symm))
              refine sg_calli (va_runV (As := [.int x1, .int x4]) (rest := []) ⟨hx, hb, hml, hown, hts⟩ (kX7_hasPlaces l D ca za h hh f L Q hI x1 x4 t_13 ht_t_13 H.size) (sl_c7_hasPlaces_0_0_0_0_11 hts ⟨Nat.le_of_ble_eq_true rfl, Nat.le_of_ble_eq_true rfl⟩) (sg_preV (ci := 7) (C := RX7) (T := TX7) (N := 4) hA hK hP hS hZ (40 + 2 * t_13) (by have := ht_t_13; omega) (eX_sh ca h ht_t_13 _ _ _) rfl) rfl rfl hl.1 rfl (lv_room (Nat.le_of_ble_eq_true rfl)) dX11_shift_82 ⟨Nat.le_refl _, Nat.le_refl _⟩) hA hS (fun r_38 f_35 L_36 Q_37 H locs hq hP hS => ?_)
              obtain ⟨⟨ef9, eL9, eQ9⟩, hq, u_39⟩ := hq
              replace hs := hs.trans ((if_pos c_30).trans (spl_e ev_32 (spl_e u_39 rfl)))
              rw [ef9, eL9, eQ9] at hP; clear ef9 eL9 eQ9
              rcases hq with ⟨rfl, hq⟩ | ⟨rfl, hq⟩
              · skip
                have hc_40 := hq
                refine lv_if_eq (tgt := 100) hx hb dX11_shift_85 (by decide) (fun c => absurd c (by decide)) (fun c => ?_)
                refine lv_aload hx hb dX11_shift_88 (lv_at hl 0 rfl) ?_
                refine lv_iload hx hb dX11_shift_90 (lv_at hl 6 rfl) ?_
                refine lv_iload hx hb dX11_shift_92 (lv_at hl 7 rfl) ?_
                obtain ⟨v_41, ev_41⟩ : ∃ z : Int32, z = f (40 + 2 * t_14) 2 := ⟨_, rfl⟩
                have q_42 : 0 ≤ v_41.toInt ∧ v_41.toInt ≤ 60 := by rw [ev_41]; exact shb_2 hI ht_t_14
                have q_43 : (f (40 + 2 * t_14) 2).toInt = v_41.toInt := (congrArg Int32.toInt (show f (40 + 2 * t_14) 2 = v_41 from ev_41.symm))
                refine sg_calli (va_runV (As := [.int x3, .int x4]) (rest := []) ⟨hx, hb, hml, hown, hts⟩ (kX7_hasPlaces l D ca za h hh f L Q hI x3 x4 t_14 ht_t_14 H.size) (sl_c7_hasPlaces_0_0_0_0_11 hts ⟨Nat.le_of_ble_eq_true rfl, Nat.le_of_ble_eq_true rfl⟩) (sg_preV (ci := 7) (C := RX7) (T := TX7) (N := 4) hA hK hP hS hZ (40 + 2 * t_14) (by have := ht_t_14; omega) (eX_sh ca h ht_t_14 _ _ _) rfl) rfl rfl hl.1 rfl (lv_room (Nat.le_of_ble_eq_true rfl)) dX11_shift_94 ⟨Nat.le_refl _, Nat.le_refl _⟩) hA hS (fun r_47 f_44 L_45 Q_46 H locs hq hP hS => ?_)
                obtain ⟨⟨ef9, eL9, eQ9⟩, hq, u_48⟩ := hq
                replace hs := hs.trans ((if_pos rfl).trans (spl_e ev_41 (spl_e u_48 rfl)))
                rw [ef9, eL9, eQ9] at hP; clear ef9 eL9 eQ9
                rcases hq with ⟨rfl, hq⟩ | ⟨rfl, hq⟩
                · skip
                  have hc_49 := hq
                  refine lv_if_ne (tgt := 103) hx hb dX11_shift_97 (by decide) (fun c => ?_) (fun c => absurd c (by decide))
                  refine lv_aload hx hb dX11_shift_103 (lv_at hl 1 rfl) ?_
                  refine sg_get (ci := 7) (v := .ref (h (41 + 2 * t_13))) (C := RX7) (T := TX7) (N := 4) hx hb hts (fun w h => List.mem_cons_of_mem _ (gx_7 w h)) hown hK hP (40 + 2 * t_13) (by have := ht_t_13; omega) (eX_sh ca h ht_t_13 _ _ _) rfl 0 (by decide) (hts _ (List.mem_cons_of_mem _ mw_115)) (fun _ h9 => h9) rfl dX11_shift_105 ?_
                  refine lv_iload_n hx hb dX11_shift_108 rfl (lv_at hl 4 rfl) ?_
                  refine lv_aload hx hb dX11_shift_109 (lv_at hl 0 rfl) ?_
                  refine sg_get (ci := 7) (v := .ref (h (41 + 2 * t_14))) (C := RX7) (T := TX7) (N := 4) hx hb hts (fun w h => List.mem_cons_of_mem _ (gx_7 w h)) hown hK hP (40 + 2 * t_14) (by have := ht_t_14; omega) (eX_sh ca h ht_t_14 _ _ _) rfl 0 (by decide) (hts _ (List.mem_cons_of_mem _ mw_115)) (fun _ h9 => h9) rfl dX11_shift_111 ?_
                  refine lv_iload hx hb dX11_shift_114 (lv_at hl 6 rfl) ?_
                  refine lv_iload hx hb dX11_shift_116 (lv_at hl 7 rfl) ?_
                  refine sg_copyl hx hb (hml.trans hl.1.symm) hown (hts _ (List.mem_cons_of_mem _ mw_211)) (hts _ (List.mem_cons_of_mem _ mw_22)) (hts _ (List.mem_cons_of_mem _ mw_23)) (hts _ (List.mem_cons_of_mem _ mw_24)) hh hA hK hP hS (41 + 2 * t_13) (41 + 2 * t_14) (by have := ht_t_13; omega) (by have := ht_t_14; omega) 1 1 (eX_el ca h ht_t_13 _ _ _) (fun _ => eX_el ca h ht_t_14 _ _ _) rfl rfl (sp := x1) (dp := x3) (nn := x4) (bn_n0 (by omega)) (bn_n0 (by omega)) (bn_n0 (by omega)) (bn_cp (by omega) (by omega) (by omega)) (bn_cp (by omega) (by omega) (by omega)) (Nat.le_of_ble_eq_true rfl) (Nat.le_of_ble_eq_true rfl) dX11_shift_118 (fun L_50 H locs eL_50 hP hS => ?_)
                  refine lv_iload hx hb dX11_shift_121 (lv_at hl 7 rfl) ?_
                  exact hret _ _ _ _ (x4) f L_50 Q dX11_shift_123 hP hS ⟨⟨rfl, trivial, rfl⟩, ⟨by omega, by omega⟩, (Eq.trans (Eq.symm (hs.trans ((if_pos rfl).trans (spl_e eL_50 rfl)))) hsp)⟩
                · skip
                  have hc_49 := hq
                  refine lv_if_ne (tgt := 103) hx hb dX11_shift_97 (by decide) (fun c => absurd c (by decide)) (fun c => ?_)
                  refine lv_bipush (v := (-13)) hx hb dX11_shift_100 bp_m13 ?_
                  have k99 : ((-13) : Int32).toInt = (-13) := ti_m13
                  exact hret _ _ _ _ (-13) f L Q dX11_shift_102 hP hS ⟨⟨rfl, trivial, rfl⟩, (by decide), (Eq.trans (Eq.symm (hs.trans ((if_neg (by decide)).trans rfl))) hsp)⟩
              · skip
                have hc_40 := hq
                refine lv_if_eq (tgt := 100) hx hb dX11_shift_85 (by decide) (fun c => ?_) (fun c => absurd c (by decide))
                refine lv_bipush (v := (-13)) hx hb dX11_shift_100 bp_m13 ?_
                have k99 : ((-13) : Int32).toInt = (-13) := ti_m13
                exact hret _ _ _ _ (-13) f L Q dX11_shift_102 hP hS ⟨⟨rfl, trivial, rfl⟩, (by decide), (Eq.trans (Eq.symm (hs.trans ((if_neg (by decide)).trans rfl))) hsp)⟩
            · skip
              have c_31 : v_15.toInt ≠ v_19.toInt := (by first | exact (bn_ne c) | (have z := bn_ne c; omega))
              refine lv_bipush (v := (-12)) hx hb dX11_shift_74 bp_m12 ?_
              have k99 : ((-12) : Int32).toInt = (-12) := ti_m12
              exact hret _ _ _ _ (-12) f L Q dX11_shift_76 hP hS ⟨⟨rfl, trivial, rfl⟩, (by decide), (Eq.trans (Eq.symm (hs.trans ((if_neg c_31).trans rfl))) hsp)⟩
        · skip
          have c_22 : v_19.toInt = (-1) := (by first | exact (cm_eq1 ti_m1 c) | (have z := Int32.toInt_inj.mpr c; have k1 : ((-1) : Int32).toInt = (-1) := ti_m1; omega))
          refine lv_bipush (v := (-11)) hx hb dX11_shift_50 bp_m11 ?_
          have k99 : ((-11) : Int32).toInt = (-11) := ti_m11
          exact hret _ _ _ _ (-11) f L Q dX11_shift_52 hP hS ⟨⟨rfl, trivial, rfl⟩, (by decide), (Eq.trans (Eq.symm (hs.trans ((if_pos c_22).trans rfl))) hsp)⟩
    · skip
      have hc_12 := hq
      refine lv_if_ne (tgt := 16) hx hb dX11_shift_11 (by decide) (fun c => absurd c (by decide)) (fun c => ?_)
      refine lv_iconst (v := (-1)) hx hb dX11_shift_14 ic_m1 ?_
      have k99 : ((-1) : Int32).toInt = (-1) := ti_m1
      exact hret _ _ _ _ (-1) f L Q dX11_shift_15 hP hS ⟨⟨rfl, trivial, rfl⟩, (by decide), (Eq.trans (Eq.symm (hs.trans ((if_neg (by decide)).trans rfl))) hsp)⟩
  · skip
    have hc_6 := hq
    refine lv_if_eq (tgt := 14) hx hb dX11_shift_4 (by decide) (fun c => ?_) (fun c => absurd c (by decide))
    refine lv_iconst (v := (-1)) hx hb dX11_shift_14 ic_m1 ?_
    have k99 : ((-1) : Int32).toInt = (-1) := ti_m1
    exact hret _ _ _ _ (-1) f L Q dX11_shift_15 hP hS ⟨⟨rfl, trivial, rfl⟩, (by decide), (Eq.trans (Eq.symm (hs.trans ((if_neg (by decide)).trans rfl))) hsp)⟩

set_option maxHeartbeats 4000000 in
set_option maxRecDepth 100000 in
theorem kX3_takenFor (l : Launch) (D : va_G) (ca : Nat → ClassId) (za h : Nat → Nat) (hh : sgH 52 h) (f : sg_F) (L : sg_L) (Q : sg_Q) (hI : sgI loX hiX f) (x0 : Int32) (x1 : Int32) (b0 : 0 ≤ x0.toInt ∧ x0.toInt ≤ 49) (b1 : 0 ≤ x1.toInt ∧ x1.toInt ≤ 7) (sz : Nat) : Met l yX3_takenFor gwX3_takenFor { frames := 0, cells := 0, slots := 0, locals := 0 } (sgP D vwCl (tyX ca) 52 h (eX ca h) zcX za f L Q sz [.ref (h 36), .int x0, .int x1]) (sgQi D vwCl 52 h (eX ca h) sz (fun r f1 L1 Q1 => ((f1 = f ∧ L1 = L ∧ Q1 = Q) ∧ ((-12) ≤ r.toInt ∧ r.toInt ≤ 7) ∧ (r) = sX3_takenFor x0 x1 f L))) 0 0 (sgA 52 h sz) := by
  refine sg_ofWi (cc := cX3_takenFor) (maxL := 5) RX3 (by decide) rfl rfl (Nat.le_of_ble_eq_true rfl) ?_
  intro p e s m below meth cd Qz ls hx hb hml hown hts hK hZ hP hS hl hret
  have hA := sgY.self (n := 52) (h := h) (sz := s.heap.size)
  have hl : lv_has ls 5 [(0, .ref (h 36)), (1, .int x0), (2, .int x1)] := hl
  obtain ⟨H, hH⟩ : ∃ z : Heap, z = s.heap := ⟨_, rfl⟩
  obtain ⟨locs, hlo⟩ : ∃ z : List Loc, z = [] := ⟨_, rfl⟩
  have hP : va_P D vwCl (sgw 52 h (eX ca h) f L Q) H := by rw [hH]; exact hP
  have hS : va_S (sgA 52 h s.heap.size) s.heap H locs := by rw [hH, hlo]; exact hS
  suffices hgo : W p l e ({ frames := 0, cells := 0, slots := 0, locals := 0 }) s m ([.ref (h 36), .int x0, .int x1] : List Value).toArray below meth cd H locs 0 0 Qz (F0 m 0 ls []) by rw [hH, hlo] at hgo; exact hgo
  clear hH hlo
  obtain ⟨sp, hsp⟩ : ∃ z : Int32, z = sX3_takenFor x0 x1 f L := ⟨_, rfl⟩
  have hs : sp = sX3_takenFor x0 x1 f L := hsp
  have loop_10 : ∀ (n_10 : Nat) (y3_10 : Int32) (y4_10 : Int32) (H : Heap) (locs : List Loc) (ls : Array Slot), sp = sX3_takenFor_l10 x0 x1 n_10 y3_10 y4_10 f L → 8 - y4_10.toInt < (n_10 : Int) → (-1) ≤ y3_10.toInt ∧ y3_10.toInt ≤ 7 → 0 ≤ y4_10.toInt ∧ y4_10.toInt ≤ 8 → va_P D vwCl (sgw 52 h (eX ca h) f L Q) H → va_S (sgA 52 h s.heap.size) s.heap H locs → lv_has ls 5 [(0, .ref (h 36)), (1, .int x0), (2, .int x1), (3, .int y3_10), (4, .int y4_10)] → W p l e ({ frames := 0, cells := 0, slots := 0, locals := 0 }) s m ([.ref (h 36), .int x0, .int x1] : List Value).toArray below meth cd H locs 0 0 Qz (F0 m 10 ls []) := by
    intro n_10
    induction n_10 with
    | zero => intro y3_10 y4_10 H locs ls hs hm_10 hy0_10 hy1_10 hP hS hl; exact absurd hm_10 (by omega)
    | succ n_10 ih_10 =>
      intro y3_10 y4_10 H locs ls hs hm_10 hy0_10 hy1_10 hP hS hl
      have hs : sp = sX3_takenFor_h10 x0 x1 (sX3_takenFor_l10 x0 x1 n_10) y3_10 y4_10 f L := hs
      refine lv_iload hx hb dX3_takenFor_10 (lv_at hl 4 rfl) ?_
      refine lv_bipush (v := 8) hx hb dX3_takenFor_12 bp_8 ?_
      refine lv_icmp_ge (tgt := 45) hx hb dX3_takenFor_14 (by decide) (fun c => ?_) (fun c => ?_)
      · skip
        have c_1 : 8 ≤ y4_10.toInt := (by first | exact (cm_le0 ti_8 c) | (have z := bn_le c; have k1 : (8 : Int32).toInt = 8 := ti_8; omega))
        refine lv_bipush (v := (-12)) hx hb dX3_takenFor_45 bp_m12 ?_
        have k99 : ((-12) : Int32).toInt = (-12) := ti_m12
        exact hret _ _ _ _ (-12) f L Q dX3_takenFor_47 hP hS ⟨⟨rfl, rfl, rfl⟩, (by decide), (Eq.trans (Eq.symm (hs.trans (((if_neg (Int.not_lt.mpr c_1)).trans rfl)))) hsp)⟩
      · skip
        have c_2 : y4_10.toInt < 8 := (by first | exact (cm_nle0 ti_8 c) | (have z := bn_nle c; have k1 : (8 : Int32).toInt = 8 := ti_8; omega))
        replace hs := hs.trans ((if_pos c_2).trans rfl)
        refine lv_iload_n hx hb dX3_takenFor_17 rfl (lv_at hl 3 rfl) ?_
        refine lv_if_lt (tgt := 45) hx hb dX3_takenFor_18 (by decide) (fun c => ?_) (fun c => ?_)
        · skip
          have c_3 : y3_10.toInt < 0 := (by first | exact (cm_lt1 ti_0 c) | (have z := bn_lt c; have k1 : (0 : Int32).toInt = 0 := ti_0; omega))
          refine lv_bipush (v := (-12)) hx hb dX3_takenFor_45 bp_m12 ?_
          have k99 : ((-12) : Int32).toInt = (-12) := ti_m12
          exact hret _ _ _ _ (-12) f L Q dX3_takenFor_47 hP hS ⟨⟨rfl, rfl, rfl⟩, (by decide), (Eq.trans (Eq.symm (hs.trans ((if_pos c_3).trans rfl))) hsp)⟩
        · skip
          have c_4 : 0 ≤ y3_10.toInt := (by first | exact (cm_nlt1 ti_0 c) | (have z := bn_nlt c; have k1 : (0 : Int32).toInt = 0 := ti_0; omega))
          replace hs := hs.trans ((if_neg (Int.not_lt.mpr c_4)).trans rfl)
          refine lv_iload_n hx hb dX3_takenFor_21 rfl (lv_at hl 3 rfl) ?_
          refine lv_iload_n hx hb dX3_takenFor_22 rfl (lv_at hl 2 rfl) ?_
          refine lv_icmp_ne (tgt := 33) hx hb dX3_takenFor_23 (by decide) (fun c => ?_) (fun c => ?_)
          · skip
            have c_5 : y3_10.toInt ≠ x1.toInt := (by first | exact (bn_ne c) | (have z := bn_ne c; omega))
            refine sg_gets hx hb hZ 2 rfl hS hown (hts _ (List.mem_cons_of_mem _ mw_174)) (fun _ h9 => h9) dX3_takenFor_33 ?_
            refine lv_iload_n hx hb dX3_takenFor_36 rfl (lv_at hl 3 rfl) ?_
            refine sg_sald hx hb hZ 2 rfl hS (y := y3_10) (N := 8) (vp_in_iff.mpr ⟨by omega, by omega⟩) dX3_takenFor_37 ?_
            refine lv_topi (fun v_7 ev_7 => ?_)
            have q_8 : -1 ≤ v_7.toInt ∧ v_7.toInt ≤ 4 := by rw [ev_7]; exact zABOVE_b (by omega) (by omega)
            refine lv_istore_n (lv' := [(3, .int v_7), (0, .ref (h 36)), (1, .int x0), (2, .int x1), (4, .int y4_10)]) hx hb dX3_takenFor_38 rfl hl (by decide) rfl (fun ls hl => ?_)
            obtain ⟨v_9, ev_9⟩ : ∃ z : Int32, z = y4_10 + 1 := ⟨_, rfl⟩
            have q_10 : v_9.toInt = y4_10.toInt + 1 := by rw [ev_9]; exact (bn_addc y4_10 1 (by decide) (by omega) (by omega))
            refine lv_iinc (v := v_9) (lv' := [(4, .int v_9), (3, .int v_7), (0, .ref (h 36)), (1, .int x0), (2, .int x1)]) hx hb dX3_takenFor_39 hl (k := 4) rfl (by rw [ev_9]; rfl) (by decide) rfl (fun ls hl => ?_)
            refine lv_goto (tgt := 10) hx hb dX3_takenFor_42 (by decide) ?_
            exact ih_10 v_7 v_9 _ _ _ (hs.trans ((if_neg c_5).trans (spl_e ev_7 (spl_e ev_9 rfl)))) (by omega) ⟨by omega, by omega⟩ ⟨by omega, by omega⟩ hP hS (lv_sub hl [2, 3, 4, 1, 0] rfl)
          · skip
            have c_6 : y3_10.toInt = x1.toInt := (by first | exact (Int32.toInt_inj.mpr c) | (have z := Int32.toInt_inj.mpr c; omega))
            refine lv_aload_n hx hb dX3_takenFor_26 rfl (lv_at hl 0 rfl) ?_
            refine sl_gX_36_0_3 hx hb hts hown hK hP dX3_takenFor_27 ?_
            refine lv_iload_n hx hb dX3_takenFor_30 rfl (lv_at hl 1 rfl) ?_
            refine sg_iald hx hb hK hP 37 (by decide) 0 rfl rfl (i := x0) (vp_in_iff.mpr ⟨by omega, by omega⟩) dX3_takenFor_31 ?_
            refine lv_topi (fun v_11 ev_11 => ?_)
            have q_12 : 0 ≤ v_11.toInt ∧ v_11.toInt ≤ 7 := by rw [ev_11]; exact hI 37 _
            exact hret _ _ _ _ (v_11) f L Q dX3_takenFor_32 hP hS ⟨⟨rfl, rfl, rfl⟩, ⟨by omega, by omega⟩, (Eq.trans (Eq.symm (hs.trans ((if_pos c_6).trans (spl_e ev_11 rfl)))) hsp)⟩
  refine lv_aload_n hx hb dX3_takenFor_0 rfl (lv_at hl 0 rfl) ?_
  refine sl_gX_36_0_3 hx hb hts hown hK hP dX3_takenFor_1 ?_
  refine lv_iload_n hx hb dX3_takenFor_4 rfl (lv_at hl 1 rfl) ?_
  refine sg_iald hx hb hK hP 37 (by decide) 0 rfl rfl (i := x0) (vp_in_iff.mpr ⟨by omega, by omega⟩) dX3_takenFor_5 ?_
  refine lv_topi (fun v_13 ev_13 => ?_)
  have q_14 : 0 ≤ v_13.toInt ∧ v_13.toInt ≤ 7 := by rw [ev_13]; exact hI 37 _
  refine lv_istore_n (lv' := [(3, .int v_13), (0, .ref (h 36)), (1, .int x0), (2, .int x1)]) hx hb dX3_takenFor_6 rfl hl (by decide) rfl (fun ls hl => ?_)
  refine lv_iconst (v := 0) hx hb dX3_takenFor_7 ic_0 ?_
  refine lv_istore (lv' := [(4, .int 0), (3, .int v_13), (0, .ref (h 36)), (1, .int x0), (2, .int x1)]) hx hb dX3_takenFor_8 hl (by decide) rfl (fun ls hl => ?_)
  exact loop_10 9 v_13 0 _ _ _ (hs.trans ((spl_e ev_13 rfl))) (by have kc1 : (0 : Int32).toInt = 0 := ti_0; omega) ⟨by omega, by omega⟩ (by decide) hP hS (lv_sub hl [2, 3, 4, 1, 0] rfl)

set_option maxHeartbeats 4000000 in
set_option maxRecDepth 100000 in
theorem kX11_taken (l : Launch) (D : va_G) (ca : Nat → ClassId) (za h : Nat → Nat) (hh : sgH 52 h) (f : sg_F) (L : sg_L) (Q : sg_Q) (hI : sgI loX hiX f) (hJ : JX f) (x0 : Int32) (x1 : Int32) (sz : Nat) : Met l yX11_taken gwX11_taken { frames := 1, cells := 0, slots := 0, locals := 24 } (sgP D vwCl (tyX ca) 52 h (eX ca h) zcX za f L Q sz [.ref (h 0), .int x0, .int x1]) (sgQi D vwCl 52 h (eX ca h) sz (fun r f1 L1 Q1 => ((f1 = f ∧ L1 = L ∧ Q1 = Q) ∧ ((-12) ≤ r.toInt ∧ r.toInt ≤ 7) ∧ (r) = sX11_taken x0 x1 f L))) 0 0 (sgA 52 h sz) := by
  refine sg_ofWi (cc := cX11_taken) (maxL := 4) RX11 (by decide) rfl rfl (Nat.le_of_ble_eq_true rfl) ?_
  intro p e s m below meth cd Qz ls hx hb hml hown hts hK hZ hP hS hl hret
  have hA := sgY.self (n := 52) (h := h) (sz := s.heap.size)
  have hl : lv_has ls 4 [(0, .ref (h 0)), (1, .int x0), (2, .int x1)] := hl
  obtain ⟨H, hH⟩ : ∃ z : Heap, z = s.heap := ⟨_, rfl⟩
  obtain ⟨locs, hlo⟩ : ∃ z : List Loc, z = [] := ⟨_, rfl⟩
  have hP : va_P D vwCl (sgw 52 h (eX ca h) f L Q) H := by rw [hH]; exact hP
  have hS : va_S (sgA 52 h s.heap.size) s.heap H locs := by rw [hH, hlo]; exact hS
  suffices hgo : W p l e ({ frames := 1, cells := 0, slots := 0, locals := 24 }) s m ([.ref (h 0), .int x0, .int x1] : List Value).toArray below meth cd H locs 0 0 Qz (F0 m 0 ls []) by rw [hH, hlo] at hgo; exact hgo
  clear hH hlo
  obtain ⟨sp, hsp⟩ : ∃ z : Int32, z = sX11_taken x0 x1 f L := ⟨_, rfl⟩
  have hs : sp = sX11_taken x0 x1 f L := hsp
  refine lv_iload_n hx hb dX11_taken_0 rfl (lv_at hl 1 rfl) ?_
  refine sg_calli (va_runS (As := [.int x0]) (rest := []) ⟨hx, hb, hml, hown, hts⟩ (kX11_isShelf l D ca za h hh f L Q hI x0 H.size) (va_cwS 1 hts (gw_S (fun _ h => List.mem_cons_of_mem _ h) mw_35 mw_36 mw_37 mw_34) rfl rfl rfl hd_yX11_isShelf.2 ⟨Nat.le_of_ble_eq_true rfl, Nat.le_of_ble_eq_true rfl⟩) (sg_preS hA hK hP hS hZ) rfl rfl hl.1 rfl (lv_room (Nat.le_of_ble_eq_true rfl)) dX11_taken_1 ⟨Nat.le_refl _, Nat.le_refl _⟩) hA hS (fun r_4 f_1 L_2 Q_3 H locs hq hP hS => ?_)
  obtain ⟨⟨ef9, eL9, eQ9⟩, hq, u_5⟩ := hq
  replace hs := hs.trans (spl_e u_5 rfl)
  rw [ef9, eL9, eQ9] at hP; clear ef9 eL9 eQ9
  rcases hq with ⟨rfl, hq⟩ | ⟨rfl, hq⟩
  · skip
    have hc_6 := hq
    refine lv_if_eq (tgt := 14) hx hb dX11_taken_4 (by decide) (fun c => absurd c (by decide)) (fun c => ?_)
    refine lv_iload_n hx hb dX11_taken_7 rfl (lv_at hl 2 rfl) ?_
    refine sg_calli (va_runS (As := [.int x1]) (rest := []) ⟨hx, hb, hml, hown, hts⟩ (kX11_isKind l D ca za h hh f L Q hI x1 H.size) (va_cwS 1 hts (gw_S (fun _ h => List.mem_cons_of_mem _ h) mw_39 mw_40 mw_37 mw_38) rfl rfl rfl hd_yX11_isKind.2 ⟨Nat.le_of_ble_eq_true rfl, Nat.le_of_ble_eq_true rfl⟩) (sg_preS hA hK hP hS hZ) rfl rfl hl.1 rfl (lv_room (Nat.le_of_ble_eq_true rfl)) dX11_taken_8 ⟨Nat.le_refl _, Nat.le_refl _⟩) hA hS (fun r_10 f_7 L_8 Q_9 H locs hq hP hS => ?_)
    obtain ⟨⟨ef9, eL9, eQ9⟩, hq, u_11⟩ := hq
    replace hs := hs.trans ((if_pos rfl).trans (spl_e u_11 rfl))
    rw [ef9, eL9, eQ9] at hP; clear ef9 eL9 eQ9
    rcases hq with ⟨rfl, hq⟩ | ⟨rfl, hq⟩
    · skip
      have hc_12 := hq
      refine lv_if_ne (tgt := 16) hx hb dX11_taken_11 (by decide) (fun c => ?_) (fun c => absurd c (by decide))
      refine lv_aload_n hx hb dX11_taken_16 rfl (lv_at hl 0 rfl) ?_
      refine sl_gX_0_9_11 hx hb hts hown hK hP dX11_taken_17 ?_
      refine lv_iload_n hx hb dX11_taken_20 rfl (lv_at hl 1 rfl) ?_
      obtain ⟨t_13, et_13⟩ : ∃ z : Nat, z = x0.toNatClampNeg := ⟨_, rfl⟩
      have ht_t_13 : t_13 < 6 := by rw [et_13]; exact bn_kI (by omega) (by omega)
      refine sg_aald hx hb hK hP 39 (by decide) 3 rfl rfl (i := x0) (a := (h (40 + 2 * t_13))) (vp_in_iff.mpr ⟨by omega, by omega⟩) (show (if x0.toNatClampNeg < 6 then some (h (40 + 2 * x0.toNatClampNeg)) else none) = some (h (40 + 2 * t_13)) from by rw [← et_13, if_pos ht_t_13]) dX11_taken_21 ?_
      refine lv_astore_n (lv' := [(3, .ref (h (40 + 2 * t_13))), (0, .ref (h 0)), (1, .int x0), (2, .int x1)]) hx hb dX11_taken_22 rfl hl (by decide) rfl (fun ls hl => ?_)
      refine lv_aload_n hx hb dX11_taken_23 rfl (lv_at hl 0 rfl) ?_
      refine sg_get (ci := 7) (v := .int (f (40 + 2 * t_13) 1)) (C := RX7) (T := TX7) (N := 4) hx hb hts (fun w h => List.mem_cons_of_mem _ (gx_7 w h)) hown hK hP (40 + 2 * t_13) (by have := ht_t_13; omega) (eX_sh ca h ht_t_13 _ _ _) rfl 1 (by decide) (hts _ (List.mem_cons_of_mem _ mw_42)) (fun _ h9 => h9) rfl dX11_taken_24 ?_
      refine lv_topi (fun v_14 ev_14 => ?_)
      replace hs := hs.trans ((if_pos rfl).trans (spl_e et_13 (spl_e ev_14 rfl)))
      have q_15 : (-2) ≤ v_14.toInt ∧ v_14.toInt ≤ 4 := by rw [ev_14]; exact shb_1 hI ht_t_13
      refine lv_iconst (v := (-1)) hx hb dX11_taken_27 ic_m1 ?_
      refine lv_icmp_ne (tgt := 34) hx hb dX11_taken_28 (by decide) (fun c => ?_) (fun c => ?_)
      · skip
        have c_16 : v_14.toInt ≠ (-1) := (by first | exact (cm_ne1 ti_m1 c) | (have z := bn_ne c; have k1 : ((-1) : Int32).toInt = (-1) := ti_m1; omega))
        replace hs := hs.trans ((if_neg c_16).trans rfl)
        refine lv_aload_n hx hb dX11_taken_34 rfl (lv_at hl 0 rfl) ?_
        refine sg_get (ci := 7) (v := .int v_14) (C := RX7) (T := TX7) (N := 4) hx hb hts (fun w h => List.mem_cons_of_mem _ (gx_7 w h)) hown hK hP (40 + 2 * t_13) (by have := ht_t_13; omega) (eX_sh ca h ht_t_13 _ _ _) rfl 1 (by decide) (hts _ (List.mem_cons_of_mem _ mw_42)) (fun _ h9 => h9) (congrArg (fun z => some (Value.int z)) (show f (40 + 2 * t_13) 1 = v_14 from ev_14.symm)) dX11_taken_35 ?_
        refine lv_bipush (v := (-2)) hx hb dX11_taken_38 bp_m2 ?_
        refine lv_icmp_ne (tgt := 58) hx hb dX11_taken_40 (by decide) (fun c => ?_) (fun c => ?_)
        · skip
          have c_18 : v_14.toInt ≠ (-2) := (by first | exact (cm_ne1 ti_m2 c) | (have z := bn_ne c; have k1 : ((-2) : Int32).toInt = (-2) := ti_m2; omega))
          refine lv_bipush (v := (-12)) hx hb dX11_taken_58 bp_m12 ?_
          have k99 : ((-12) : Int32).toInt = (-12) := ti_m12
          exact hret _ _ _ _ (-12) f L Q dX11_taken_60 hP hS ⟨⟨rfl, rfl, rfl⟩, (by decide), (Eq.trans (Eq.symm (hs.trans ((if_neg c_18).trans rfl))) hsp)⟩
        · skip
          have c_19 : v_14.toInt = (-2) := (by first | exact (cm_eq1 ti_m2 c) | (have z := Int32.toInt_inj.mpr c; have k1 : ((-2) : Int32).toInt = (-2) := ti_m2; omega))
          refine lv_aload_n hx hb dX11_taken_43 rfl (lv_at hl 1 rfl) ?_
          refine sl_gX_0_8_11 hx hb hts hown hK hP dX11_taken_44 ?_
          refine lv_aload_n hx hb dX11_taken_47 rfl (lv_at hl 0 rfl) ?_
          refine sg_get (ci := 7) (v := .int (f (40 + 2 * t_13) 3)) (C := RX7) (T := TX7) (N := 4) hx hb hts (fun w h => List.mem_cons_of_mem _ (gx_7 w h)) hown hK hP (40 + 2 * t_13) (by have := ht_t_13; omega) (eX_sh ca h ht_t_13 _ _ _) rfl 3 (by decide) (hts _ (List.mem_cons_of_mem _ mw_210)) (fun _ h9 => h9) rfl dX11_taken_48 ?_
          refine lv_topi (fun v_20 ev_20 => ?_)
          have q_21 : (-1) ≤ v_20.toInt ∧ v_20.toInt ≤ 49 := by rw [ev_20]; exact shb_3 hI ht_t_13
          refine lv_iload_n hx hb dX11_taken_51 rfl (lv_at hl 3 rfl) ?_
          have z_22 : (f (40 + 2 * t_13) 1).toInt = v_14.toInt := congrArg Int32.toInt (show f (40 + 2 * t_13) 1 = v_14 from ev_14.symm)
          have z_23 : (f (40 + 2 * t_13) 3).toInt = v_20.toInt := congrArg Int32.toInt (show f (40 + 2 * t_13) 3 = v_20 from ev_20.symm)
          have zJ := hJ.2 t_13 ht_t_13
          refine sg_calli (va_runV (As := [.int v_20, .int x1]) (rest := []) ⟨hx, hb, hml, hown, hts⟩ (kX3_takenFor l D ca za h hh f L Q hI v_20 x1 ⟨by omega, by omega⟩ ⟨by omega, by omega⟩ H.size) (sl_c3_takenFor_0_0_0_0_11 hts ⟨Nat.le_of_ble_eq_true rfl, Nat.le_of_ble_eq_true rfl⟩) (sl_vX_36 hA hK hP hS hZ) rfl rfl hl.1 rfl (lv_room (Nat.le_of_ble_eq_true rfl)) dX11_taken_52 ⟨Nat.le_refl _, Nat.le_refl _⟩) hA hS (fun r_27 f_24 L_25 Q_26 H locs hq hP hS => ?_)
          obtain ⟨⟨ef9, eL9, eQ9⟩, hq, u_28⟩ := hq
          rw [ef9, eL9, eQ9] at hP; clear ef9 eL9 eQ9
          refine lv_goto (tgt := 60) hx hb dX11_taken_55 (by decide) ?_
          exact hret _ _ _ _ (r_27) f L Q dX11_taken_60 hP hS ⟨⟨rfl, rfl, rfl⟩, ⟨by omega, by omega⟩, (Eq.trans (Eq.symm (hs.trans ((if_pos c_19).trans (spl_e ev_20 (spl_e u_28 rfl))))) hsp)⟩
      · skip
        have c_17 : v_14.toInt = (-1) := (by first | exact (cm_eq1 ti_m1 c) | (have z := Int32.toInt_inj.mpr c; have k1 : ((-1) : Int32).toInt = (-1) := ti_m1; omega))
        refine lv_bipush (v := (-11)) hx hb dX11_taken_31 bp_m11 ?_
        have k99 : ((-11) : Int32).toInt = (-11) := ti_m11
        exact hret _ _ _ _ (-11) f L Q dX11_taken_33 hP hS ⟨⟨rfl, rfl, rfl⟩, (by decide), (Eq.trans (Eq.symm (hs.trans ((if_pos c_17).trans rfl))) hsp)⟩
    · skip
      have hc_12 := hq
      refine lv_if_ne (tgt := 16) hx hb dX11_taken_11 (by decide) (fun c => absurd c (by decide)) (fun c => ?_)
      refine lv_iconst (v := (-1)) hx hb dX11_taken_14 ic_m1 ?_
      have k99 : ((-1) : Int32).toInt = (-1) := ti_m1
      exact hret _ _ _ _ (-1) f L Q dX11_taken_15 hP hS ⟨⟨rfl, rfl, rfl⟩, (by decide), (Eq.trans (Eq.symm (hs.trans ((if_neg (by decide)).trans rfl))) hsp)⟩
  · skip
    have hc_6 := hq
    refine lv_if_eq (tgt := 14) hx hb dX11_taken_4 (by decide) (fun c => ?_) (fun c => absurd c (by decide))
    refine lv_iconst (v := (-1)) hx hb dX11_taken_14 ic_m1 ?_
    have k99 : ((-1) : Int32).toInt = (-1) := ti_m1
    exact hret _ _ _ _ (-1) f L Q dX11_taken_15 hP hS ⟨⟨rfl, rfl, rfl⟩, (by decide), (Eq.trans (Eq.symm (hs.trans ((if_neg (by decide)).trans rfl))) hsp)⟩

set_option maxHeartbeats 4000000 in
set_option maxRecDepth 100000 in
theorem kX11_count (l : Launch) (D : va_G) (ca : Nat → ClassId) (za h : Nat → Nat) (hh : sgH 52 h) (f : sg_F) (L : sg_L) (Q : sg_Q) (hI : sgI loX hiX f) (x0 : Int32) (sz : Nat) : Met l yX11_count gwX11_count { frames := 0, cells := 0, slots := 0, locals := 0 } (sgP D vwCl (tyX ca) 52 h (eX ca h) zcX za f L Q sz [.ref (h 0), .int x0]) (sgQi D vwCl 52 h (eX ca h) sz (fun r f1 L1 Q1 => ((f1 = f ∧ L1 = L ∧ Q1 = Q) ∧ ((-1) ≤ r.toInt ∧ r.toInt ≤ 120) ∧ (r) = sX11_count x0 f L))) 0 0 (sgA 52 h sz) := by
  refine sg_ofWi (cc := cX11_count) (maxL := 2) RX11 (by decide) rfl rfl (Nat.le_of_ble_eq_true rfl) ?_
  intro p e s m below meth cd Qz ls hx hb hml hown hts hK hZ hP hS hl hret
  have hA := sgY.self (n := 52) (h := h) (sz := s.heap.size)
  have hl : lv_has ls 2 [(0, .ref (h 0)), (1, .int x0)] := hl
  obtain ⟨H, hH⟩ : ∃ z : Heap, z = s.heap := ⟨_, rfl⟩
  obtain ⟨locs, hlo⟩ : ∃ z : List Loc, z = [] := ⟨_, rfl⟩
  have hP : va_P D vwCl (sgw 52 h (eX ca h) f L Q) H := by rw [hH]; exact hP
  have hS : va_S (sgA 52 h s.heap.size) s.heap H locs := by rw [hH, hlo]; exact hS
  suffices hgo : W p l e ({ frames := 0, cells := 0, slots := 0, locals := 0 }) s m ([.ref (h 0), .int x0] : List Value).toArray below meth cd H locs 0 0 Qz (F0 m 0 ls []) by rw [hH, hlo] at hgo; exact hgo
  clear hH hlo
  obtain ⟨sp, hsp⟩ : ∃ z : Int32, z = sX11_count x0 f L := ⟨_, rfl⟩
  have hs : sp = sX11_count x0 f L := hsp
  refine lv_iload_n hx hb dX11_count_0 rfl (lv_at hl 1 rfl) ?_
  rcases (show (x0.toInt ≠ 0 ∧ x0.toInt ≠ 1 ∧ x0.toInt ≠ 2 ∧ x0.toInt ≠ 3 ∧ x0.toInt ≠ 4) ∨ x0.toInt = 0 ∨ x0.toInt = 1 ∨ x0.toInt = 2 ∨ x0.toInt = 3 ∨ x0.toInt = 4 from by omega) with c | c | c | c | c | c
  · skip
    have cs_1 := c
    refine lv_tableOut (x := x0) (tgt := 79) hx hb dX11_count_1 (by omega) (by decide) ?_
    refine lv_iconst (v := (-1)) hx hb dX11_count_79 ic_m1 ?_
    have k99 : ((-1) : Int32).toInt = (-1) := ti_m1
    exact hret _ _ _ _ (-1) f L Q dX11_count_80 hP hS ⟨⟨rfl, rfl, rfl⟩, (by decide), (Eq.trans (Eq.symm (hs.trans (((if_neg cs_1.1).trans ((if_neg cs_1.2.1).trans ((if_neg cs_1.2.2.1).trans ((if_neg cs_1.2.2.2.1).trans ((if_neg cs_1.2.2.2.2).trans rfl)))))))) hsp)⟩
  · skip
    have cs_1 := c
    have c_2 := c
    refine lv_tableIn (x := x0) (tgt := 36) hx hb dX11_count_1 (by omega) (by omega) (by rw [c]; rfl) (by decide) ?_
    refine lv_aload_n hx hb dX11_count_36 rfl (lv_at hl 0 rfl) ?_
    refine sl_gX_0_0_11 hx hb hts hown hK hP dX11_count_37 ?_
    refine sl_gX_1_3_11 (v := (f 1 3)) hx hb hts hown hK hP rfl dX11_count_40 ?_
    refine lv_topi (fun v_3 ev_3 => ?_)
    have q_4 : 0 ≤ v_3.toInt ∧ v_3.toInt ≤ 8 := by rw [ev_3]; exact hI 1 3
    exact hret _ _ _ _ (v_3) f L Q dX11_count_43 hP hS ⟨⟨rfl, rfl, rfl⟩, ⟨by omega, by omega⟩, (Eq.trans (Eq.symm (hs.trans (((if_pos cs_1).trans (spl_e ev_3 rfl))))) hsp)⟩
  · skip
    have cs_1 := c
    have c_5 := c
    refine lv_tableIn (x := x0) (tgt := 44) hx hb dX11_count_1 (by omega) (by omega) (by rw [c]; rfl) (by decide) ?_
    refine lv_aload_n hx hb dX11_count_44 rfl (lv_at hl 0 rfl) ?_
    refine sl_gX_0_0_11 hx hb hts hown hK hP dX11_count_45 ?_
    refine sl_gX_1_2_11 hx hb hts hown hK hP dX11_count_48 ?_
    refine sl_gX_4_1_11 (v := (f 4 1)) hx hb hts hown hK hP rfl dX11_count_51 ?_
    refine lv_topi (fun v_6 ev_6 => ?_)
    have q_7 : 0 ≤ v_6.toInt ∧ v_6.toInt ≤ 120 := by rw [ev_6]; exact hI 4 1
    exact hret _ _ _ _ (v_6) f L Q dX11_count_54 hP hS ⟨⟨rfl, rfl, rfl⟩, ⟨by omega, by omega⟩, (Eq.trans (Eq.symm (hs.trans (((if_neg (fun z => absurd (z.symm.trans cs_1) (by decide))).trans ((if_pos cs_1).trans (spl_e ev_6 rfl)))))) hsp)⟩
  · skip
    have cs_1 := c
    have c_8 := c
    refine lv_tableIn (x := x0) (tgt := 55) hx hb dX11_count_1 (by omega) (by omega) (by rw [c]; rfl) (by decide) ?_
    refine lv_aload_n hx hb dX11_count_55 rfl (lv_at hl 0 rfl) ?_
    refine sl_gX_0_7_11 hx hb hts hown hK hP dX11_count_56 ?_
    refine sl_gX_32_3_11 (v := (f 32 3)) hx hb hts hown hK hP rfl dX11_count_59 ?_
    refine lv_topi (fun v_9 ev_9 => ?_)
    have q_10 : 0 ≤ v_9.toInt ∧ v_9.toInt ≤ 40 := by rw [ev_9]; exact hI 32 3
    exact hret _ _ _ _ (v_9) f L Q dX11_count_62 hP hS ⟨⟨rfl, rfl, rfl⟩, ⟨by omega, by omega⟩, (Eq.trans (Eq.symm (hs.trans (((if_neg (fun z => absurd (z.symm.trans cs_1) (by decide))).trans ((if_neg (fun z => absurd (z.symm.trans cs_1) (by decide))).trans ((if_pos cs_1).trans (spl_e ev_9 rfl))))))) hsp)⟩
  · skip
    have cs_1 := c
    have c_11 := c
    refine lv_tableIn (x := x0) (tgt := 63) hx hb dX11_count_1 (by omega) (by omega) (by rw [c]; rfl) (by decide) ?_
    refine lv_aload_n hx hb dX11_count_63 rfl (lv_at hl 0 rfl) ?_
    refine sl_gX_0_8_11 hx hb hts hown hK hP dX11_count_64 ?_
    refine sl_gX_36_2_11 (v := (f 36 2)) hx hb hts hown hK hP rfl dX11_count_67 ?_
    refine lv_topi (fun v_12 ev_12 => ?_)
    have q_13 : 0 ≤ v_12.toInt ∧ v_12.toInt ≤ 50 := by rw [ev_12]; exact hI 36 2
    exact hret _ _ _ _ (v_12) f L Q dX11_count_70 hP hS ⟨⟨rfl, rfl, rfl⟩, ⟨by omega, by omega⟩, (Eq.trans (Eq.symm (hs.trans (((if_neg (fun z => absurd (z.symm.trans cs_1) (by decide))).trans ((if_neg (fun z => absurd (z.symm.trans cs_1) (by decide))).trans ((if_neg (fun z => absurd (z.symm.trans cs_1) (by decide))).trans ((if_pos cs_1).trans (spl_e ev_12 rfl)))))))) hsp)⟩
  · skip
    have cs_1 := c
    have c_14 := c
    refine lv_tableIn (x := x0) (tgt := 71) hx hb dX11_count_1 (by omega) (by omega) (by rw [c]; rfl) (by decide) ?_
    refine lv_aload_n hx hb dX11_count_71 rfl (lv_at hl 0 rfl) ?_
    refine sl_gX_0_8_11 hx hb hts hown hK hP dX11_count_72 ?_
    refine sl_gX_36_3_11 (v := (f 36 3)) hx hb hts hown hK hP rfl dX11_count_75 ?_
    refine lv_topi (fun v_15 ev_15 => ?_)
    have q_16 : 0 ≤ v_15.toInt ∧ v_15.toInt ≤ 19 := by rw [ev_15]; exact hI 36 3
    exact hret _ _ _ _ (v_15) f L Q dX11_count_78 hP hS ⟨⟨rfl, rfl, rfl⟩, ⟨by omega, by omega⟩, (Eq.trans (Eq.symm (hs.trans (((if_neg (fun z => absurd (z.symm.trans cs_1) (by decide))).trans ((if_neg (fun z => absurd (z.symm.trans cs_1) (by decide))).trans ((if_neg (fun z => absurd (z.symm.trans cs_1) (by decide))).trans ((if_neg (fun z => absurd (z.symm.trans cs_1) (by decide))).trans ((if_pos cs_1).trans (spl_e ev_15 rfl))))))))) hsp)⟩
