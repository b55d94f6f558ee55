/-! contracts of any state. Laid by a program (wip/tool) -/
abbrev WkX12_undo : List (Nat × Nat × Option Nat) := [(0, 0, some 5), (1, 1, none)]
set_option maxHeartbeats 4000000 in
set_option maxRecDepth 100000 in
theorem kX12_undo (l : Launch) (D : va_G) (ca : Nat → ClassId) (za h : Nat → Nat) (hh : sgH 26 h) (f : sg_F) (L : sg_L) (Q : sg_Q) (hI : sgI loM hiM f) (hJ : JM f) (sz : Nat) : Met l yX12_undo gwX12_undo { frames := 0, cells := 0, slots := 0, locals := 0 } (sgP D vwCl (tyX ca) 26 h (eM ca h) zcM za f L Q sz [.ref (h 0)]) (sgQi D vwCl 26 h (eM ca h) sz (fun r f1 L1 Q1 => ((sgI loM hiM f1 ∧ sgK WkX12_undo f f1 ∧ L1 = L ∧ Q1 = Q ∧ JM f1) ∧ ((-5) ≤ r.toInt ∧ r.toInt ≤ 39)))) 0 0 (sgA 26 h sz) := by
  refine sg_ofWi (cc := cX12_undo) (maxL := 1) RX12 (by decide) rfl rfl (Nat.le_of_ble_eq_true rfl) ?_
  intro p e s m below meth cd Qz ls hx hb hml hown hts hK hZ hP hS hl hret
  have hA := sgY.self (n := 26) (h := h) (sz := s.heap.size)
  have hl : lv_has ls 1 [(0, .ref (h 0))] := hl
  obtain ⟨H, hH⟩ : ∃ z : Heap, z = s.heap := ⟨_, rfl⟩
  obtain ⟨locs, hlo⟩ : ∃ z : List Loc, z = [] := ⟨_, rfl⟩
  have hP : va_P D vwCl (sgw 26 h (eM ca h) f L Q) H := by rw [hH]; exact hP
  have hS : va_S (sgA 26 h s.heap.size) s.heap H locs := by rw [hH, hlo]; exact hS
  suffices hgo : W p l e ({ frames := 0, cells := 0, slots := 0, locals := 0 }) s m ([.ref (h 0)] : List Value).toArray below meth cd H locs 0 0 Qz (F0 m 0 ls []) by rw [hH, hlo] at hgo; exact hgo
  clear hH hlo
  have hF : sgK WkX12_undo f f := sgK.rf
  refine lv_aload_n hx hb dX12_undo_0 rfl (lv_at hl 0 rfl) ?_
  refine sg_get (ci := 12) (v := .int (f 0 5)) (C := RX12) (T := TX12) (N := 55) hx hb hts (fun w h => List.mem_cons_of_mem _ (gx_12 w h)) hown hK hP 0 (by decide) rfl rfl 5 (by decide) (hts _ (List.mem_cons_of_mem _ mw_599)) (fun _ h9 => h9) rfl dX12_undo_1 ?_
  refine lv_topi (fun v_1 ev_1 => ?_)
  have q_2 : 0 ≤ v_1.toInt ∧ v_1.toInt ≤ 40 := by rw [ev_1]; exact hI 0 5
  refine lv_if_ne (tgt := 10) hx hb dX12_undo_4 (by decide) (fun c => ?_) (fun c => ?_)
  · skip
    have c_3 : v_1.toInt ≠ 0 := (by have z := bn_ne c; have k1 : (0 : Int32).toInt = 0 := (by decide); omega)
    refine lv_aload_n hx hb dX12_undo_10 rfl (lv_at hl 0 rfl) ?_
    refine lv_dup hx hb dX12_undo_11 rfl ?_
    refine sg_get (ci := 12) (v := .int v_1) (C := RX12) (T := TX12) (N := 55) hx hb hts (fun w h => List.mem_cons_of_mem _ (gx_12 w h)) hown hK hP 0 (by decide) rfl rfl 5 (by decide) (hts _ (List.mem_cons_of_mem _ mw_599)) (fun _ h9 => h9) (congrArg (fun z => some (Value.int z)) (show f 0 5 = v_1 from ev_1.symm)) dX12_undo_12 ?_
    refine lv_iconst (v := 1) hx hb dX12_undo_15 (by decide) ?_
    refine lv_isub hx hb dX12_undo_16 ?_
    refine lv_topi (fun v_5 ev_5 => ?_)
    have q_6 : v_5.toInt = v_1.toInt - 1 := by rw [ev_5]; have k1 : (1 : Int32).toInt = 1 := (by decide); exact (bn_subI (by omega) (by omega)).trans (by omega)
    obtain ⟨v_8, ev_8⟩ : ∃ z : Int32, z = f 0 4 := ⟨_, rfl⟩
    have q_9 : 0 ≤ v_8.toInt ∧ v_8.toInt ≤ 40 := by rw [ev_8]; exact hI 0 4
    have z_7 : (f 0 5).toInt = v_1.toInt := (congrArg Int32.toInt (show f 0 5 = v_1 from ev_1.symm))
    have z_10 : (f 0 4).toInt = v_8.toInt := (congrArg Int32.toInt (show f 0 4 = v_8 from ev_8.symm))
    have zJ2 := hJ.2
    refine sg_put (ci := 12) (x := v_5) (ty := .int) (C := RX12) (T := TX12) (N := 55) hx hb hts (fun w h => List.mem_cons_of_mem _ (gx_12 w h)) tyX12 tyX12_ok nmX12 hown hh hA hK hP hS 0 (by decide) rfl rfl 5 (by decide) (hts _ (List.mem_cons_of_mem _ mw_599)) (fun _ h9 => h9) rfl rfl (by decide +kernel) rfl rfl (Nat.le_of_ble_eq_true rfl) dX12_undo_17 (fun f_11 H locs ef_11 hP hS => ?_)
    have hI : sgI loM hiM f_11 := by rw [ef_11]; exact sgI.put hI 0 5 (show 0 ≤ (v_5 : Int32).toInt ∧ (v_5 : Int32).toInt ≤ 40 from by omega)
    have hJ : JM f_11 := JM.dn hJ ef_11 (by omega)
    have hF : sgK WkX12_undo f f_11 := sgK.put hF ef_11 (by rfl)
    refine lv_aload_n hx hb dX12_undo_20 rfl (lv_at hl 0 rfl) ?_
    refine sg_get (ci := 12) (v := .ref (h 1)) (C := RX12) (T := TX12) (N := 55) hx hb hts (fun w h => List.mem_cons_of_mem _ (gx_12 w h)) hown hK hP 0 (by decide) rfl rfl 0 (by decide) (hts _ (List.mem_cons_of_mem _ mw_600)) (fun _ h9 => h9) rfl dX12_undo_21 ?_
    refine lv_aload_n hx hb dX12_undo_24 rfl (lv_at hl 0 rfl) ?_
    refine sg_get (ci := 12) (v := .ref (h 2)) (C := RX12) (T := TX12) (N := 55) hx hb hts (fun w h => List.mem_cons_of_mem _ (gx_12 w h)) hown hK hP 0 (by decide) rfl rfl 1 (by decide) (hts _ (List.mem_cons_of_mem _ mw_601)) (fun _ h9 => h9) rfl dX12_undo_25 ?_
    refine lv_aload_n hx hb dX12_undo_28 rfl (lv_at hl 0 rfl) ?_
    refine sg_get (ci := 12) (v := .int v_5) (C := RX12) (T := TX12) (N := 55) hx hb hts (fun w h => List.mem_cons_of_mem _ (gx_12 w h)) hown hK hP 0 (by decide) rfl rfl 5 (by decide) (hts _ (List.mem_cons_of_mem _ mw_599)) (fun _ h9 => h9) (congrArg (fun z => some (Value.int z)) (show f_11 0 5 = v_5 from (by rw [ef_11, sg_up_s, sgu_s]))) dX12_undo_29 ?_
    refine sg_iald hx hb hK hP 2 (by decide) 0 rfl rfl (i := v_5) (vp_in_iff.mpr ⟨by omega, by omega⟩) dX12_undo_32 ?_
    refine lv_topi (fun v_12 ev_12 => ?_)
    have q_13 : 0 ≤ v_12.toInt ∧ v_12.toInt ≤ 70 := by rw [ev_12]; exact hI 2 _
    have q_14 : (f_11 2 (Int32.toNatClampNeg v_5)).toInt = v_12.toInt := by rw [ev_12]
    refine lv_aload_n hx hb dX12_undo_33 rfl (lv_at hl 0 rfl) ?_
    refine sg_get (ci := 12) (v := .ref (h 3)) (C := RX12) (T := TX12) (N := 55) hx hb hts (fun w h => List.mem_cons_of_mem _ (gx_12 w h)) hown hK hP 0 (by decide) rfl rfl 2 (by decide) (hts _ (List.mem_cons_of_mem _ mw_602)) (fun _ h9 => h9) rfl dX12_undo_34 ?_
    refine lv_aload_n hx hb dX12_undo_37 rfl (lv_at hl 0 rfl) ?_
    refine sg_get (ci := 12) (v := .int v_5) (C := RX12) (T := TX12) (N := 55) hx hb hts (fun w h => List.mem_cons_of_mem _ (gx_12 w h)) hown hK hP 0 (by decide) rfl rfl 5 (by decide) (hts _ (List.mem_cons_of_mem _ mw_599)) (fun _ h9 => h9) (congrArg (fun z => some (Value.int z)) (show f_11 0 5 = v_5 from (by rw [ef_11, sg_up_s, sgu_s]))) dX12_undo_38 ?_
    refine sg_iald hx hb hK hP 3 (by decide) 0 rfl rfl (i := v_5) (vp_in_iff.mpr ⟨by omega, by omega⟩) dX12_undo_41 ?_
    refine lv_topi (fun v_15 ev_15 => ?_)
    have q_16 : 0 ≤ v_15.toInt ∧ v_15.toInt ≤ 99 := by rw [ev_15]; exact hI 3 _
    have q_17 : (f_11 3 (Int32.toNatClampNeg v_5)).toInt = v_15.toInt := by rw [ev_15]
    have zJ := hJ.1 (Int32.toNatClampNeg v_5)
    refine sg_iast hx hb hh hA hK hP hS 1 (by decide) 0 (fun _ => rfl) rfl (i := v_12) (x := v_15) (vp_in_iff.mpr ⟨by omega, by omega⟩) dX12_undo_42 (fun f_18 H locs ef_18 hP hS => ?_)
    have hI : sgI loM hiM f_18 := by rw [ef_18]; exact sgI.put hI 1 v_12.toNatClampNeg (segM1_w v_15 (by have z := bn_clI (x := v_12) (by omega); omega))
    have hJ : JM f_18 := JM.put hJ ef_18 (by decide)
    have hF : sgK WkX12_undo f f_18 := sgK.put hF ef_18 (by rfl)
    refine lv_aload_n hx hb dX12_undo_43 rfl (lv_at hl 0 rfl) ?_
    refine sg_get (ci := 12) (v := .int v_5) (C := RX12) (T := TX12) (N := 55) hx hb hts (fun w h => List.mem_cons_of_mem _ (gx_12 w h)) hown hK hP 0 (by decide) rfl rfl 5 (by decide) (hts _ (List.mem_cons_of_mem _ mw_599)) (fun _ h9 => h9) (congrArg (fun z => some (Value.int z)) (show f_18 0 5 = v_5 from (by rw [ef_18, sg_up_n (by decide)]; exact (by rw [ef_11, sg_up_s, sgu_s])))) dX12_undo_44 ?_
    exact hret _ _ _ _ (v_5) f_18 L Q dX12_undo_47 hP hS ⟨⟨hI, hF, rfl, rfl, hJ⟩, (by omega)⟩
  · skip
    have c_4 : v_1.toInt = 0 := (by have z := Int32.toInt_inj.mpr c; have k1 : (0 : Int32).toInt = 0 := (by decide); omega)
    refine lv_bipush (v := (-5)) hx hb dX12_undo_7 (by decide) ?_
    have k99 : ((-5) : Int32).toInt = (-5) := (by decide)
    exact hret _ _ _ _ (-5) f L Q dX12_undo_9 hP hS ⟨⟨hI, hF, rfl, rfl, hJ⟩, (by decide)⟩

abbrev WkX12_redo : List (Nat × Nat × Option Nat) := [(0, 0, some 5), (1, 1, none)]
set_option maxHeartbeats 4000000 in
set_option maxRecDepth 100000 in
theorem kX12_redo (l : Launch) (D : va_G) (ca : Nat → ClassId) (za h : Nat → Nat) (hh : sgH 26 h) (f : sg_F) (L : sg_L) (Q : sg_Q) (hI : sgI loM hiM f) (hJ : JM f) (sz : Nat) : Met l yX12_redo gwX12_redo { frames := 0, cells := 0, slots := 0, locals := 0 } (sgP D vwCl (tyX ca) 26 h (eM ca h) zcM za f L Q sz [.ref (h 0)]) (sgQi D vwCl 26 h (eM ca h) sz (fun r f1 L1 Q1 => ((sgI loM hiM f1 ∧ sgK WkX12_redo f f1 ∧ L1 = L ∧ Q1 = Q ∧ JM f1) ∧ ((-41) ≤ r.toInt ∧ r.toInt ≤ 39)))) 0 0 (sgA 26 h sz) := by
  refine sg_ofWi (cc := cX12_redo) (maxL := 1) RX12 (by decide) rfl rfl (Nat.le_of_ble_eq_true rfl) ?_
  intro p e s m below meth cd Qz ls hx hb hml hown hts hK hZ hP hS hl hret
  have hA := sgY.self (n := 26) (h := h) (sz := s.heap.size)
  have hl : lv_has ls 1 [(0, .ref (h 0))] := hl
  obtain ⟨H, hH⟩ : ∃ z : Heap, z = s.heap := ⟨_, rfl⟩
  obtain ⟨locs, hlo⟩ : ∃ z : List Loc, z = [] := ⟨_, rfl⟩
  have hP : va_P D vwCl (sgw 26 h (eM ca h) f L Q) H := by rw [hH]; exact hP
  have hS : va_S (sgA 26 h s.heap.size) s.heap H locs := by rw [hH, hlo]; exact hS
  suffices hgo : W p l e ({ frames := 0, cells := 0, slots := 0, locals := 0 }) s m ([.ref (h 0)] : List Value).toArray below meth cd H locs 0 0 Qz (F0 m 0 ls []) by rw [hH, hlo] at hgo; exact hgo
  clear hH hlo
  have hF : sgK WkX12_redo f f := sgK.rf
  refine lv_aload_n hx hb dX12_redo_0 rfl (lv_at hl 0 rfl) ?_
  refine sg_get (ci := 12) (v := .int (f 0 5)) (C := RX12) (T := TX12) (N := 55) hx hb hts (fun w h => List.mem_cons_of_mem _ (gx_12 w h)) hown hK hP 0 (by decide) rfl rfl 5 (by decide) (hts _ (List.mem_cons_of_mem _ mw_599)) (fun _ h9 => h9) rfl dX12_redo_1 ?_
  refine lv_topi (fun v_1 ev_1 => ?_)
  have q_2 : 0 ≤ v_1.toInt ∧ v_1.toInt ≤ 40 := by rw [ev_1]; exact hI 0 5
  refine lv_aload_n hx hb dX12_redo_4 rfl (lv_at hl 0 rfl) ?_
  refine sg_get (ci := 12) (v := .int (f 0 4)) (C := RX12) (T := TX12) (N := 55) hx hb hts (fun w h => List.mem_cons_of_mem _ (gx_12 w h)) hown hK hP 0 (by decide) rfl rfl 4 (by decide) (hts _ (List.mem_cons_of_mem _ mw_603)) (fun _ h9 => h9) rfl dX12_redo_5 ?_
  refine lv_topi (fun v_3 ev_3 => ?_)
  have q_4 : 0 ≤ v_3.toInt ∧ v_3.toInt ≤ 40 := by rw [ev_3]; exact hI 0 4
  refine lv_icmp_ne (tgt := 14) hx hb dX12_redo_8 (by decide) (fun c => ?_) (fun c => ?_)
  · skip
    have c_5 : v_1.toInt ≠ v_3.toInt := (by have z := bn_ne c; omega)
    refine lv_aload_n hx hb dX12_redo_14 rfl (lv_at hl 0 rfl) ?_
    refine sg_get (ci := 12) (v := .ref (h 1)) (C := RX12) (T := TX12) (N := 55) hx hb hts (fun w h => List.mem_cons_of_mem _ (gx_12 w h)) hown hK hP 0 (by decide) rfl rfl 0 (by decide) (hts _ (List.mem_cons_of_mem _ mw_600)) (fun _ h9 => h9) rfl dX12_redo_15 ?_
    refine lv_aload_n hx hb dX12_redo_18 rfl (lv_at hl 0 rfl) ?_
    refine sg_get (ci := 12) (v := .ref (h 2)) (C := RX12) (T := TX12) (N := 55) hx hb hts (fun w h => List.mem_cons_of_mem _ (gx_12 w h)) hown hK hP 0 (by decide) rfl rfl 1 (by decide) (hts _ (List.mem_cons_of_mem _ mw_601)) (fun _ h9 => h9) rfl dX12_redo_19 ?_
    refine lv_aload_n hx hb dX12_redo_22 rfl (lv_at hl 0 rfl) ?_
    refine sg_get (ci := 12) (v := .int v_1) (C := RX12) (T := TX12) (N := 55) hx hb hts (fun w h => List.mem_cons_of_mem _ (gx_12 w h)) hown hK hP 0 (by decide) rfl rfl 5 (by decide) (hts _ (List.mem_cons_of_mem _ mw_599)) (fun _ h9 => h9) (congrArg (fun z => some (Value.int z)) (show f 0 5 = v_1 from ev_1.symm)) dX12_redo_23 ?_
    have z_7 : (f 0 5).toInt = v_1.toInt := (congrArg Int32.toInt (show f 0 5 = v_1 from ev_1.symm))
    have z_8 : (f 0 4).toInt = v_3.toInt := (congrArg Int32.toInt (show f 0 4 = v_3 from ev_3.symm))
    have zJ2 := hJ.2
    refine sg_iald hx hb hK hP 2 (by decide) 0 rfl rfl (i := v_1) (vp_in_iff.mpr ⟨by omega, by omega⟩) dX12_redo_26 ?_
    refine lv_topi (fun v_9 ev_9 => ?_)
    have q_10 : 0 ≤ v_9.toInt ∧ v_9.toInt ≤ 70 := by rw [ev_9]; exact hI 2 _
    have q_11 : (f 2 (Int32.toNatClampNeg v_1)).toInt = v_9.toInt := by rw [ev_9]
    refine lv_aload_n hx hb dX12_redo_27 rfl (lv_at hl 0 rfl) ?_
    refine sg_get (ci := 12) (v := .ref (h 4)) (C := RX12) (T := TX12) (N := 55) hx hb hts (fun w h => List.mem_cons_of_mem _ (gx_12 w h)) hown hK hP 0 (by decide) rfl rfl 3 (by decide) (hts _ (List.mem_cons_of_mem _ mw_604)) (fun _ h9 => h9) rfl dX12_redo_28 ?_
    refine lv_aload_n hx hb dX12_redo_31 rfl (lv_at hl 0 rfl) ?_
    refine sg_get (ci := 12) (v := .int v_1) (C := RX12) (T := TX12) (N := 55) hx hb hts (fun w h => List.mem_cons_of_mem _ (gx_12 w h)) hown hK hP 0 (by decide) rfl rfl 5 (by decide) (hts _ (List.mem_cons_of_mem _ mw_599)) (fun _ h9 => h9) (congrArg (fun z => some (Value.int z)) (show f 0 5 = v_1 from ev_1.symm)) dX12_redo_32 ?_
    refine sg_iald hx hb hK hP 4 (by decide) 0 rfl rfl (i := v_1) (vp_in_iff.mpr ⟨by omega, by omega⟩) dX12_redo_35 ?_
    refine lv_topi (fun v_12 ev_12 => ?_)
    have q_13 : 0 ≤ v_12.toInt ∧ v_12.toInt ≤ 99 := by rw [ev_12]; exact hI 4 _
    have q_14 : (f 4 (Int32.toNatClampNeg v_1)).toInt = v_12.toInt := by rw [ev_12]
    have zJ := hJ.1 (Int32.toNatClampNeg v_1)
    refine sg_iast hx hb hh hA hK hP hS 1 (by decide) 0 (fun _ => rfl) rfl (i := v_9) (x := v_12) (vp_in_iff.mpr ⟨by omega, by omega⟩) dX12_redo_36 (fun f_15 H locs ef_15 hP hS => ?_)
    have hI : sgI loM hiM f_15 := by rw [ef_15]; exact sgI.put hI 1 v_9.toNatClampNeg (segM1_w v_12 (by have z := bn_clI (x := v_9) (by omega); omega))
    have hJ : JM f_15 := JM.put hJ ef_15 (by decide)
    have hF : sgK WkX12_redo f f_15 := sgK.put hF ef_15 (by rfl)
    refine lv_aload_n hx hb dX12_redo_37 rfl (lv_at hl 0 rfl) ?_
    refine lv_dup hx hb dX12_redo_38 rfl ?_
    refine sg_get (ci := 12) (v := .int v_1) (C := RX12) (T := TX12) (N := 55) hx hb hts (fun w h => List.mem_cons_of_mem _ (gx_12 w h)) hown hK hP 0 (by decide) rfl rfl 5 (by decide) (hts _ (List.mem_cons_of_mem _ mw_599)) (fun _ h9 => h9) (congrArg (fun z => some (Value.int z)) (show f_15 0 5 = v_1 from (by rw [ef_15, sg_up_n (by decide)]; exact ev_1.symm))) dX12_redo_39 ?_
    refine lv_iconst (v := 1) hx hb dX12_redo_42 (by decide) ?_
    refine lv_iadd hx hb dX12_redo_43 ?_
    refine lv_topi (fun v_16 ev_16 => ?_)
    have q_17 : v_16.toInt = v_1.toInt + 1 := by rw [ev_16]; have k1 : (1 : Int32).toInt = 1 := (by decide); exact (bn_addI (by omega) (by omega)).trans (by omega)
    have z_18 : (f_15 0 5).toInt = v_1.toInt := (congrArg Int32.toInt (show f_15 0 5 = v_1 from (by rw [ef_15, sg_up_n (by decide)]; exact ev_1.symm)))
    have z_19 : (f_15 0 4).toInt = v_3.toInt := (congrArg Int32.toInt (show f_15 0 4 = v_3 from (by rw [ef_15, sg_up_n (by decide)]; exact ev_3.symm)))
    have zJ2 := hJ.2
    refine sg_put (ci := 12) (x := v_16) (ty := .int) (C := RX12) (T := TX12) (N := 55) hx hb hts (fun w h => List.mem_cons_of_mem _ (gx_12 w h)) tyX12 tyX12_ok nmX12 hown hh hA hK hP hS 0 (by decide) rfl rfl 5 (by decide) (hts _ (List.mem_cons_of_mem _ mw_599)) (fun _ h9 => h9) rfl rfl (by decide +kernel) rfl rfl (Nat.le_of_ble_eq_true rfl) dX12_redo_44 (fun f_20 H locs ef_20 hP hS => ?_)
    have hI : sgI loM hiM f_20 := by rw [ef_20]; exact sgI.put hI 0 5 (show 0 ≤ (v_16 : Int32).toInt ∧ (v_16 : Int32).toInt ≤ 40 from by omega)
    have hJ : JM f_20 := JM.dn hJ ef_20 (by omega)
    have hF : sgK WkX12_redo f f_20 := sgK.put hF ef_20 (by rfl)
    refine lv_aload_n hx hb dX12_redo_47 rfl (lv_at hl 0 rfl) ?_
    refine sg_get (ci := 12) (v := .int v_3) (C := RX12) (T := TX12) (N := 55) hx hb hts (fun w h => List.mem_cons_of_mem _ (gx_12 w h)) hown hK hP 0 (by decide) rfl rfl 4 (by decide) (hts _ (List.mem_cons_of_mem _ mw_603)) (fun _ h9 => h9) (congrArg (fun z => some (Value.int z)) (show f_20 0 4 = v_3 from (by rw [ef_20, sg_up_s, sgu_n (by decide)]; exact (by rw [ef_15, sg_up_n (by decide)]; exact ev_3.symm)))) dX12_redo_48 ?_
    refine lv_aload_n hx hb dX12_redo_51 rfl (lv_at hl 0 rfl) ?_
    refine sg_get (ci := 12) (v := .int v_16) (C := RX12) (T := TX12) (N := 55) hx hb hts (fun w h => List.mem_cons_of_mem _ (gx_12 w h)) hown hK hP 0 (by decide) rfl rfl 5 (by decide) (hts _ (List.mem_cons_of_mem _ mw_599)) (fun _ h9 => h9) (congrArg (fun z => some (Value.int z)) (show f_20 0 5 = v_16 from (by rw [ef_20, sg_up_s, sgu_s]))) dX12_redo_52 ?_
    refine lv_isub hx hb dX12_redo_55 ?_
    refine lv_topi (fun v_21 ev_21 => ?_)
    have q_22 : v_21.toInt = v_3.toInt - v_16.toInt := by rw [ev_21]; exact (bn_subI (by omega) (by omega)).trans (by omega)
    exact hret _ _ _ _ (v_21) f_20 L Q dX12_redo_56 hP hS ⟨⟨hI, hF, rfl, rfl, hJ⟩, (by omega)⟩
  · skip
    have c_6 : v_1.toInt = v_3.toInt := (by have z := Int32.toInt_inj.mpr c; omega)
    refine lv_bipush (v := (-5)) hx hb dX12_redo_11 (by decide) ?_
    have k99 : ((-5) : Int32).toInt = (-5) := (by decide)
    exact hret _ _ _ _ (-5) f L Q dX12_redo_13 hP hS ⟨⟨hI, hF, rfl, rfl, hJ⟩, (by decide)⟩

set_option maxHeartbeats 4000000 in
set_option maxRecDepth 100000 in
theorem kX12_within (l : Launch) (D : va_G) (ca : Nat → ClassId) (za h : Nat → Nat) (hh : sgH 26 h) (f : sg_F) (L : sg_L) (Q : sg_Q) (hI : sgI loM hiM f) (x0 : Int64) (x1 : Int64) (x2 : Int64) (sz : Nat) : Met l yX12_within gwX12_within { frames := 0, cells := 0, slots := 0, locals := 0 } (sgP D vwCl (tyX ca) 26 h (eM ca h) zcM za f L Q sz [.long x0, .long x1, .long x2]) (sgQi D vwCl 26 h (eM ca h) sz (fun r f1 L1 Q1 => ((f1 = f ∧ L1 = L ∧ Q1 = Q) ∧ ((r = 1 ∧ (x1.toInt ≤ x0.toInt ∧ x0.toInt ≤ x2.toInt)) ∨ (r = 0 ∧ (¬ (x1.toInt ≤ x0.toInt ∧ x0.toInt ≤ x2.toInt))))))) 0 0 (sgA 26 h sz) := by
  refine sg_ofWz (cc := cX12_within) (maxL := 6) RX12 (by decide) rfl rfl (Nat.le_of_ble_eq_true rfl) ?_
  intro p e s m below meth cd Qz ls hx hb hml hown hts hK hZ hP hS hl hret
  have hA := sgY.self (n := 26) (h := h) (sz := s.heap.size)
  have hl : lv_has ls 6 [(0, .long x0), (2, .long x1), (4, .long x2)] := hl
  obtain ⟨H, hH⟩ : ∃ z : Heap, z = s.heap := ⟨_, rfl⟩
  obtain ⟨locs, hlo⟩ : ∃ z : List Loc, z = [] := ⟨_, rfl⟩
  have hP : va_P D vwCl (sgw 26 h (eM ca h) f L Q) H := by rw [hH]; exact hP
  have hS : va_S (sgA 26 h s.heap.size) s.heap H locs := by rw [hH, hlo]; exact hS
  suffices hgo : W p l e ({ frames := 0, cells := 0, slots := 0, locals := 0 }) s m ([.long x0, .long x1, .long x2] : List Value).toArray below meth cd H locs 0 0 Qz (F0 m 0 ls []) by rw [hH, hlo] at hgo; exact hgo
  clear hH hlo
  refine lv_lload_n hx hb dX12_within_0 rfl (lv_at hl 0 rfl) ?_
  refine lv_lload_n hx hb dX12_within_1 rfl (lv_at hl 1 rfl) ?_
  refine W.lcmp hx hb dX12_within_2 ?_
  refine lv_topi (fun v_1 ev_1 => ?_)
  have q_2 : (v_1.toInt = -1 ∧ x0.toInt < x1.toInt) ∨ (v_1.toInt = 0 ∧ x0.toInt = x1.toInt) ∨ (v_1.toInt = 1 ∧ x1.toInt < x0.toInt) := by rw [ev_1]; exact bn_lcmpI (x0 : Int64) (x1 : Int64)
  refine lv_if_lt (tgt := 17) hx hb dX12_within_3 (by decide) (fun c => ?_) (fun c => ?_)
  · skip
    have c_3 : v_1.toInt < 0 := (by have z := bn_lt c; have k1 : (0 : Int32).toInt = 0 := (by decide); omega)
    refine lv_iconst (v := 0) hx hb dX12_within_17 (by decide) ?_
    have k99 : (0 : Int32).toInt = 0 := (by decide)
    exact hret _ _ _ _ (0) f L Q dX12_within_18 (by decide) hP hS ⟨⟨rfl, rfl, rfl⟩, Or.inr (⟨rfl, by omega⟩)⟩
  · skip
    have c_4 : 0 ≤ v_1.toInt := (by have z := bn_nlt c; have k1 : (0 : Int32).toInt = 0 := (by decide); omega)
    refine lv_lload_n hx hb dX12_within_6 rfl (lv_at hl 0 rfl) ?_
    refine lv_lload hx hb dX12_within_7 (lv_at hl 2 rfl) ?_
    refine W.lcmp hx hb dX12_within_9 ?_
    refine lv_topi (fun v_5 ev_5 => ?_)
    have q_6 : (v_5.toInt = -1 ∧ x0.toInt < x2.toInt) ∨ (v_5.toInt = 0 ∧ x0.toInt = x2.toInt) ∨ (v_5.toInt = 1 ∧ x2.toInt < x0.toInt) := by rw [ev_5]; exact bn_lcmpI (x0 : Int64) (x2 : Int64)
    refine lv_if_gt (tgt := 17) hx hb dX12_within_10 (by decide) (fun c => ?_) (fun c => ?_)
    · skip
      have c_7 : 0 < v_5.toInt := (by have z := bn_lt c; have k1 : (0 : Int32).toInt = 0 := (by decide); omega)
      refine lv_iconst (v := 0) hx hb dX12_within_17 (by decide) ?_
      have k99 : (0 : Int32).toInt = 0 := (by decide)
      exact hret _ _ _ _ (0) f L Q dX12_within_18 (by decide) hP hS ⟨⟨rfl, rfl, rfl⟩, Or.inr (⟨rfl, by omega⟩)⟩
    · skip
      have c_8 : v_5.toInt ≤ 0 := (by have z := bn_nlt c; have k1 : (0 : Int32).toInt = 0 := (by decide); omega)
      refine lv_iconst (v := 1) hx hb dX12_within_13 (by decide) ?_
      refine lv_goto (tgt := 18) hx hb dX12_within_14 (by decide) ?_
      have k99 : (1 : Int32).toInt = 1 := (by decide)
      exact hret _ _ _ _ (1) f L Q dX12_within_18 (by decide) hP hS ⟨⟨rfl, rfl, rfl⟩, Or.inl ⟨rfl, by omega⟩⟩

set_option maxHeartbeats 4000000 in
set_option maxRecDepth 100000 in
theorem kX12_isSetting (l : Launch) (D : va_G) (ca : Nat → ClassId) (za h : Nat → Nat) (hh : sgH 26 h) (f : sg_F) (L : sg_L) (Q : sg_Q) (hI : sgI loM hiM f) (x0 : Int64) (sz : Nat) : Met l yX12_isSetting gwX12_isSetting { frames := 1, cells := 0, slots := 0, locals := 25 } (sgP D vwCl (tyX ca) 26 h (eM ca h) zcM za f L Q sz [.long x0]) (sgQi D vwCl 26 h (eM ca h) sz (fun r f1 L1 Q1 => ((f1 = f ∧ L1 = L ∧ Q1 = Q) ∧ ((r = 1 ∧ (0 ≤ x0.toInt ∧ x0.toInt ≤ 60)) ∨ (r = 0 ∧ (¬ (0 ≤ x0.toInt ∧ x0.toInt ≤ 60))))))) 0 0 (sgA 26 h sz) := by
  refine sg_ofWz (cc := cX12_isSetting) (maxL := 2) RX12 (by decide) rfl rfl (Nat.le_of_ble_eq_true rfl) ?_
  intro p e s m below meth cd Qz ls hx hb hml hown hts hK hZ hP hS hl hret
  have hA := sgY.self (n := 26) (h := h) (sz := s.heap.size)
  have hl : lv_has ls 2 [(0, .long x0)] := hl
  obtain ⟨H, hH⟩ : ∃ z : Heap, z = s.heap := ⟨_, rfl⟩
  obtain ⟨locs, hlo⟩ : ∃ z : List Loc, z = [] := ⟨_, rfl⟩
  have hP : va_P D vwCl (sgw 26 h (eM ca h) f L Q) H := by rw [hH]; exact hP
  have hS : va_S (sgA 26 h s.heap.size) s.heap H locs := by rw [hH, hlo]; exact hS
  suffices hgo : W p l e ({ frames := 1, cells := 0, slots := 0, locals := 25 }) s m ([.long x0] : List Value).toArray below meth cd H locs 0 0 Qz (F0 m 0 ls []) by rw [hH, hlo] at hgo; exact hgo
  clear hH hlo
  refine lv_lload_n hx hb dX12_isSetting_0 rfl (lv_at hl 0 rfl) ?_
  refine lv_lconst (v := 0) hx hb dX12_isSetting_1 (by decide) ?_
  refine lv_ldc2 (v := 60) hx hb hown (hts _ (List.mem_cons_of_mem _ mw_639)) dX12_isSetting_2 ?_
  refine sg_calli (va_runS (As := [.long x0, .long 0, .long 60]) (rest := []) ⟨hx, hb, hml, hown, hts⟩ (kX12_within l D ca za h hh f L Q hI x0 0 60 H.size) (va_cwS 3 hts (gw_S (fun _ h => List.mem_cons_of_mem _ h) mw_631 mw_632 mw_619 mw_630) rfl rfl rfl (by decide +kernel) ⟨Nat.le_of_ble_eq_true rfl, Nat.le_of_ble_eq_true rfl⟩) (sg_preS hA hK hP hS hZ) rfl rfl hl.1 rfl (lv_room (Nat.le_of_ble_eq_true rfl)) dX12_isSetting_5 ⟨Nat.le_refl _, Nat.le_refl _⟩) hA hS (fun r_4 f_1 L_2 Q_3 H locs hq hP hS => ?_)
  obtain ⟨⟨ef9, eL9, eQ9⟩, hq⟩ := hq
  rw [ef9, eL9, eQ9] at hP; clear ef9 eL9 eQ9
  have k_5 : (0 : Int64).toInt = 0 := by decide
  have k_6 : (60 : Int64).toInt = 60 := by decide
  rcases hq with ⟨rfl, hq⟩ | ⟨rfl, hq⟩
  · skip
    have q_7 := hq
    have k99 : (1 : Int32).toInt = 1 := (by decide)
    exact hret _ _ _ _ (1) f L Q dX12_isSetting_8 (by decide) hP hS ⟨⟨rfl, rfl, rfl⟩, Or.inl ⟨rfl, by omega⟩⟩
  · skip
    have q_8 := hq
    have k99 : (0 : Int32).toInt = 0 := (by decide)
    exact hret _ _ _ _ (0) f L Q dX12_isSetting_8 (by decide) hP hS ⟨⟨rfl, rfl, rfl⟩, Or.inr (⟨rfl, by omega⟩)⟩

abbrev WkX12_adds : List (Nat × Nat × Option Nat) := [(0, 0, some 6), (1, 1, none)]
set_option maxHeartbeats 4000000 in
set_option maxRecDepth 100000 in
theorem kX12_adds (l : Launch) (D : va_G) (ca : Nat → ClassId) (za h : Nat → Nat) (hh : sgH 26 h) (f : sg_F) (L : sg_L) (Q : sg_Q) (hI : sgI loM hiM f) (x0 : Int32) (x1 : Int32) (x2 : Int32) (x3 : Int32) (b0 : 0 ≤ x0.toInt ∧ x0.toInt ≤ 60) (b1 : 0 ≤ x1.toInt ∧ x1.toInt ≤ 60) (b2 : 0 ≤ x2.toInt ∧ x2.toInt ≤ 60) (b3 : 1 ≤ x3.toInt ∧ x3.toInt ≤ 12) (p0 : 0 ≤ (f 0 6).toInt ∧ (f 0 6).toInt ≤ 7) (sz : Nat) : Met l yX12_adds gwX12_adds { frames := 0, cells := 0, slots := 0, locals := 0 } (sgP D vwCl (tyX ca) 26 h (eM ca h) zcM za f L Q sz [.ref (h 0), .int x0, .int x1, .int x2, .int x3]) (sgQv D vwCl 26 h (eM ca h) sz (fun f1 L1 Q1 => ((sgI loM hiM f1 ∧ sgK WkX12_adds f f1 ∧ L1 = L ∧ Q1 = Q)))) 0 0 (sgA 26 h sz) := by
  refine sg_ofWv (cc := cX12_adds) (maxL := 6) RX12 (by decide) rfl rfl (Nat.le_of_ble_eq_true rfl) ?_
  intro p e s m below meth cd Qz ls hx hb hml hown hts hK hZ hP hS hl hret
  have hA := sgY.self (n := 26) (h := h) (sz := s.heap.size)
  have hl : lv_has ls 6 [(0, .ref (h 0)), (1, .int x0), (2, .int x1), (3, .int x2), (4, .int x3)] := hl
  obtain ⟨H, hH⟩ : ∃ z : Heap, z = s.heap := ⟨_, rfl⟩
  obtain ⟨locs, hlo⟩ : ∃ z : List Loc, z = [] := ⟨_, rfl⟩
  have hP : va_P D vwCl (sgw 26 h (eM ca h) f L Q) H := by rw [hH]; exact hP
  have hS : va_S (sgA 26 h s.heap.size) s.heap H locs := by rw [hH, hlo]; exact hS
  suffices hgo : W p l e ({ frames := 0, cells := 0, slots := 0, locals := 0 }) s m ([.ref (h 0), .int x0, .int x1, .int x2, .int x3] : List Value).toArray below meth cd H locs 0 0 Qz (F0 m 0 ls []) by rw [hH, hlo] at hgo; exact hgo
  clear hH hlo
  obtain ⟨v_1, ev_1⟩ : ∃ z : Int32, z = f 0 6 := ⟨_, rfl⟩
  have q_2 : 0 ≤ v_1.toInt ∧ v_1.toInt ≤ 8 := by rw [ev_1]; exact hI 0 6
  have o_3 : (f 0 6).toInt = v_1.toInt := (congrArg Int32.toInt (show f 0 6 = v_1 from ev_1.symm))
  have hF : sgK WkX12_adds f f := sgK.rf
  refine lv_aload_n hx hb dX12_adds_0 rfl (lv_at hl 0 rfl) ?_
  refine sg_get (ci := 12) (v := .int v_1) (C := RX12) (T := TX12) (N := 55) hx hb hts (fun w h => List.mem_cons_of_mem _ (gx_12 w h)) hown hK hP 0 (by decide) rfl rfl 6 (by decide) (hts _ (List.mem_cons_of_mem _ mw_622)) (fun _ h9 => h9) (congrArg (fun z => some (Value.int z)) (show f 0 6 = v_1 from ev_1.symm)) dX12_adds_1 ?_
  refine lv_istore (lv' := [(5, .int v_1), (0, .ref (h 0)), (1, .int x0), (2, .int x1), (3, .int x2), (4, .int x3)]) hx hb dX12_adds_4 hl (by decide) rfl (fun ls hl => ?_)
  refine lv_aload_n hx hb dX12_adds_6 rfl (lv_at hl 1 rfl) ?_
  refine sg_get (ci := 12) (v := .ref (h 1)) (C := RX12) (T := TX12) (N := 55) hx hb hts (fun w h => List.mem_cons_of_mem _ (gx_12 w h)) hown hK hP 0 (by decide) rfl rfl 0 (by decide) (hts _ (List.mem_cons_of_mem _ mw_600)) (fun _ h9 => h9) rfl dX12_adds_7 ?_
  refine lv_iload hx hb dX12_adds_10 (lv_at hl 0 rfl) ?_
  refine lv_iload_n hx hb dX12_adds_12 rfl (lv_at hl 2 rfl) ?_
  refine sg_iast hx hb hh hA hK hP hS 1 (by decide) 0 (fun _ => rfl) rfl (i := v_1) (x := x0) (vp_in_iff.mpr ⟨by omega, by omega⟩) dX12_adds_13 (fun f_4 H locs ef_4 hP hS => ?_)
  have hI : sgI loM hiM f_4 := by rw [ef_4]; exact sgI.put hI 1 v_1.toNatClampNeg (segM1_w x0 (by have z := bn_clI (x := v_1) (by omega); omega))
  have hF : sgK WkX12_adds f f_4 := sgK.put hF ef_4 (by rfl)
  refine lv_aload_n hx hb dX12_adds_14 rfl (lv_at hl 1 rfl) ?_
  refine sg_get (ci := 12) (v := .ref (h 1)) (C := RX12) (T := TX12) (N := 55) hx hb hts (fun w h => List.mem_cons_of_mem _ (gx_12 w h)) hown hK hP 0 (by decide) rfl rfl 0 (by decide) (hts _ (List.mem_cons_of_mem _ mw_600)) (fun _ h9 => h9) rfl dX12_adds_15 ?_
  refine lv_bipush (v := 8) hx hb dX12_adds_18 (by decide) ?_
  refine lv_iload hx hb dX12_adds_20 (lv_at hl 0 rfl) ?_
  refine lv_iadd hx hb dX12_adds_22 ?_
  refine lv_topi (fun v_5 ev_5 => ?_)
  have q_6 : v_5.toInt = 8 + v_1.toInt := by rw [ev_5]; have k0 : (8 : Int32).toInt = 8 := (by decide); exact (bn_addI (by omega) (by omega)).trans (by omega)
  refine lv_iload_n hx hb dX12_adds_23 rfl (lv_at hl 3 rfl) ?_
  refine sg_iast hx hb hh hA hK hP hS 1 (by decide) 0 (fun _ => rfl) rfl (i := v_5) (x := x1) (vp_in_iff.mpr ⟨by omega, by omega⟩) dX12_adds_24 (fun f_7 H locs ef_7 hP hS => ?_)
  have hI : sgI loM hiM f_7 := by rw [ef_7]; exact sgI.put hI 1 v_5.toNatClampNeg (segM1_w x1 (by have z := bn_clI (x := v_5) (by omega); omega))
  have hF : sgK WkX12_adds f f_7 := sgK.put hF ef_7 (by rfl)
  refine lv_aload_n hx hb dX12_adds_25 rfl (lv_at hl 1 rfl) ?_
  refine sg_get (ci := 12) (v := .ref (h 1)) (C := RX12) (T := TX12) (N := 55) hx hb hts (fun w h => List.mem_cons_of_mem _ (gx_12 w h)) hown hK hP 0 (by decide) rfl rfl 0 (by decide) (hts _ (List.mem_cons_of_mem _ mw_600)) (fun _ h9 => h9) rfl dX12_adds_26 ?_
  refine lv_bipush (v := 16) hx hb dX12_adds_29 (by decide) ?_
  refine lv_iload hx hb dX12_adds_31 (lv_at hl 0 rfl) ?_
  refine lv_iadd hx hb dX12_adds_33 ?_
  refine lv_topi (fun v_8 ev_8 => ?_)
  have q_9 : v_8.toInt = 16 + v_1.toInt := by rw [ev_8]; have k0 : (16 : Int32).toInt = 16 := (by decide); exact (bn_addI (by omega) (by omega)).trans (by omega)
  refine lv_iload_n hx hb dX12_adds_34 rfl (lv_at hl 4 rfl) ?_
  refine sg_iast hx hb hh hA hK hP hS 1 (by decide) 0 (fun _ => rfl) rfl (i := v_8) (x := x2) (vp_in_iff.mpr ⟨by omega, by omega⟩) dX12_adds_35 (fun f_10 H locs ef_10 hP hS => ?_)
  have hI : sgI loM hiM f_10 := by rw [ef_10]; exact sgI.put hI 1 v_8.toNatClampNeg (segM1_w x2 (by have z := bn_clI (x := v_8) (by omega); omega))
  have hF : sgK WkX12_adds f f_10 := sgK.put hF ef_10 (by rfl)
  refine lv_aload_n hx hb dX12_adds_36 rfl (lv_at hl 1 rfl) ?_
  refine sg_get (ci := 12) (v := .ref (h 1)) (C := RX12) (T := TX12) (N := 55) hx hb hts (fun w h => List.mem_cons_of_mem _ (gx_12 w h)) hown hK hP 0 (by decide) rfl rfl 0 (by decide) (hts _ (List.mem_cons_of_mem _ mw_600)) (fun _ h9 => h9) rfl dX12_adds_37 ?_
  refine lv_bipush (v := 24) hx hb dX12_adds_40 (by decide) ?_
  refine lv_iload hx hb dX12_adds_42 (lv_at hl 0 rfl) ?_
  refine lv_iadd hx hb dX12_adds_44 ?_
  refine lv_topi (fun v_11 ev_11 => ?_)
  have q_12 : v_11.toInt = 24 + v_1.toInt := by rw [ev_11]; have k0 : (24 : Int32).toInt = 24 := (by decide); exact (bn_addI (by omega) (by omega)).trans (by omega)
  refine lv_iconst (v := 1) hx hb dX12_adds_45 (by decide) ?_
  refine sg_iast hx hb hh hA hK hP hS 1 (by decide) 0 (fun _ => rfl) rfl (i := v_11) (x := 1) (vp_in_iff.mpr ⟨by omega, by omega⟩) dX12_adds_46 (fun f_13 H locs ef_13 hP hS => ?_)
  have hI : sgI loM hiM f_13 := by rw [ef_13]; exact sgI.put hI 1 v_11.toNatClampNeg (segM1_w 1 (by have z := bn_clI (x := v_11) (by omega); have k0 : (1 : Int32).toInt = 1 := (by decide); omega))
  have hF : sgK WkX12_adds f f_13 := sgK.put hF ef_13 (by rfl)
  refine lv_aload_n hx hb dX12_adds_47 rfl (lv_at hl 1 rfl) ?_
  refine sg_get (ci := 12) (v := .ref (h 1)) (C := RX12) (T := TX12) (N := 55) hx hb hts (fun w h => List.mem_cons_of_mem _ (gx_12 w h)) hown hK hP 0 (by decide) rfl rfl 0 (by decide) (hts _ (List.mem_cons_of_mem _ mw_600)) (fun _ h9 => h9) rfl dX12_adds_48 ?_
  refine lv_bipush (v := 32) hx hb dX12_adds_51 (by decide) ?_
  refine lv_iload hx hb dX12_adds_53 (lv_at hl 0 rfl) ?_
  refine lv_iadd hx hb dX12_adds_55 ?_
  refine lv_topi (fun v_14 ev_14 => ?_)
  have q_15 : v_14.toInt = 32 + v_1.toInt := by rw [ev_14]; have k0 : (32 : Int32).toInt = 32 := (by decide); exact (bn_addI (by omega) (by omega)).trans (by omega)
  refine lv_iconst (v := 1) hx hb dX12_adds_56 (by decide) ?_
  refine sg_iast hx hb hh hA hK hP hS 1 (by decide) 0 (fun _ => rfl) rfl (i := v_14) (x := 1) (vp_in_iff.mpr ⟨by omega, by omega⟩) dX12_adds_57 (fun f_16 H locs ef_16 hP hS => ?_)
  have hI : sgI loM hiM f_16 := by rw [ef_16]; exact sgI.put hI 1 v_14.toNatClampNeg (segM1_w 1 (by have z := bn_clI (x := v_14) (by omega); have k0 : (1 : Int32).toInt = 1 := (by decide); omega))
  have hF : sgK WkX12_adds f f_16 := sgK.put hF ef_16 (by rfl)
  refine lv_aload_n hx hb dX12_adds_58 rfl (lv_at hl 1 rfl) ?_
  refine sg_get (ci := 12) (v := .ref (h 1)) (C := RX12) (T := TX12) (N := 55) hx hb hts (fun w h => List.mem_cons_of_mem _ (gx_12 w h)) hown hK hP 0 (by decide) rfl rfl 0 (by decide) (hts _ (List.mem_cons_of_mem _ mw_600)) (fun _ h9 => h9) rfl dX12_adds_59 ?_
  refine lv_bipush (v := 40) hx hb dX12_adds_62 (by decide) ?_
  refine lv_iload hx hb dX12_adds_64 (lv_at hl 0 rfl) ?_
  refine lv_iadd hx hb dX12_adds_66 ?_
  refine lv_topi (fun v_17 ev_17 => ?_)
  have q_18 : v_17.toInt = 40 + v_1.toInt := by rw [ev_17]; have k0 : (40 : Int32).toInt = 40 := (by decide); exact (bn_addI (by omega) (by omega)).trans (by omega)
  refine lv_iload hx hb dX12_adds_67 (lv_at hl 5 rfl) ?_
  refine sg_iast hx hb hh hA hK hP hS 1 (by decide) 0 (fun _ => rfl) rfl (i := v_17) (x := x3) (vp_in_iff.mpr ⟨by omega, by omega⟩) dX12_adds_69 (fun f_19 H locs ef_19 hP hS => ?_)
  have hI : sgI loM hiM f_19 := by rw [ef_19]; exact sgI.put hI 1 v_17.toNatClampNeg (segM1_w x3 (by have z := bn_clI (x := v_17) (by omega); omega))
  have hF : sgK WkX12_adds f f_19 := sgK.put hF ef_19 (by rfl)
  refine lv_aload_n hx hb dX12_adds_70 rfl (lv_at hl 1 rfl) ?_
  refine sg_get (ci := 12) (v := .ref (h 1)) (C := RX12) (T := TX12) (N := 55) hx hb hts (fun w h => List.mem_cons_of_mem _ (gx_12 w h)) hown hK hP 0 (by decide) rfl rfl 0 (by decide) (hts _ (List.mem_cons_of_mem _ mw_600)) (fun _ h9 => h9) rfl dX12_adds_71 ?_
  refine lv_bipush (v := 48) hx hb dX12_adds_74 (by decide) ?_
  refine lv_iload hx hb dX12_adds_76 (lv_at hl 0 rfl) ?_
  refine lv_iadd hx hb dX12_adds_78 ?_
  refine lv_topi (fun v_20 ev_20 => ?_)
  have q_21 : v_20.toInt = 48 + v_1.toInt := by rw [ev_20]; have k0 : (48 : Int32).toInt = 48 := (by decide); exact (bn_addI (by omega) (by omega)).trans (by omega)
  refine lv_iconst (v := 0) hx hb dX12_adds_79 (by decide) ?_
  refine sg_iast hx hb hh hA hK hP hS 1 (by decide) 0 (fun _ => rfl) rfl (i := v_20) (x := 0) (vp_in_iff.mpr ⟨by omega, by omega⟩) dX12_adds_80 (fun f_22 H locs ef_22 hP hS => ?_)
  have hI : sgI loM hiM f_22 := by rw [ef_22]; exact sgI.put hI 1 v_20.toNatClampNeg (segM1_w 0 (by have z := bn_clI (x := v_20) (by omega); have k0 : (0 : Int32).toInt = 0 := (by decide); omega))
  have hF : sgK WkX12_adds f f_22 := sgK.put hF ef_22 (by rfl)
  refine lv_aload_n hx hb dX12_adds_81 rfl (lv_at hl 1 rfl) ?_
  refine sg_get (ci := 12) (v := .ref (h 1)) (C := RX12) (T := TX12) (N := 55) hx hb hts (fun w h => List.mem_cons_of_mem _ (gx_12 w h)) hown hK hP 0 (by decide) rfl rfl 0 (by decide) (hts _ (List.mem_cons_of_mem _ mw_600)) (fun _ h9 => h9) rfl dX12_adds_82 ?_
  refine lv_bipush (v := 56) hx hb dX12_adds_85 (by decide) ?_
  refine lv_iload hx hb dX12_adds_87 (lv_at hl 0 rfl) ?_
  refine lv_iadd hx hb dX12_adds_89 ?_
  refine lv_topi (fun v_23 ev_23 => ?_)
  have q_24 : v_23.toInt = 56 + v_1.toInt := by rw [ev_23]; have k0 : (56 : Int32).toInt = 56 := (by decide); exact (bn_addI (by omega) (by omega)).trans (by omega)
  refine lv_iconst (v := 0) hx hb dX12_adds_90 (by decide) ?_
  refine sg_iast hx hb hh hA hK hP hS 1 (by decide) 0 (fun _ => rfl) rfl (i := v_23) (x := 0) (vp_in_iff.mpr ⟨by omega, by omega⟩) dX12_adds_91 (fun f_25 H locs ef_25 hP hS => ?_)
  have hI : sgI loM hiM f_25 := by rw [ef_25]; exact sgI.put hI 1 v_23.toNatClampNeg (segM1_w 0 (by have z := bn_clI (x := v_23) (by omega); have k0 : (0 : Int32).toInt = 0 := (by decide); omega))
  have hF : sgK WkX12_adds f f_25 := sgK.put hF ef_25 (by rfl)
  refine lv_aload_n hx hb dX12_adds_92 rfl (lv_at hl 1 rfl) ?_
  refine lv_dup hx hb dX12_adds_93 rfl ?_
  refine sg_get (ci := 12) (v := .int v_1) (C := RX12) (T := TX12) (N := 55) hx hb hts (fun w h => List.mem_cons_of_mem _ (gx_12 w h)) hown hK hP 0 (by decide) rfl rfl 6 (by decide) (hts _ (List.mem_cons_of_mem _ mw_622)) (fun _ h9 => h9) (congrArg (fun z => some (Value.int z)) (show f_25 0 6 = v_1 from (by rw [ef_25, sg_up_n (by decide)]; exact (by rw [ef_22, sg_up_n (by decide)]; exact (by rw [ef_19, sg_up_n (by decide)]; exact (by rw [ef_16, sg_up_n (by decide)]; exact (by rw [ef_13, sg_up_n (by decide)]; exact (by rw [ef_10, sg_up_n (by decide)]; exact (by rw [ef_7, sg_up_n (by decide)]; exact (by rw [ef_4, sg_up_n (by decide)]; exact ev_1.symm)))))))))) dX12_adds_94 ?_
  refine lv_iconst (v := 1) hx hb dX12_adds_97 (by decide) ?_
  refine lv_iadd hx hb dX12_adds_98 ?_
  refine lv_topi (fun v_26 ev_26 => ?_)
  have q_27 : v_26.toInt = v_1.toInt + 1 := by rw [ev_26]; have k1 : (1 : Int32).toInt = 1 := (by decide); exact (bn_addI (by omega) (by omega)).trans (by omega)
  refine sg_put (ci := 12) (x := v_26) (ty := .int) (C := RX12) (T := TX12) (N := 55) hx hb hts (fun w h => List.mem_cons_of_mem _ (gx_12 w h)) tyX12 tyX12_ok nmX12 hown hh hA hK hP hS 0 (by decide) rfl rfl 6 (by decide) (hts _ (List.mem_cons_of_mem _ mw_622)) (fun _ h9 => h9) rfl rfl (by decide +kernel) rfl rfl (Nat.le_of_ble_eq_true rfl) dX12_adds_99 (fun f_28 H locs ef_28 hP hS => ?_)
  have hI : sgI loM hiM f_28 := by rw [ef_28]; exact sgI.put hI 0 6 (show 0 ≤ (v_26 : Int32).toInt ∧ (v_26 : Int32).toInt ≤ 8 from by omega)
  have hF : sgK WkX12_adds f f_28 := sgK.put hF ef_28 (by rfl)
  exact hret _ _ _ _ f_28 L Q dX12_adds_102 hP hS ⟨hI, hF, rfl, rfl⟩

abbrev WkX12_sitter : List (Nat × Nat × Option Nat) := [(0, 0, some 6), (1, 1, none)]
set_option maxHeartbeats 4000000 in
set_option maxRecDepth 100000 in
theorem kX12_sitter (l : Launch) (D : va_G) (ca : Nat → ClassId) (za h : Nat → Nat) (hh : sgH 26 h) (f : sg_F) (L : sg_L) (Q : sg_Q) (hI : sgI loM hiM f) (x0 : Int32) (x1 : Int32) (sz : Nat) : Met l yX12_sitter gwX12_sitter { frames := 2, cells := 0, slots := 0, locals := 46 } (sgP D vwCl (tyX ca) 26 h (eM ca h) zcM za f L Q sz [.ref (h 0), .int x0, .int x1]) (sgQi D vwCl 26 h (eM ca h) sz (fun r f1 L1 Q1 => ((sgI loM hiM f1 ∧ sgK WkX12_sitter f f1 ∧ L1 = L ∧ Q1 = Q) ∧ ((-3) ≤ r.toInt ∧ r.toInt ≤ 7)))) 0 0 (sgA 26 h sz) := by
  refine sg_ofWi (cc := cX12_sitter) (maxL := 3) RX12 (by decide) rfl rfl (Nat.le_of_ble_eq_true rfl) ?_
  intro p e s m below meth cd Qz ls hx hb hml hown hts hK hZ hP hS hl hret
  have hA := sgY.self (n := 26) (h := h) (sz := s.heap.size)
  have hl : lv_has ls 3 [(0, .ref (h 0)), (1, .int x0), (2, .int x1)] := hl
  obtain ⟨H, hH⟩ : ∃ z : Heap, z = s.heap := ⟨_, rfl⟩
  obtain ⟨locs, hlo⟩ : ∃ z : List Loc, z = [] := ⟨_, rfl⟩
  have hP : va_P D vwCl (sgw 26 h (eM ca h) f L Q) H := by rw [hH]; exact hP
  have hS : va_S (sgA 26 h s.heap.size) s.heap H locs := by rw [hH, hlo]; exact hS
  suffices hgo : W p l e ({ frames := 2, cells := 0, slots := 0, locals := 46 }) s m ([.ref (h 0), .int x0, .int x1] : List Value).toArray below meth cd H locs 0 0 Qz (F0 m 0 ls []) by rw [hH, hlo] at hgo; exact hgo
  clear hH hlo
  have hF : sgK WkX12_sitter f f := sgK.rf
  refine lv_iload_n hx hb dX12_sitter_0 rfl (lv_at hl 1 rfl) ?_
  obtain ⟨w_1, ew_1⟩ : ∃ z : Int64, z = Int32.toInt64 x0 := ⟨_, rfl⟩
  have q_2 : w_1.toInt = x0.toInt := by rw [ew_1]; exact Int32.toInt_toInt64 _
  refine lv_i2l (v := w_1) hx hb dX12_sitter_1 ew_1.symm ?_
  refine sg_calli (va_runS (As := [.long w_1]) (rest := []) ⟨hx, hb, hml, hown, hts⟩ (kX12_isSetting l D ca za h hh f L Q hI w_1 H.size) (va_cwS 1 hts (gw_S (fun _ h => List.mem_cons_of_mem _ h) mw_653 mw_654 mw_619 mw_652) rfl rfl rfl (by decide +kernel) ⟨Nat.le_of_ble_eq_true rfl, Nat.le_of_ble_eq_true rfl⟩) (sg_preS hA hK hP hS hZ) rfl rfl hl.1 rfl (lv_room (Nat.le_of_ble_eq_true rfl)) dX12_sitter_2 ⟨Nat.le_refl _, Nat.le_refl _⟩) hA hS (fun r_6 f_3 L_4 Q_5 H locs hq hP hS => ?_)
  obtain ⟨⟨ef9, eL9, eQ9⟩, hq⟩ := hq
  rw [ef9, eL9, eQ9] at hP; clear ef9 eL9 eQ9
  rcases hq with ⟨rfl, hq⟩ | ⟨rfl, hq⟩
  · skip
    have q_7 := hq
    refine lv_if_eq (tgt := 20) hx hb dX12_sitter_5 (by decide) (fun c => absurd c (by decide)) (fun c => ?_)
    refine lv_iload_n hx hb dX12_sitter_8 rfl (lv_at hl 2 rfl) ?_
    obtain ⟨w_8, ew_8⟩ : ∃ z : Int64, z = Int32.toInt64 x1 := ⟨_, rfl⟩
    have q_9 : w_8.toInt = x1.toInt := by rw [ew_8]; exact Int32.toInt_toInt64 _
    refine lv_i2l (v := w_8) hx hb dX12_sitter_9 ew_8.symm ?_
    refine lv_lconst (v := 1) hx hb dX12_sitter_10 (by decide) ?_
    refine lv_ldc2 (v := 12) hx hb hown (hts _ (List.mem_cons_of_mem _ mw_660)) dX12_sitter_11 ?_
    refine sg_calli (va_runS (As := [.long w_8, .long 1, .long 12]) (rest := []) ⟨hx, hb, hml, hown, hts⟩ (kX12_within l D ca za h hh f L Q hI w_8 1 12 H.size) (va_cwS 3 hts (gw_S (fun _ h => List.mem_cons_of_mem _ h) mw_631 mw_632 mw_619 mw_630) rfl rfl rfl (by decide +kernel) ⟨Nat.le_of_ble_eq_true rfl, Nat.le_of_ble_eq_true rfl⟩) (sg_preS hA hK hP hS hZ) rfl rfl hl.1 rfl (lv_room (Nat.le_of_ble_eq_true rfl)) dX12_sitter_14 ⟨Nat.le_refl _, Nat.le_refl _⟩) hA hS (fun r_13 f_10 L_11 Q_12 H locs hq hP hS => ?_)
    obtain ⟨⟨ef9, eL9, eQ9⟩, hq⟩ := hq
    rw [ef9, eL9, eQ9] at hP; clear ef9 eL9 eQ9
    have k_14 : (1 : Int64).toInt = 1 := by decide
    have k_15 : (12 : Int64).toInt = 12 := by decide
    rcases hq with ⟨rfl, hq⟩ | ⟨rfl, hq⟩
    · skip
      have q_16 := hq
      refine lv_if_ne (tgt := 22) hx hb dX12_sitter_17 (by decide) (fun c => ?_) (fun c => absurd c (by decide))
      refine lv_aload_n hx hb dX12_sitter_22 rfl (lv_at hl 0 rfl) ?_
      refine sg_get (ci := 12) (v := .int (f 0 6)) (C := RX12) (T := TX12) (N := 55) hx hb hts (fun w h => List.mem_cons_of_mem _ (gx_12 w h)) hown hK hP 0 (by decide) rfl rfl 6 (by decide) (hts _ (List.mem_cons_of_mem _ mw_622)) (fun _ h9 => h9) rfl dX12_sitter_23 ?_
      refine lv_topi (fun v_17 ev_17 => ?_)
      have q_18 : 0 ≤ v_17.toInt ∧ v_17.toInt ≤ 8 := by rw [ev_17]; exact hI 0 6
      refine lv_bipush (v := 8) hx hb dX12_sitter_26 (by decide) ?_
      refine lv_icmp_ne (tgt := 34) hx hb dX12_sitter_28 (by decide) (fun c => ?_) (fun c => ?_)
      · skip
        have c_19 : v_17.toInt ≠ 8 := (by have z := bn_ne c; have k1 : (8 : Int32).toInt = 8 := (by decide); omega)
        refine lv_aload_n hx hb dX12_sitter_34 rfl (lv_at hl 0 rfl) ?_
        refine lv_iload_n hx hb dX12_sitter_35 rfl (lv_at hl 1 rfl) ?_
        refine lv_iload_n hx hb dX12_sitter_36 rfl (lv_at hl 1 rfl) ?_
        refine lv_iload_n hx hb dX12_sitter_37 rfl (lv_at hl 1 rfl) ?_
        refine lv_iload_n hx hb dX12_sitter_38 rfl (lv_at hl 2 rfl) ?_
        have q_21 : (f 0 6).toInt = v_17.toInt := (congrArg Int32.toInt (show f 0 6 = v_17 from ev_17.symm))
        have q_22 : (f 0 6).toInt = v_17.toInt := (congrArg Int32.toInt (show f 0 6 = v_17 from ev_17.symm))
        refine sg_callv (va_runV (As := [.int x0, .int x0, .int x0, .int x1]) (rest := []) ⟨hx, hb, hml, hown, hts⟩ (kX12_adds l D ca za h hh f L Q hI x0 x0 x0 x1 (by omega) (by omega) (by omega) (by omega) (by omega) H.size) (cwV 4 hts (gw_V (fun _ h => List.mem_cons_of_mem _ h) mw_702 mw_703 mw_704 mw_619 mw_701) rfl rfl rfl (by decide +kernel) ⟨Nat.le_of_ble_eq_true rfl, Nat.le_of_ble_eq_true rfl⟩) (sg_preV (ci := 12) (C := RX12) (T := TX12) (N := 55) hA hK hP hS hZ 0 (by decide) rfl rfl) rfl rfl hl.1 rfl (lv_room (Nat.le_of_ble_eq_true rfl)) dX12_sitter_39 ⟨Nat.le_refl _, Nat.le_refl _⟩) hA hS (fun f_23 L_24 Q_25 H locs hq hP hS => ?_)
        obtain ⟨hI, hk_f_23, eL9, eQ9⟩ := hq
        rw [eL9, eQ9] at hP; clear eL9 eQ9
        have hF : sgK WkX12_sitter f f_23 := sgK.tr hF hk_f_23 (by decide)
        refine lv_aload_n hx hb dX12_sitter_42 rfl (lv_at hl 0 rfl) ?_
        refine sg_get (ci := 12) (v := .int (f_23 0 6)) (C := RX12) (T := TX12) (N := 55) hx hb hts (fun w h => List.mem_cons_of_mem _ (gx_12 w h)) hown hK hP 0 (by decide) rfl rfl 6 (by decide) (hts _ (List.mem_cons_of_mem _ mw_622)) (fun _ h9 => h9) rfl dX12_sitter_43 ?_
        refine lv_topi (fun v_26 ev_26 => ?_)
        have q_27 : 0 ≤ v_26.toInt ∧ v_26.toInt ≤ 8 := by rw [ev_26]; exact hI 0 6
        refine lv_iconst (v := 1) hx hb dX12_sitter_46 (by decide) ?_
        refine lv_isub hx hb dX12_sitter_47 ?_
        refine lv_topi (fun v_28 ev_28 => ?_)
        have q_29 : v_28.toInt = v_26.toInt - 1 := by rw [ev_28]; have k1 : (1 : Int32).toInt = 1 := (by decide); exact (bn_subI (by omega) (by omega)).trans (by omega)
        exact hret _ _ _ _ (v_28) f_23 L Q dX12_sitter_48 hP hS ⟨⟨hI, hF, rfl, rfl⟩, (by omega)⟩
      · skip
        have c_20 : v_17.toInt = 8 := (by have z := Int32.toInt_inj.mpr c; have k1 : (8 : Int32).toInt = 8 := (by decide); omega)
        refine lv_bipush (v := (-3)) hx hb dX12_sitter_31 (by decide) ?_
        have k99 : ((-3) : Int32).toInt = (-3) := (by decide)
        exact hret _ _ _ _ (-3) f L Q dX12_sitter_33 hP hS ⟨⟨hI, hF, rfl, rfl⟩, (by decide)⟩
    · skip
      have q_30 := hq
      refine lv_if_ne (tgt := 22) hx hb dX12_sitter_17 (by decide) (fun c => absurd c (by decide)) (fun c => ?_)
      refine lv_iconst (v := (-1)) hx hb dX12_sitter_20 (by decide) ?_
      have k99 : ((-1) : Int32).toInt = (-1) := (by decide)
      exact hret _ _ _ _ (-1) f L Q dX12_sitter_21 hP hS ⟨⟨hI, hF, rfl, rfl⟩, (by decide)⟩
  · skip
    have q_31 := hq
    refine lv_if_eq (tgt := 20) hx hb dX12_sitter_5 (by decide) (fun c => ?_) (fun c => absurd c (by decide))
    refine lv_iconst (v := (-1)) hx hb dX12_sitter_20 (by decide) ?_
    have k99 : ((-1) : Int32).toInt = (-1) := (by decide)
    exact hret _ _ _ _ (-1) f L Q dX12_sitter_21 hP hS ⟨⟨hI, hF, rfl, rfl⟩, (by decide)⟩

set_option maxHeartbeats 4000000 in
set_option maxRecDepth 100000 in
theorem kX12_isShelf (l : Launch) (D : va_G) (ca : Nat → ClassId) (za h : Nat → Nat) (hh : sgH 26 h) (f : sg_F) (L : sg_L) (Q : sg_Q) (hI : sgI loM hiM f) (x0 : Int32) (sz : Nat) : Met l yX12_isShelf gwX12_isShelf { frames := 1, cells := 0, slots := 0, locals := 25 } (sgP D vwCl (tyX ca) 26 h (eM ca h) zcM za f L Q sz [.int x0]) (sgQi D vwCl 26 h (eM ca h) sz (fun r f1 L1 Q1 => ((f1 = f ∧ L1 = L ∧ Q1 = Q) ∧ ((r = 1 ∧ (0 ≤ x0.toInt ∧ x0.toInt ≤ 5)) ∨ (r = 0 ∧ (¬ (0 ≤ x0.toInt ∧ x0.toInt ≤ 5))))))) 0 0 (sgA 26 h sz) := by
  refine sg_ofWz (cc := cX12_isShelf) (maxL := 1) RX12 (by decide) rfl rfl (Nat.le_of_ble_eq_true rfl) ?_
  intro p e s m below meth cd Qz ls hx hb hml hown hts hK hZ hP hS hl hret
  have hA := sgY.self (n := 26) (h := h) (sz := s.heap.size)
  have hl : lv_has ls 1 [(0, .int x0)] := hl
  obtain ⟨H, hH⟩ : ∃ z : Heap, z = s.heap := ⟨_, rfl⟩
  obtain ⟨locs, hlo⟩ : ∃ z : List Loc, z = [] := ⟨_, rfl⟩
  have hP : va_P D vwCl (sgw 26 h (eM ca h) f L Q) H := by rw [hH]; exact hP
  have hS : va_S (sgA 26 h s.heap.size) s.heap H locs := by rw [hH, hlo]; exact hS
  suffices hgo : W p l e ({ frames := 1, cells := 0, slots := 0, locals := 25 }) s m ([.int x0] : List Value).toArray below meth cd H locs 0 0 Qz (F0 m 0 ls []) by rw [hH, hlo] at hgo; exact hgo
  clear hH hlo
  refine lv_iload_n hx hb dX12_isShelf_0 rfl (lv_at hl 0 rfl) ?_
  obtain ⟨w_1, ew_1⟩ : ∃ z : Int64, z = Int32.toInt64 x0 := ⟨_, rfl⟩
  have q_2 : w_1.toInt = x0.toInt := by rw [ew_1]; exact Int32.toInt_toInt64 _
  refine lv_i2l (v := w_1) hx hb dX12_isShelf_1 ew_1.symm ?_
  refine lv_lconst (v := 0) hx hb dX12_isShelf_2 (by decide) ?_
  refine lv_ldc2 (v := 5) hx hb hown (hts _ (List.mem_cons_of_mem _ mw_638)) dX12_isShelf_3 ?_
  refine sg_calli (va_runS (As := [.long w_1, .long 0, .long 5]) (rest := []) ⟨hx, hb, hml, hown, hts⟩ (kX12_within l D ca za h hh f L Q hI w_1 0 5 H.size) (va_cwS 3 hts (gw_S (fun _ h => List.mem_cons_of_mem _ h) mw_631 mw_632 mw_619 mw_630) rfl rfl rfl (by decide +kernel) ⟨Nat.le_of_ble_eq_true rfl, Nat.le_of_ble_eq_true rfl⟩) (sg_preS hA hK hP hS hZ) rfl rfl hl.1 rfl (lv_room (Nat.le_of_ble_eq_true rfl)) dX12_isShelf_6 ⟨Nat.le_refl _, Nat.le_refl _⟩) hA hS (fun r_6 f_3 L_4 Q_5 H locs hq hP hS => ?_)
  obtain ⟨⟨ef9, eL9, eQ9⟩, hq⟩ := hq
  rw [ef9, eL9, eQ9] at hP; clear ef9 eL9 eQ9
  have k_7 : (0 : Int64).toInt = 0 := by decide
  have k_8 : (5 : Int64).toInt = 5 := by decide
  rcases hq with ⟨rfl, hq⟩ | ⟨rfl, hq⟩
  · skip
    have q_9 := hq
    have k99 : (1 : Int32).toInt = 1 := (by decide)
    exact hret _ _ _ _ (1) f L Q dX12_isShelf_9 (by decide) hP hS ⟨⟨rfl, rfl, rfl⟩, Or.inl ⟨rfl, by omega⟩⟩
  · skip
    have q_10 := hq
    have k99 : (0 : Int32).toInt = 0 := (by decide)
    exact hret _ _ _ _ (0) f L Q dX12_isShelf_9 (by decide) hP hS ⟨⟨rfl, rfl, rfl⟩, Or.inr (⟨rfl, by omega⟩)⟩

abbrev WkX12_sitters : List (Nat × Nat × Option Nat) := [(0, 0, some 6), (1, 1, none)]
set_option maxHeartbeats 4000000 in
set_option maxRecDepth 100000 in
theorem kX12_sitters (l : Launch) (D : va_G) (ca : Nat → ClassId) (za h : Nat → Nat) (hh : sgH 26 h) (f : sg_F) (L : sg_L) (Q : sg_Q) (hI : sgI loM hiM f) (x0 : Int32) (x1 : Int32) (x2 : Int32) (sz : Nat) : Met l yX12_sitters gwX12_sitters { frames := 2, cells := 0, slots := 0, locals := 46 } (sgP D vwCl (tyX ca) 26 h (eM ca h) zcM za f L Q sz [.ref (h 0), .int x0, .int x1, .int x2]) (sgQi D vwCl 26 h (eM ca h) sz (fun r f1 L1 Q1 => ((sgI loM hiM f1 ∧ sgK WkX12_sitters f f1 ∧ L1 = L ∧ Q1 = Q) ∧ ((-12) ≤ r.toInt ∧ r.toInt ≤ 8)))) 0 0 (sgA 26 h sz) := by
  refine sg_ofWi (cc := cX12_sitters) (maxL := 7) RX12 (by decide) rfl rfl (Nat.le_of_ble_eq_true rfl) ?_
  intro p e s m below meth cd Qz ls hx hb hml hown hts hK hZ hP hS hl hret
  have hA := sgY.self (n := 26) (h := h) (sz := s.heap.size)
  have hl : lv_has ls 7 [(0, .ref (h 0)), (1, .int x0), (2, .int x1), (3, .int x2)] := hl
  obtain ⟨H, hH⟩ : ∃ z : Heap, z = s.heap := ⟨_, rfl⟩
  obtain ⟨locs, hlo⟩ : ∃ z : List Loc, z = [] := ⟨_, rfl⟩
  have hP : va_P D vwCl (sgw 26 h (eM ca h) f L Q) H := by rw [hH]; exact hP
  have hS : va_S (sgA 26 h s.heap.size) s.heap H locs := by rw [hH, hlo]; exact hS
  suffices hgo : W p l e ({ frames := 2, cells := 0, slots := 0, locals := 46 }) s m ([.ref (h 0), .int x0, .int x1, .int x2] : List Value).toArray below meth cd H locs 0 0 Qz (F0 m 0 ls []) by rw [hH, hlo] at hgo; exact hgo
  clear hH hlo
  have hF : sgK WkX12_sitters f f := sgK.rf
  have loop_69 : ∀ (n_69 : Nat) (y4_69 : Int32) (y5_69 : Int32) (fp_69 : sg_F) (H : Heap) (locs : List Loc) (ls : Array Slot), 2 * (8 - y4_69.toInt) + y5_69.toInt < (n_69 : Int) → 0 ≤ x0.toInt ∧ x0.toInt ≤ 5 → 1 ≤ x2.toInt ∧ x2.toInt ≤ 8 → 0 ≤ y4_69.toInt ∧ y4_69.toInt ≤ 8 → 0 ≤ y5_69.toInt ∧ y5_69.toInt ≤ 1 → y5_69.toInt = 0 ∨ 0 ≤ x1.toInt → sgI loM hiM fp_69 → sgK WkX12_sitters f fp_69 → va_P D vwCl (sgw 26 h (eM ca h) fp_69 L Q) H → va_S (sgA 26 h s.heap.size) s.heap H locs → lv_has ls 7 [(0, .ref (h 0)), (1, .int x0), (2, .int x1), (3, .int x2), (4, .int y4_69), (5, .int y5_69)] → W p l e ({ frames := 2, cells := 0, slots := 0, locals := 46 }) s m ([.ref (h 0), .int x0, .int x1, .int x2] : List Value).toArray below meth cd H locs 0 0 Qz (F0 m 69 ls []) := by
    intro n_69
    induction n_69 with
    | zero => intro y4_69 y5_69 fp_69 H locs ls hm_69 hy0_69 hy1_69 hy2_69 hy3_69 hg0_69 hI hF hP hS hl; exact absurd hm_69 (by omega)
    | succ n_69 ih_69 =>
      intro y4_69 y5_69 fp_69 H locs ls hm_69 hy0_69 hy1_69 hy2_69 hy3_69 hg0_69 hI hF hP hS hl
      refine lv_iload hx hb dX12_sitters_69 (lv_at hl 5 rfl) ?_
      refine lv_if_eq (tgt := 253) hx hb dX12_sitters_71 (by decide) (fun c => ?_) (fun c => ?_)
      · skip
        have c_1 : y5_69.toInt = 0 := (by have z := Int32.toInt_inj.mpr c; have k1 : (0 : Int32).toInt = 0 := (by decide); omega)
        refine lv_iload hx hb dX12_sitters_253 (lv_at hl 4 rfl) ?_
        exact hret _ _ _ _ (y4_69) fp_69 L Q dX12_sitters_255 hP hS ⟨⟨hI, hF, rfl, rfl⟩, (by omega)⟩
      · skip
        have c_2 : y5_69.toInt ≠ 0 := (by have z := bn_ne c; have k1 : (0 : Int32).toInt = 0 := (by decide); omega)
        refine lv_iload hx hb dX12_sitters_74 (lv_at hl 4 rfl) ?_
        refine lv_iload_n hx hb dX12_sitters_76 rfl (lv_at hl 3 rfl) ?_
        refine lv_icmp_ge (tgt := 253) hx hb dX12_sitters_77 (by decide) (fun c => ?_) (fun c => ?_)
        · skip
          have c_3 : x2.toInt ≤ y4_69.toInt := (by have z := bn_le c; omega)
          refine lv_iload hx hb dX12_sitters_253 (lv_at hl 4 rfl) ?_
          exact hret _ _ _ _ (y4_69) fp_69 L Q dX12_sitters_255 hP hS ⟨⟨hI, hF, rfl, rfl⟩, (by omega)⟩
        · skip
          have c_4 : y4_69.toInt < x2.toInt := (by have z := bn_nle c; omega)
          refine lv_iload_n hx hb dX12_sitters_80 rfl (lv_at hl 2 rfl) ?_
          refine lv_aload_n hx hb dX12_sitters_81 rfl (lv_at hl 0 rfl) ?_
          refine sg_get (ci := 12) (v := .ref (h 23)) (C := RX12) (T := TX12) (N := 55) hx hb hts (fun w h => List.mem_cons_of_mem _ (gx_12 w h)) hown hK hP 0 (by decide) rfl rfl 52 (by decide) (hts _ (List.mem_cons_of_mem _ mw_645)) (fun _ h9 => h9) rfl dX12_sitters_82 ?_
          refine lv_iload_n hx hb dX12_sitters_85 rfl (lv_at hl 1 rfl) ?_
          refine sg_iald hx hb hK hP 23 (by decide) 0 rfl rfl (i := x0) (vp_in_iff.mpr ⟨by omega, by omega⟩) dX12_sitters_86 ?_
          refine lv_topi (fun v_5 ev_5 => ?_)
          have q_6 : 0 ≤ v_5.toInt ∧ v_5.toInt ≤ 60 := by rw [ev_5]; exact hI 23 _
          refine lv_iconst (v := 4) hx hb dX12_sitters_87 (by decide) ?_
          refine lv_isub hx hb dX12_sitters_88 ?_
          refine lv_topi (fun v_7 ev_7 => ?_)
          have q_8 : v_7.toInt = v_5.toInt - 4 := by rw [ev_7]; have k1 : (4 : Int32).toInt = 4 := (by decide); exact (bn_subI (by omega) (by omega)).trans (by omega)
          refine lv_iconst (v := 4) hx hb dX12_sitters_89 (by decide) ?_
          refine lv_iload hx hb dX12_sitters_90 (lv_at hl 4 rfl) ?_
          refine lv_imul hx hb dX12_sitters_92 ?_
          refine lv_topi (fun v_9 ev_9 => ?_)
          have q_10 : v_9.toInt = 4 * y4_69.toInt := by rw [ev_9]; exact bn_mulJ (by decide) (by omega) (by omega)
          refine lv_isub hx hb dX12_sitters_93 ?_
          refine lv_topi (fun v_11 ev_11 => ?_)
          have q_12 : v_11.toInt = v_7.toInt - v_9.toInt := by rw [ev_11]; exact (bn_subI (by omega) (by omega)).trans (by omega)
          refine lv_icmp_gt (tgt := 110) hx hb dX12_sitters_94 (by decide) (fun c => ?_) (fun c => ?_)
          · skip
            have c_13 : v_11.toInt < x1.toInt := (by have z := bn_lt c; omega)
            refine lv_iconst (v := 0) hx hb dX12_sitters_110 (by decide) ?_
            refine lv_istore (lv' := [(5, .int 0), (0, .ref (h 0)), (1, .int x0), (2, .int x1), (3, .int x2), (4, .int y4_69)]) hx hb dX12_sitters_111 hl (by decide) rfl (fun ls hl => ?_)
            refine lv_bipush (v := 60) hx hb dX12_sitters_113 (by decide) ?_
            refine lv_iload_n hx hb dX12_sitters_115 rfl (lv_at hl 2 rfl) ?_
            refine lv_imul hx hb dX12_sitters_116 ?_
            refine lv_topi (fun v_15 ev_15 => ?_)
            have q_16 : v_15.toInt = 60 * x0.toInt := by rw [ev_15]; exact bn_mulJ (by decide) (by omega) (by omega)
            refine lv_iload_n hx hb dX12_sitters_117 rfl (lv_at hl 3 rfl) ?_
            refine lv_iadd hx hb dX12_sitters_118 ?_
            refine lv_topi (fun v_17 ev_17 => ?_)
            refine lv_iconst (v := 4) hx hb dX12_sitters_119 (by decide) ?_
            refine lv_iload hx hb dX12_sitters_120 (lv_at hl 5 rfl) ?_
            refine lv_imul hx hb dX12_sitters_122 ?_
            rw [← ev_9]
            refine lv_iadd hx hb dX12_sitters_123 ?_
            refine lv_topi (fun v_18 ev_18 => ?_)
            refine lv_istore (lv' := [(6, .int v_18), (5, .int 0), (0, .ref (h 0)), (1, .int x0), (2, .int x1), (3, .int x2), (4, .int y4_69)]) hx hb dX12_sitters_124 hl (by decide) rfl (fun ls hl => ?_)
            refine lv_iload hx hb dX12_sitters_126 (lv_at hl 1 rfl) ?_
            refine lv_if_eq (tgt := 197) hx hb dX12_sitters_128 (by decide) (fun c => ?_) (fun c => absurd c (by decide))
            refine lv_iconst (v := 0) hx hb dX12_sitters_197 (by decide) ?_
            refine lv_istore (lv' := [(5, .int 0), (6, .int v_18), (0, .ref (h 0)), (1, .int x0), (2, .int x1), (3, .int x2), (4, .int y4_69)]) hx hb dX12_sitters_198 hl (by decide) rfl (fun ls hl => ?_)
            refine lv_iload hx hb dX12_sitters_200 (lv_at hl 0 rfl) ?_
            refine lv_if_eq (tgt := 250) hx hb dX12_sitters_202 (by decide) (fun c => ?_) (fun c => absurd c (by decide))
            refine lv_goto (tgt := 69) hx hb dX12_sitters_250 (by decide) ?_
            exact ih_69 y4_69 0 fp_69 _ _ _ (by have kc1 : (0 : Int32).toInt = 0 := (by decide); omega) (by omega) (by omega) (by omega) (by decide) (by have kc1 : (0 : Int32).toInt = 0 := (by decide); omega) hI hF hP hS (lv_sub hl [2, 3, 4, 5, 6, 0] rfl)
          · skip
            have c_14 : x1.toInt ≤ v_11.toInt := (by have z := bn_nlt c; omega)
            refine lv_aload_n hx hb dX12_sitters_97 rfl (lv_at hl 0 rfl) ?_
            refine sg_get (ci := 12) (v := .int (fp_69 0 6)) (C := RX12) (T := TX12) (N := 55) hx hb hts (fun w h => List.mem_cons_of_mem _ (gx_12 w h)) hown hK hP 0 (by decide) rfl rfl 6 (by decide) (hts _ (List.mem_cons_of_mem _ mw_622)) (fun _ h9 => h9) rfl dX12_sitters_98 ?_
            refine lv_topi (fun v_19 ev_19 => ?_)
            have q_20 : 0 ≤ v_19.toInt ∧ v_19.toInt ≤ 8 := by rw [ev_19]; exact hI 0 6
            refine lv_bipush (v := 8) hx hb dX12_sitters_101 (by decide) ?_
            refine lv_icmp_ge (tgt := 110) hx hb dX12_sitters_103 (by decide) (fun c => ?_) (fun c => ?_)
            · skip
              have c_21 : 8 ≤ v_19.toInt := (by have z := bn_le c; have k1 : (8 : Int32).toInt = 8 := (by decide); omega)
              refine lv_iconst (v := 0) hx hb dX12_sitters_110 (by decide) ?_
              refine lv_istore (lv' := [(5, .int 0), (0, .ref (h 0)), (1, .int x0), (2, .int x1), (3, .int x2), (4, .int y4_69)]) hx hb dX12_sitters_111 hl (by decide) rfl (fun ls hl => ?_)
              refine lv_bipush (v := 60) hx hb dX12_sitters_113 (by decide) ?_
              refine lv_iload_n hx hb dX12_sitters_115 rfl (lv_at hl 2 rfl) ?_
              refine lv_imul hx hb dX12_sitters_116 ?_
              refine lv_topi (fun v_23 ev_23 => ?_)
              have q_24 : v_23.toInt = 60 * x0.toInt := by rw [ev_23]; exact bn_mulJ (by decide) (by omega) (by omega)
              refine lv_iload_n hx hb dX12_sitters_117 rfl (lv_at hl 3 rfl) ?_
              refine lv_iadd hx hb dX12_sitters_118 ?_
              refine lv_topi (fun v_25 ev_25 => ?_)
              have q_26 : v_25.toInt = v_23.toInt + x1.toInt := by rw [ev_25]; exact (bn_addI (by omega) (by omega)).trans (by omega)
              refine lv_iconst (v := 4) hx hb dX12_sitters_119 (by decide) ?_
              refine lv_iload hx hb dX12_sitters_120 (lv_at hl 5 rfl) ?_
              refine lv_imul hx hb dX12_sitters_122 ?_
              rw [← ev_9]
              refine lv_iadd hx hb dX12_sitters_123 ?_
              refine lv_topi (fun v_27 ev_27 => ?_)
              have q_28 : v_27.toInt = v_25.toInt + v_9.toInt := by rw [ev_27]; exact (bn_addI (by omega) (by omega)).trans (by omega)
              refine lv_istore (lv' := [(6, .int v_27), (5, .int 0), (0, .ref (h 0)), (1, .int x0), (2, .int x1), (3, .int x2), (4, .int y4_69)]) hx hb dX12_sitters_124 hl (by decide) rfl (fun ls hl => ?_)
              refine lv_iload hx hb dX12_sitters_126 (lv_at hl 1 rfl) ?_
              refine lv_if_eq (tgt := 197) hx hb dX12_sitters_128 (by decide) (fun c => ?_) (fun c => absurd c (by decide))
              refine lv_iconst (v := 0) hx hb dX12_sitters_197 (by decide) ?_
              refine lv_istore (lv' := [(5, .int 0), (6, .int v_27), (0, .ref (h 0)), (1, .int x0), (2, .int x1), (3, .int x2), (4, .int y4_69)]) hx hb dX12_sitters_198 hl (by decide) rfl (fun ls hl => ?_)
              refine lv_iload hx hb dX12_sitters_200 (lv_at hl 0 rfl) ?_
              refine lv_if_eq (tgt := 250) hx hb dX12_sitters_202 (by decide) (fun c => ?_) (fun c => absurd c (by decide))
              refine lv_goto (tgt := 69) hx hb dX12_sitters_250 (by decide) ?_
              exact ih_69 y4_69 0 fp_69 _ _ _ (by have kc1 : (0 : Int32).toInt = 0 := (by decide); omega) (by omega) (by omega) (by omega) (by decide) (by have kc1 : (0 : Int32).toInt = 0 := (by decide); omega) hI hF hP hS (lv_sub hl [2, 3, 4, 5, 6, 0] rfl)
            · skip
              have c_22 : v_19.toInt < 8 := (by have z := bn_nle c; have k1 : (8 : Int32).toInt = 8 := (by decide); omega)
              refine lv_iconst (v := 1) hx hb dX12_sitters_106 (by decide) ?_
              refine lv_goto (tgt := 111) hx hb dX12_sitters_107 (by decide) ?_
              refine lv_istore (lv' := [(5, .int 1), (0, .ref (h 0)), (1, .int x0), (2, .int x1), (3, .int x2), (4, .int y4_69)]) hx hb dX12_sitters_111 hl (by decide) rfl (fun ls hl => ?_)
              refine lv_bipush (v := 60) hx hb dX12_sitters_113 (by decide) ?_
              refine lv_iload_n hx hb dX12_sitters_115 rfl (lv_at hl 2 rfl) ?_
              refine lv_imul hx hb dX12_sitters_116 ?_
              refine lv_topi (fun v_29 ev_29 => ?_)
              have q_30 : v_29.toInt = 60 * x0.toInt := by rw [ev_29]; exact bn_mulJ (by decide) (by omega) (by omega)
              refine lv_iload_n hx hb dX12_sitters_117 rfl (lv_at hl 3 rfl) ?_
              refine lv_iadd hx hb dX12_sitters_118 ?_
              refine lv_topi (fun v_31 ev_31 => ?_)
              have q_32 : v_31.toInt = v_29.toInt + x1.toInt := by rw [ev_31]; exact (bn_addI (by omega) (by omega)).trans (by omega)
              refine lv_iconst (v := 4) hx hb dX12_sitters_119 (by decide) ?_
              refine lv_iload hx hb dX12_sitters_120 (lv_at hl 5 rfl) ?_
              refine lv_imul hx hb dX12_sitters_122 ?_
              rw [← ev_9]
              refine lv_iadd hx hb dX12_sitters_123 ?_
              refine lv_topi (fun v_33 ev_33 => ?_)
              have q_34 : v_33.toInt = v_31.toInt + v_9.toInt := by rw [ev_33]; exact (bn_addI (by omega) (by omega)).trans (by omega)
              refine lv_istore (lv' := [(6, .int v_33), (5, .int 1), (0, .ref (h 0)), (1, .int x0), (2, .int x1), (3, .int x2), (4, .int y4_69)]) hx hb dX12_sitters_124 hl (by decide) rfl (fun ls hl => ?_)
              refine lv_iload hx hb dX12_sitters_126 (lv_at hl 1 rfl) ?_
              refine lv_if_eq (tgt := 197) hx hb dX12_sitters_128 (by decide) (fun c => absurd c (by decide)) (fun c => ?_)
              refine lv_aload_n hx hb dX12_sitters_131 rfl (lv_at hl 2 rfl) ?_
              refine sg_get (ci := 12) (v := .ref (h 24)) (C := RX12) (T := TX12) (N := 55) hx hb hts (fun w h => List.mem_cons_of_mem _ (gx_12 w h)) hown hK hP 0 (by decide) rfl rfl 53 (by decide) (hts _ (List.mem_cons_of_mem _ mw_646)) (fun _ h9 => h9) rfl dX12_sitters_132 ?_
              refine lv_iload hx hb dX12_sitters_135 (lv_at hl 0 rfl) ?_
              refine sg_lald hx hb hK hP 24 (by decide) 1 rfl rfl (i := v_33) (vp_in_iff.mpr ⟨by omega, by omega⟩) dX12_sitters_137 ?_
              obtain ⟨w_35, ew_35⟩ : ∃ z : Int64, z = L 24 (Int32.toNatClampNeg v_33) := ⟨_, rfl⟩
              rw [← ew_35]
              refine sg_calli (va_runS (As := [.long w_35]) (rest := []) ⟨hx, hb, hml, hown, hts⟩ (kX12_isSetting l D ca za h hh fp_69 L Q hI w_35 H.size) (va_cwS 1 hts (gw_S (fun _ h => List.mem_cons_of_mem _ h) mw_653 mw_654 mw_619 mw_652) rfl rfl rfl (by decide +kernel) ⟨Nat.le_of_ble_eq_true rfl, Nat.le_of_ble_eq_true rfl⟩) (sg_preS hA hK hP hS hZ) rfl rfl hl.1 rfl (lv_room (Nat.le_of_ble_eq_true rfl)) dX12_sitters_138 ⟨Nat.le_refl _, Nat.le_refl _⟩) hA hS (fun r_39 f_36 L_37 Q_38 H locs hq hP hS => ?_)
              obtain ⟨⟨ef9, eL9, eQ9⟩, hq⟩ := hq
              rw [ef9, eL9, eQ9] at hP; clear ef9 eL9 eQ9
              rcases hq with ⟨rfl, hq⟩ | ⟨rfl, hq⟩
              · skip
                have q_40 := hq
                refine lv_if_eq (tgt := 197) hx hb dX12_sitters_141 (by decide) (fun c => absurd c (by decide)) (fun c => ?_)
                refine lv_aload_n hx hb dX12_sitters_144 rfl (lv_at hl 2 rfl) ?_
                refine sg_get (ci := 12) (v := .ref (h 24)) (C := RX12) (T := TX12) (N := 55) hx hb hts (fun w h => List.mem_cons_of_mem _ (gx_12 w h)) hown hK hP 0 (by decide) rfl rfl 53 (by decide) (hts _ (List.mem_cons_of_mem _ mw_646)) (fun _ h9 => h9) rfl dX12_sitters_145 ?_
                refine lv_iload hx hb dX12_sitters_148 (lv_at hl 0 rfl) ?_
                refine lv_iconst (v := 1) hx hb dX12_sitters_150 (by decide) ?_
                refine lv_iadd hx hb dX12_sitters_151 ?_
                refine lv_topi (fun v_41 ev_41 => ?_)
                have q_42 : v_41.toInt = v_33.toInt + 1 := by rw [ev_41]; have k1 : (1 : Int32).toInt = 1 := (by decide); exact (bn_addI (by omega) (by omega)).trans (by omega)
                refine sg_lald hx hb hK hP 24 (by decide) 1 rfl rfl (i := v_41) (vp_in_iff.mpr ⟨by omega, by omega⟩) dX12_sitters_152 ?_
                obtain ⟨w_43, ew_43⟩ : ∃ z : Int64, z = L 24 (Int32.toNatClampNeg v_41) := ⟨_, rfl⟩
                rw [← ew_43]
                refine sg_calli (va_runS (As := [.long w_43]) (rest := []) ⟨hx, hb, hml, hown, hts⟩ (kX12_isSetting l D ca za h hh fp_69 L Q hI w_43 H.size) (va_cwS 1 hts (gw_S (fun _ h => List.mem_cons_of_mem _ h) mw_653 mw_654 mw_619 mw_652) rfl rfl rfl (by decide +kernel) ⟨Nat.le_of_ble_eq_true rfl, Nat.le_of_ble_eq_true rfl⟩) (sg_preS hA hK hP hS hZ) rfl rfl hl.1 rfl (lv_room (Nat.le_of_ble_eq_true rfl)) dX12_sitters_153 ⟨Nat.le_refl _, Nat.le_refl _⟩) hA hS (fun r_47 f_44 L_45 Q_46 H locs hq hP hS => ?_)
                obtain ⟨⟨ef9, eL9, eQ9⟩, hq⟩ := hq
                rw [ef9, eL9, eQ9] at hP; clear ef9 eL9 eQ9
                rcases hq with ⟨rfl, hq⟩ | ⟨rfl, hq⟩
                · skip
                  have q_48 := hq
                  refine lv_if_eq (tgt := 197) hx hb dX12_sitters_156 (by decide) (fun c => absurd c (by decide)) (fun c => ?_)
                  refine lv_aload_n hx hb dX12_sitters_159 rfl (lv_at hl 2 rfl) ?_
                  refine sg_get (ci := 12) (v := .ref (h 24)) (C := RX12) (T := TX12) (N := 55) hx hb hts (fun w h => List.mem_cons_of_mem _ (gx_12 w h)) hown hK hP 0 (by decide) rfl rfl 53 (by decide) (hts _ (List.mem_cons_of_mem _ mw_646)) (fun _ h9 => h9) rfl dX12_sitters_160 ?_
                  refine lv_iload hx hb dX12_sitters_163 (lv_at hl 0 rfl) ?_
                  refine lv_iconst (v := 2) hx hb dX12_sitters_165 (by decide) ?_
                  refine lv_iadd hx hb dX12_sitters_166 ?_
                  refine lv_topi (fun v_49 ev_49 => ?_)
                  have q_50 : v_49.toInt = v_33.toInt + 2 := by rw [ev_49]; have k1 : (2 : Int32).toInt = 2 := (by decide); exact (bn_addI (by omega) (by omega)).trans (by omega)
                  refine sg_lald hx hb hK hP 24 (by decide) 1 rfl rfl (i := v_49) (vp_in_iff.mpr ⟨by omega, by omega⟩) dX12_sitters_167 ?_
                  obtain ⟨w_51, ew_51⟩ : ∃ z : Int64, z = L 24 (Int32.toNatClampNeg v_49) := ⟨_, rfl⟩
                  rw [← ew_51]
                  refine sg_calli (va_runS (As := [.long w_51]) (rest := []) ⟨hx, hb, hml, hown, hts⟩ (kX12_isSetting l D ca za h hh fp_69 L Q hI w_51 H.size) (va_cwS 1 hts (gw_S (fun _ h => List.mem_cons_of_mem _ h) mw_653 mw_654 mw_619 mw_652) rfl rfl rfl (by decide +kernel) ⟨Nat.le_of_ble_eq_true rfl, Nat.le_of_ble_eq_true rfl⟩) (sg_preS hA hK hP hS hZ) rfl rfl hl.1 rfl (lv_room (Nat.le_of_ble_eq_true rfl)) dX12_sitters_168 ⟨Nat.le_refl _, Nat.le_refl _⟩) hA hS (fun r_55 f_52 L_53 Q_54 H locs hq hP hS => ?_)
                  obtain ⟨⟨ef9, eL9, eQ9⟩, hq⟩ := hq
                  rw [ef9, eL9, eQ9] at hP; clear ef9 eL9 eQ9
                  rcases hq with ⟨rfl, hq⟩ | ⟨rfl, hq⟩
                  · skip
                    have q_56 := hq
                    refine lv_if_eq (tgt := 197) hx hb dX12_sitters_171 (by decide) (fun c => absurd c (by decide)) (fun c => ?_)
                    refine lv_aload_n hx hb dX12_sitters_174 rfl (lv_at hl 2 rfl) ?_
                    refine sg_get (ci := 12) (v := .ref (h 24)) (C := RX12) (T := TX12) (N := 55) hx hb hts (fun w h => List.mem_cons_of_mem _ (gx_12 w h)) hown hK hP 0 (by decide) rfl rfl 53 (by decide) (hts _ (List.mem_cons_of_mem _ mw_646)) (fun _ h9 => h9) rfl dX12_sitters_175 ?_
                    refine lv_iload hx hb dX12_sitters_178 (lv_at hl 0 rfl) ?_
                    refine lv_iconst (v := 3) hx hb dX12_sitters_180 (by decide) ?_
                    refine lv_iadd hx hb dX12_sitters_181 ?_
                    refine lv_topi (fun v_57 ev_57 => ?_)
                    have q_58 : v_57.toInt = v_33.toInt + 3 := by rw [ev_57]; have k1 : (3 : Int32).toInt = 3 := (by decide); exact (bn_addI (by omega) (by omega)).trans (by omega)
                    refine sg_lald hx hb hK hP 24 (by decide) 1 rfl rfl (i := v_57) (vp_in_iff.mpr ⟨by omega, by omega⟩) dX12_sitters_182 ?_
                    obtain ⟨w_59, ew_59⟩ : ∃ z : Int64, z = L 24 (Int32.toNatClampNeg v_57) := ⟨_, rfl⟩
                    rw [← ew_59]
                    refine lv_lconst (v := 1) hx hb dX12_sitters_183 (by decide) ?_
                    refine lv_ldc2 (v := 12) hx hb hown (hts _ (List.mem_cons_of_mem _ mw_660)) dX12_sitters_184 ?_
                    refine sg_calli (va_runS (As := [.long w_59, .long 1, .long 12]) (rest := []) ⟨hx, hb, hml, hown, hts⟩ (kX12_within l D ca za h hh fp_69 L Q hI w_59 1 12 H.size) (va_cwS 3 hts (gw_S (fun _ h => List.mem_cons_of_mem _ h) mw_631 mw_632 mw_619 mw_630) rfl rfl rfl (by decide +kernel) ⟨Nat.le_of_ble_eq_true rfl, Nat.le_of_ble_eq_true rfl⟩) (sg_preS hA hK hP hS hZ) rfl rfl hl.1 rfl (lv_room (Nat.le_of_ble_eq_true rfl)) dX12_sitters_187 ⟨Nat.le_refl _, Nat.le_refl _⟩) hA hS (fun r_63 f_60 L_61 Q_62 H locs hq hP hS => ?_)
                    obtain ⟨⟨ef9, eL9, eQ9⟩, hq⟩ := hq
                    rw [ef9, eL9, eQ9] at hP; clear ef9 eL9 eQ9
                    have k_64 : (1 : Int64).toInt = 1 := by decide
                    have k_65 : (12 : Int64).toInt = 12 := by decide
                    rcases hq with ⟨rfl, hq⟩ | ⟨rfl, hq⟩
                    · skip
                      have q_66 := hq
                      refine lv_if_eq (tgt := 197) hx hb dX12_sitters_190 (by decide) (fun c => absurd c (by decide)) (fun c => ?_)
                      refine lv_iconst (v := 1) hx hb dX12_sitters_193 (by decide) ?_
                      refine lv_goto (tgt := 198) hx hb dX12_sitters_194 (by decide) ?_
                      refine lv_istore (lv' := [(5, .int 1), (6, .int v_33), (0, .ref (h 0)), (1, .int x0), (2, .int x1), (3, .int x2), (4, .int y4_69)]) hx hb dX12_sitters_198 hl (by decide) rfl (fun ls hl => ?_)
                      refine lv_iload hx hb dX12_sitters_200 (lv_at hl 0 rfl) ?_
                      refine lv_if_eq (tgt := 250) hx hb dX12_sitters_202 (by decide) (fun c => absurd c (by decide)) (fun c => ?_)
                      refine lv_aload_n hx hb dX12_sitters_205 rfl (lv_at hl 2 rfl) ?_
                      refine lv_aload_n hx hb dX12_sitters_206 rfl (lv_at hl 2 rfl) ?_
                      refine sg_get (ci := 12) (v := .ref (h 24)) (C := RX12) (T := TX12) (N := 55) hx hb hts (fun w h => List.mem_cons_of_mem _ (gx_12 w h)) hown hK hP 0 (by decide) rfl rfl 53 (by decide) (hts _ (List.mem_cons_of_mem _ mw_646)) (fun _ h9 => h9) rfl dX12_sitters_207 ?_
                      refine lv_iload hx hb dX12_sitters_210 (lv_at hl 1 rfl) ?_
                      refine sg_lald hx hb hK hP 24 (by decide) 1 rfl rfl (i := v_33) (vp_in_iff.mpr ⟨by omega, by omega⟩) dX12_sitters_212 ?_
                      rw [← ew_35]
                      obtain ⟨v_67, ev_67⟩ : ∃ z : Int32, z = Int64.toInt32 w_35 := ⟨_, rfl⟩
                      have q_68 : v_67.toInt = w_35.toInt := by rw [ev_67]; exact bn_l2i (by omega) (by omega)
                      refine lv_l2i (v := v_67) hx hb dX12_sitters_213 ev_67.symm ?_
                      refine lv_aload_n hx hb dX12_sitters_214 rfl (lv_at hl 2 rfl) ?_
                      refine sg_get (ci := 12) (v := .ref (h 24)) (C := RX12) (T := TX12) (N := 55) hx hb hts (fun w h => List.mem_cons_of_mem _ (gx_12 w h)) hown hK hP 0 (by decide) rfl rfl 53 (by decide) (hts _ (List.mem_cons_of_mem _ mw_646)) (fun _ h9 => h9) rfl dX12_sitters_215 ?_
                      refine lv_iload hx hb dX12_sitters_218 (lv_at hl 1 rfl) ?_
                      refine lv_iconst (v := 1) hx hb dX12_sitters_220 (by decide) ?_
                      refine lv_iadd hx hb dX12_sitters_221 ?_
                      rw [← ev_41]
                      refine sg_lald hx hb hK hP 24 (by decide) 1 rfl rfl (i := v_41) (vp_in_iff.mpr ⟨by omega, by omega⟩) dX12_sitters_222 ?_
                      rw [← ew_43]
                      obtain ⟨v_69, ev_69⟩ : ∃ z : Int32, z = Int64.toInt32 w_43 := ⟨_, rfl⟩
                      have q_70 : v_69.toInt = w_43.toInt := by rw [ev_69]; exact bn_l2i (by omega) (by omega)
                      refine lv_l2i (v := v_69) hx hb dX12_sitters_223 ev_69.symm ?_
                      refine lv_aload_n hx hb dX12_sitters_224 rfl (lv_at hl 2 rfl) ?_
                      refine sg_get (ci := 12) (v := .ref (h 24)) (C := RX12) (T := TX12) (N := 55) hx hb hts (fun w h => List.mem_cons_of_mem _ (gx_12 w h)) hown hK hP 0 (by decide) rfl rfl 53 (by decide) (hts _ (List.mem_cons_of_mem _ mw_646)) (fun _ h9 => h9) rfl dX12_sitters_225 ?_
                      refine lv_iload hx hb dX12_sitters_228 (lv_at hl 1 rfl) ?_
                      refine lv_iconst (v := 2) hx hb dX12_sitters_230 (by decide) ?_
                      refine lv_iadd hx hb dX12_sitters_231 ?_
                      rw [← ev_49]
                      refine sg_lald hx hb hK hP 24 (by decide) 1 rfl rfl (i := v_49) (vp_in_iff.mpr ⟨by omega, by omega⟩) dX12_sitters_232 ?_
                      rw [← ew_51]
                      obtain ⟨v_71, ev_71⟩ : ∃ z : Int32, z = Int64.toInt32 w_51 := ⟨_, rfl⟩
                      have q_72 : v_71.toInt = w_51.toInt := by rw [ev_71]; exact bn_l2i (by omega) (by omega)
                      refine lv_l2i (v := v_71) hx hb dX12_sitters_233 ev_71.symm ?_
                      refine lv_aload_n hx hb dX12_sitters_234 rfl (lv_at hl 2 rfl) ?_
                      refine sg_get (ci := 12) (v := .ref (h 24)) (C := RX12) (T := TX12) (N := 55) hx hb hts (fun w h => List.mem_cons_of_mem _ (gx_12 w h)) hown hK hP 0 (by decide) rfl rfl 53 (by decide) (hts _ (List.mem_cons_of_mem _ mw_646)) (fun _ h9 => h9) rfl dX12_sitters_235 ?_
                      refine lv_iload hx hb dX12_sitters_238 (lv_at hl 1 rfl) ?_
                      refine lv_iconst (v := 3) hx hb dX12_sitters_240 (by decide) ?_
                      refine lv_iadd hx hb dX12_sitters_241 ?_
                      rw [← ev_57]
                      refine sg_lald hx hb hK hP 24 (by decide) 1 rfl rfl (i := v_57) (vp_in_iff.mpr ⟨by omega, by omega⟩) dX12_sitters_242 ?_
                      rw [← ew_59]
                      obtain ⟨v_73, ev_73⟩ : ∃ z : Int32, z = Int64.toInt32 w_59 := ⟨_, rfl⟩
                      have q_74 : v_73.toInt = w_59.toInt := by rw [ev_73]; exact bn_l2i (by omega) (by omega)
                      refine lv_l2i (v := v_73) hx hb dX12_sitters_243 ev_73.symm ?_
                      have q_75 : (fp_69 0 6).toInt = v_19.toInt := (congrArg Int32.toInt (show fp_69 0 6 = v_19 from ev_19.symm))
                      have q_76 : (fp_69 0 6).toInt = v_19.toInt := (congrArg Int32.toInt (show fp_69 0 6 = v_19 from ev_19.symm))
                      refine sg_callv (va_runV (As := [.int v_67, .int v_69, .int v_71, .int v_73]) (rest := []) ⟨hx, hb, hml, hown, hts⟩ (kX12_adds l D ca za h hh fp_69 L Q hI v_67 v_69 v_71 v_73 (by omega) (by omega) (by omega) (by omega) (by omega) H.size) (cwV 4 hts (gw_V (fun _ h => List.mem_cons_of_mem _ h) mw_702 mw_703 mw_704 mw_619 mw_701) rfl rfl rfl (by decide +kernel) ⟨Nat.le_of_ble_eq_true rfl, Nat.le_of_ble_eq_true rfl⟩) (sg_preV (ci := 12) (C := RX12) (T := TX12) (N := 55) hA hK hP hS hZ 0 (by decide) rfl rfl) rfl rfl hl.1 rfl (lv_room (Nat.le_of_ble_eq_true rfl)) dX12_sitters_244 ⟨Nat.le_refl _, Nat.le_refl _⟩) hA hS (fun f_77 L_78 Q_79 H locs hq hP hS => ?_)
                      obtain ⟨hI, hk_f_77, eL9, eQ9⟩ := hq
                      rw [eL9, eQ9] at hP; clear eL9 eQ9
                      have hF : sgK WkX12_sitters f f_77 := sgK.tr hF hk_f_77 (by decide)
                      obtain ⟨v_80, ev_80⟩ : ∃ z : Int32, z = y4_69 + 1 := ⟨_, rfl⟩
                      have q_81 : v_80.toInt = y4_69.toInt + 1 := by rw [ev_80]; exact (bn_addc y4_69 1 (by decide) (by omega) (by omega))
                      refine lv_iinc (v := v_80) (lv' := [(4, .int v_80), (5, .int 1), (6, .int v_33), (0, .ref (h 0)), (1, .int x0), (2, .int x1), (3, .int x2)]) hx hb dX12_sitters_247 hl (k := 6) rfl (by rw [ev_80]; rfl) (by decide) rfl (fun ls hl => ?_)
                      refine lv_goto (tgt := 69) hx hb dX12_sitters_250 (by decide) ?_
                      exact ih_69 v_80 1 f_77 _ _ _ (by have kc1 : (1 : Int32).toInt = 1 := (by decide); omega) (by omega) (by omega) (by omega) (by decide) (by have kc1 : (1 : Int32).toInt = 1 := (by decide); omega) hI hF hP hS (lv_sub hl [3, 4, 5, 6, 0, 1] rfl)
                    · skip
                      have q_82 := hq
                      refine lv_if_eq (tgt := 197) hx hb dX12_sitters_190 (by decide) (fun c => ?_) (fun c => absurd c (by decide))
                      refine lv_iconst (v := 0) hx hb dX12_sitters_197 (by decide) ?_
                      refine lv_istore (lv' := [(5, .int 0), (6, .int v_33), (0, .ref (h 0)), (1, .int x0), (2, .int x1), (3, .int x2), (4, .int y4_69)]) hx hb dX12_sitters_198 hl (by decide) rfl (fun ls hl => ?_)
                      refine lv_iload hx hb dX12_sitters_200 (lv_at hl 0 rfl) ?_
                      refine lv_if_eq (tgt := 250) hx hb dX12_sitters_202 (by decide) (fun c => ?_) (fun c => absurd c (by decide))
                      refine lv_goto (tgt := 69) hx hb dX12_sitters_250 (by decide) ?_
                      exact ih_69 y4_69 0 fp_69 _ _ _ (by have kc1 : (0 : Int32).toInt = 0 := (by decide); omega) (by omega) (by omega) (by omega) (by decide) (by have kc1 : (0 : Int32).toInt = 0 := (by decide); omega) hI hF hP hS (lv_sub hl [2, 3, 4, 5, 6, 0] rfl)
                  · skip
                    have q_83 := hq
                    refine lv_if_eq (tgt := 197) hx hb dX12_sitters_171 (by decide) (fun c => ?_) (fun c => absurd c (by decide))
                    refine lv_iconst (v := 0) hx hb dX12_sitters_197 (by decide) ?_
                    refine lv_istore (lv' := [(5, .int 0), (6, .int v_33), (0, .ref (h 0)), (1, .int x0), (2, .int x1), (3, .int x2), (4, .int y4_69)]) hx hb dX12_sitters_198 hl (by decide) rfl (fun ls hl => ?_)
                    refine lv_iload hx hb dX12_sitters_200 (lv_at hl 0 rfl) ?_
                    refine lv_if_eq (tgt := 250) hx hb dX12_sitters_202 (by decide) (fun c => ?_) (fun c => absurd c (by decide))
                    refine lv_goto (tgt := 69) hx hb dX12_sitters_250 (by decide) ?_
                    exact ih_69 y4_69 0 fp_69 _ _ _ (by have kc1 : (0 : Int32).toInt = 0 := (by decide); omega) (by omega) (by omega) (by omega) (by decide) (by have kc1 : (0 : Int32).toInt = 0 := (by decide); omega) hI hF hP hS (lv_sub hl [2, 3, 4, 5, 6, 0] rfl)
                · skip
                  have q_84 := hq
                  refine lv_if_eq (tgt := 197) hx hb dX12_sitters_156 (by decide) (fun c => ?_) (fun c => absurd c (by decide))
                  refine lv_iconst (v := 0) hx hb dX12_sitters_197 (by decide) ?_
                  refine lv_istore (lv' := [(5, .int 0), (6, .int v_33), (0, .ref (h 0)), (1, .int x0), (2, .int x1), (3, .int x2), (4, .int y4_69)]) hx hb dX12_sitters_198 hl (by decide) rfl (fun ls hl => ?_)
                  refine lv_iload hx hb dX12_sitters_200 (lv_at hl 0 rfl) ?_
                  refine lv_if_eq (tgt := 250) hx hb dX12_sitters_202 (by decide) (fun c => ?_) (fun c => absurd c (by decide))
                  refine lv_goto (tgt := 69) hx hb dX12_sitters_250 (by decide) ?_
                  exact ih_69 y4_69 0 fp_69 _ _ _ (by have kc1 : (0 : Int32).toInt = 0 := (by decide); omega) (by omega) (by omega) (by omega) (by decide) (by have kc1 : (0 : Int32).toInt = 0 := (by decide); omega) hI hF hP hS (lv_sub hl [2, 3, 4, 5, 6, 0] rfl)
              · skip
                have q_85 := hq
                refine lv_if_eq (tgt := 197) hx hb dX12_sitters_141 (by decide) (fun c => ?_) (fun c => absurd c (by decide))
                refine lv_iconst (v := 0) hx hb dX12_sitters_197 (by decide) ?_
                refine lv_istore (lv' := [(5, .int 0), (6, .int v_33), (0, .ref (h 0)), (1, .int x0), (2, .int x1), (3, .int x2), (4, .int y4_69)]) hx hb dX12_sitters_198 hl (by decide) rfl (fun ls hl => ?_)
                refine lv_iload hx hb dX12_sitters_200 (lv_at hl 0 rfl) ?_
                refine lv_if_eq (tgt := 250) hx hb dX12_sitters_202 (by decide) (fun c => ?_) (fun c => absurd c (by decide))
                refine lv_goto (tgt := 69) hx hb dX12_sitters_250 (by decide) ?_
                exact ih_69 y4_69 0 fp_69 _ _ _ (by have kc1 : (0 : Int32).toInt = 0 := (by decide); omega) (by omega) (by omega) (by omega) (by decide) (by have kc1 : (0 : Int32).toInt = 0 := (by decide); omega) hI hF hP hS (lv_sub hl [2, 3, 4, 5, 6, 0] rfl)
  have blk_44 : ∀ (fp_44 : sg_F) (H : Heap) (locs : List Loc) (ls : Array Slot), 0 ≤ x0.toInt ∧ x0.toInt ≤ 5 → 1 ≤ x2.toInt ∧ x2.toInt ≤ 8 → sgI loM hiM fp_44 → sgK WkX12_sitters f fp_44 → va_P D vwCl (sgw 26 h (eM ca h) fp_44 L Q) H → va_S (sgA 26 h s.heap.size) s.heap H locs → lv_has ls 7 [(0, .ref (h 0)), (1, .int x0), (2, .int x1), (3, .int x2)] → W p l e ({ frames := 2, cells := 0, slots := 0, locals := 46 }) s m ([.ref (h 0), .int x0, .int x1, .int x2] : List Value).toArray below meth cd H locs 0 0 Qz (F0 m 44 ls []) := by
    intro fp_44 H locs ls hy0_44 hy1_44 hI hF hP hS hl
    refine lv_iconst (v := 0) hx hb dX12_sitters_44 (by decide) ?_
    refine lv_istore (lv' := [(4, .int 0), (0, .ref (h 0)), (1, .int x0), (2, .int x1), (3, .int x2)]) hx hb dX12_sitters_45 hl (by decide) rfl (fun ls hl => ?_)
    refine lv_aload_n hx hb dX12_sitters_47 rfl (lv_at hl 1 rfl) ?_
    refine sg_get (ci := 12) (v := .ref (h 22)) (C := RX12) (T := TX12) (N := 55) hx hb hts (fun w h => List.mem_cons_of_mem _ (gx_12 w h)) hown hK hP 0 (by decide) rfl rfl 51 (by decide) (hts _ (List.mem_cons_of_mem _ mw_643)) (fun _ h9 => h9) rfl dX12_sitters_48 ?_
    refine lv_iload_n hx hb dX12_sitters_51 rfl (lv_at hl 2 rfl) ?_
    refine sg_iald hx hb hK hP 22 (by decide) 0 rfl rfl (i := x0) (vp_in_iff.mpr ⟨by omega, by omega⟩) dX12_sitters_52 ?_
    refine lv_topi (fun v_86 ev_86 => ?_)
    have q_87 : (-1) ≤ v_86.toInt ∧ v_86.toInt ≤ 54 := by rw [ev_86]; exact hI 22 _
    refine lv_bipush (v := 50) hx hb dX12_sitters_53 (by decide) ?_
    refine lv_icmp_ne (tgt := 66) hx hb dX12_sitters_55 (by decide) (fun c => ?_) (fun c => ?_)
    · skip
      have c_88 : v_86.toInt ≠ 50 := (by have z := bn_ne c; have k1 : (50 : Int32).toInt = 50 := (by decide); omega)
      refine lv_iconst (v := 0) hx hb dX12_sitters_66 (by decide) ?_
      refine lv_istore (lv' := [(5, .int 0), (4, .int 0), (0, .ref (h 0)), (1, .int x0), (2, .int x1), (3, .int x2)]) hx hb dX12_sitters_67 hl (by decide) rfl (fun ls hl => ?_)
      exact loop_69 30 0 0 fp_44 _ _ _ (by have kc0 : (0 : Int32).toInt = 0 := (by decide); have kc1 : (0 : Int32).toInt = 0 := (by decide); omega) (by omega) (by omega) (by decide) (by decide) (by have kc0 : (0 : Int32).toInt = 0 := (by decide); have kc1 : (0 : Int32).toInt = 0 := (by decide); omega) hI hF hP hS (lv_sub hl [2, 3, 4, 5, 1, 0] rfl)
    · skip
      have c_89 : v_86.toInt = 50 := (by have z := Int32.toInt_inj.mpr c; have k1 : (50 : Int32).toInt = 50 := (by decide); omega)
      refine lv_iload_n hx hb dX12_sitters_58 rfl (lv_at hl 3 rfl) ?_
      refine lv_if_lt (tgt := 66) hx hb dX12_sitters_59 (by decide) (fun c => ?_) (fun c => ?_)
      · skip
        have c_90 : x1.toInt < 0 := (by have z := bn_lt c; have k1 : (0 : Int32).toInt = 0 := (by decide); omega)
        refine lv_iconst (v := 0) hx hb dX12_sitters_66 (by decide) ?_
        refine lv_istore (lv' := [(5, .int 0), (4, .int 0), (0, .ref (h 0)), (1, .int x0), (2, .int x1), (3, .int x2)]) hx hb dX12_sitters_67 hl (by decide) rfl (fun ls hl => ?_)
        exact loop_69 30 0 0 fp_44 _ _ _ (by have kc0 : (0 : Int32).toInt = 0 := (by decide); have kc1 : (0 : Int32).toInt = 0 := (by decide); omega) (by omega) (by omega) (by decide) (by decide) (by have kc0 : (0 : Int32).toInt = 0 := (by decide); have kc1 : (0 : Int32).toInt = 0 := (by decide); omega) hI hF hP hS (lv_sub hl [2, 3, 4, 5, 1, 0] rfl)
      · skip
        have c_91 : 0 ≤ x1.toInt := (by have z := bn_nlt c; have k1 : (0 : Int32).toInt = 0 := (by decide); omega)
        refine lv_iconst (v := 1) hx hb dX12_sitters_62 (by decide) ?_
        refine lv_goto (tgt := 67) hx hb dX12_sitters_63 (by decide) ?_
        refine lv_istore (lv' := [(5, .int 1), (4, .int 0), (0, .ref (h 0)), (1, .int x0), (2, .int x1), (3, .int x2)]) hx hb dX12_sitters_67 hl (by decide) rfl (fun ls hl => ?_)
        exact loop_69 30 0 1 fp_44 _ _ _ (by have kc0 : (0 : Int32).toInt = 0 := (by decide); have kc1 : (1 : Int32).toInt = 1 := (by decide); omega) (by omega) (by omega) (by decide) (by decide) (by have kc0 : (0 : Int32).toInt = 0 := (by decide); have kc1 : (1 : Int32).toInt = 1 := (by decide); omega) hI hF hP hS (lv_sub hl [2, 3, 4, 5, 1, 0] rfl)
  refine lv_iload_n hx hb dX12_sitters_0 rfl (lv_at hl 1 rfl) ?_
  refine sg_calli (va_runS (As := [.int x0]) (rest := []) ⟨hx, hb, hml, hown, hts⟩ (kX12_isShelf l D ca za h hh f L Q hI x0 H.size) (va_cwS 1 hts (gw_S (fun _ h => List.mem_cons_of_mem _ h) mw_641 mw_642 mw_619 mw_640) rfl rfl rfl (by decide +kernel) ⟨Nat.le_of_ble_eq_true rfl, Nat.le_of_ble_eq_true rfl⟩) (sg_preS hA hK hP hS hZ) rfl rfl hl.1 rfl (lv_room (Nat.le_of_ble_eq_true rfl)) dX12_sitters_1 ⟨Nat.le_refl _, Nat.le_refl _⟩) hA hS (fun r_95 f_92 L_93 Q_94 H locs hq hP hS => ?_)
  obtain ⟨⟨ef9, eL9, eQ9⟩, hq⟩ := hq
  rw [ef9, eL9, eQ9] at hP; clear ef9 eL9 eQ9
  rcases hq with ⟨rfl, hq⟩ | ⟨rfl, hq⟩
  · skip
    have q_96 := hq
    refine lv_if_eq (tgt := 19) hx hb dX12_sitters_4 (by decide) (fun c => absurd c (by decide)) (fun c => ?_)
    refine lv_iload_n hx hb dX12_sitters_7 rfl (lv_at hl 3 rfl) ?_
    obtain ⟨w_97, ew_97⟩ : ∃ z : Int64, z = Int32.toInt64 x2 := ⟨_, rfl⟩
    have q_98 : w_97.toInt = x2.toInt := by rw [ew_97]; exact Int32.toInt_toInt64 _
    refine lv_i2l (v := w_97) hx hb dX12_sitters_8 ew_97.symm ?_
    refine lv_lconst (v := 1) hx hb dX12_sitters_9 (by decide) ?_
    refine lv_ldc2 (v := 8) hx hb hown (hts _ (List.mem_cons_of_mem _ mw_633)) dX12_sitters_10 ?_
    refine sg_calli (va_runS (As := [.long w_97, .long 1, .long 8]) (rest := []) ⟨hx, hb, hml, hown, hts⟩ (kX12_within l D ca za h hh f L Q hI w_97 1 8 H.size) (va_cwS 3 hts (gw_S (fun _ h => List.mem_cons_of_mem _ h) mw_631 mw_632 mw_619 mw_630) rfl rfl rfl (by decide +kernel) ⟨Nat.le_of_ble_eq_true rfl, Nat.le_of_ble_eq_true rfl⟩) (sg_preS hA hK hP hS hZ) rfl rfl hl.1 rfl (lv_room (Nat.le_of_ble_eq_true rfl)) dX12_sitters_13 ⟨Nat.le_refl _, Nat.le_refl _⟩) hA hS (fun r_102 f_99 L_100 Q_101 H locs hq hP hS => ?_)
    obtain ⟨⟨ef9, eL9, eQ9⟩, hq⟩ := hq
    rw [ef9, eL9, eQ9] at hP; clear ef9 eL9 eQ9
    have k_103 : (1 : Int64).toInt = 1 := by decide
    have k_104 : (8 : Int64).toInt = 8 := by decide
    rcases hq with ⟨rfl, hq⟩ | ⟨rfl, hq⟩
    · skip
      have q_105 := hq
      refine lv_if_ne (tgt := 21) hx hb dX12_sitters_16 (by decide) (fun c => ?_) (fun c => absurd c (by decide))
      refine lv_aload_n hx hb dX12_sitters_21 rfl (lv_at hl 0 rfl) ?_
      refine sg_get (ci := 12) (v := .ref (h 22)) (C := RX12) (T := TX12) (N := 55) hx hb hts (fun w h => List.mem_cons_of_mem _ (gx_12 w h)) hown hK hP 0 (by decide) rfl rfl 51 (by decide) (hts _ (List.mem_cons_of_mem _ mw_643)) (fun _ h9 => h9) rfl dX12_sitters_22 ?_
      refine lv_iload_n hx hb dX12_sitters_25 rfl (lv_at hl 1 rfl) ?_
      refine sg_iald hx hb hK hP 22 (by decide) 0 rfl rfl (i := x0) (vp_in_iff.mpr ⟨by omega, by omega⟩) dX12_sitters_26 ?_
      refine lv_topi (fun v_106 ev_106 => ?_)
      have q_107 : (-1) ≤ v_106.toInt ∧ v_106.toInt ≤ 54 := by rw [ev_106]; exact hI 22 _
      refine lv_if_lt (tgt := 44) hx hb dX12_sitters_27 (by decide) (fun c => ?_) (fun c => ?_)
      · skip
        have c_108 : v_106.toInt < 0 := (by have z := bn_lt c; have k1 : (0 : Int32).toInt = 0 := (by decide); omega)
        exact blk_44 f _ _ _ (by omega) (by omega) hI hF hP hS (lv_sub hl [0, 1, 2, 3] rfl)
      · skip
        have c_109 : 0 ≤ v_106.toInt := (by have z := bn_nlt c; have k1 : (0 : Int32).toInt = 0 := (by decide); omega)
        refine lv_aload_n hx hb dX12_sitters_30 rfl (lv_at hl 0 rfl) ?_
        refine sg_get (ci := 12) (v := .ref (h 22)) (C := RX12) (T := TX12) (N := 55) hx hb hts (fun w h => List.mem_cons_of_mem _ (gx_12 w h)) hown hK hP 0 (by decide) rfl rfl 51 (by decide) (hts _ (List.mem_cons_of_mem _ mw_643)) (fun _ h9 => h9) rfl dX12_sitters_31 ?_
        refine lv_iload_n hx hb dX12_sitters_34 rfl (lv_at hl 1 rfl) ?_
        refine sg_iald hx hb hK hP 22 (by decide) 0 rfl rfl (i := x0) (vp_in_iff.mpr ⟨by omega, by omega⟩) dX12_sitters_35 ?_
        rw [← ev_106]
        refine lv_bipush (v := 50) hx hb dX12_sitters_36 (by decide) ?_
        refine lv_icmp_eq (tgt := 44) hx hb dX12_sitters_38 (by decide) (fun c => ?_) (fun c => ?_)
        · skip
          have c_110 : v_106.toInt = 50 := (by have z := Int32.toInt_inj.mpr c; have k1 : (50 : Int32).toInt = 50 := (by decide); omega)
          exact blk_44 f _ _ _ (by omega) (by omega) hI hF hP hS (lv_sub hl [0, 1, 2, 3] rfl)
        · skip
          have c_111 : v_106.toInt ≠ 50 := (by have z := bn_ne c; have k1 : (50 : Int32).toInt = 50 := (by decide); omega)
          refine lv_bipush (v := (-12)) hx hb dX12_sitters_41 (by decide) ?_
          have k99 : ((-12) : Int32).toInt = (-12) := (by decide)
          exact hret _ _ _ _ (-12) f L Q dX12_sitters_43 hP hS ⟨⟨hI, hF, rfl, rfl⟩, (by decide)⟩
    · skip
      have q_112 := hq
      refine lv_if_ne (tgt := 21) hx hb dX12_sitters_16 (by decide) (fun c => absurd c (by decide)) (fun c => ?_)
      refine lv_iconst (v := (-1)) hx hb dX12_sitters_19 (by decide) ?_
      have k99 : ((-1) : Int32).toInt = (-1) := (by decide)
      exact hret _ _ _ _ (-1) f L Q dX12_sitters_20 hP hS ⟨⟨hI, hF, rfl, rfl⟩, (by decide)⟩
  · skip
    have q_113 := hq
    refine lv_if_eq (tgt := 19) hx hb dX12_sitters_4 (by decide) (fun c => ?_) (fun c => absurd c (by decide))
    refine lv_iconst (v := (-1)) hx hb dX12_sitters_19 (by decide) ?_
    have k99 : ((-1) : Int32).toInt = (-1) := (by decide)
    exact hret _ _ _ _ (-1) f L Q dX12_sitters_20 hP hS ⟨⟨hI, hF, rfl, rfl⟩, (by decide)⟩

set_option maxHeartbeats 4000000 in
set_option maxRecDepth 100000 in
theorem kX12_isSitter (l : Launch) (D : va_G) (ca : Nat → ClassId) (za h : Nat → Nat) (hh : sgH 26 h) (f : sg_F) (L : sg_L) (Q : sg_Q) (hI : sgI loM hiM f) (x0 : Int64) (sz : Nat) : Met l yX12_isSitter gwX12_isSitter { frames := 1, cells := 0, slots := 0, locals := 25 } (sgP D vwCl (tyX ca) 26 h (eM ca h) zcM za f L Q sz [.ref (h 0), .long x0]) (sgQi D vwCl 26 h (eM ca h) sz (fun r f1 L1 Q1 => ((f1 = f ∧ L1 = L ∧ Q1 = Q) ∧ ((r = 1 ∧ (0 ≤ x0.toInt ∧ x0.toInt < (f 0 6).toInt)) ∨ (r = 0 ∧ (¬ (0 ≤ x0.toInt ∧ x0.toInt < (f 0 6).toInt))))))) 0 0 (sgA 26 h sz) := by
  refine sg_ofWz (cc := cX12_isSitter) (maxL := 3) RX12 (by decide) rfl rfl (Nat.le_of_ble_eq_true rfl) ?_
  intro p e s m below meth cd Qz ls hx hb hml hown hts hK hZ hP hS hl hret
  have hA := sgY.self (n := 26) (h := h) (sz := s.heap.size)
  have hl : lv_has ls 3 [(0, .ref (h 0)), (1, .long x0)] := hl
  obtain ⟨H, hH⟩ : ∃ z : Heap, z = s.heap := ⟨_, rfl⟩
  obtain ⟨locs, hlo⟩ : ∃ z : List Loc, z = [] := ⟨_, rfl⟩
  have hP : va_P D vwCl (sgw 26 h (eM ca h) f L Q) H := by rw [hH]; exact hP
  have hS : va_S (sgA 26 h s.heap.size) s.heap H locs := by rw [hH, hlo]; exact hS
  suffices hgo : W p l e ({ frames := 1, cells := 0, slots := 0, locals := 25 }) s m ([.ref (h 0), .long x0] : List Value).toArray below meth cd H locs 0 0 Qz (F0 m 0 ls []) by rw [hH, hlo] at hgo; exact hgo
  clear hH hlo
  obtain ⟨v_1, ev_1⟩ : ∃ z : Int32, z = f 0 6 := ⟨_, rfl⟩
  have q_2 : 0 ≤ v_1.toInt ∧ v_1.toInt ≤ 8 := by rw [ev_1]; exact hI 0 6
  have o_3 : (f 0 6).toInt = v_1.toInt := (congrArg Int32.toInt (show f 0 6 = v_1 from ev_1.symm))
  refine lv_lload_n hx hb dX12_isSitter_0 rfl (lv_at hl 1 rfl) ?_
  refine lv_lconst (v := 0) hx hb dX12_isSitter_1 (by decide) ?_
  refine lv_aload_n hx hb dX12_isSitter_2 rfl (lv_at hl 0 rfl) ?_
  refine sg_get (ci := 12) (v := .int v_1) (C := RX12) (T := TX12) (N := 55) hx hb hts (fun w h => List.mem_cons_of_mem _ (gx_12 w h)) hown hK hP 0 (by decide) rfl rfl 6 (by decide) (hts _ (List.mem_cons_of_mem _ mw_622)) (fun _ h9 => h9) (congrArg (fun z => some (Value.int z)) (show f 0 6 = v_1 from ev_1.symm)) dX12_isSitter_3 ?_
  refine lv_iconst (v := 1) hx hb dX12_isSitter_6 (by decide) ?_
  refine lv_isub hx hb dX12_isSitter_7 ?_
  refine lv_topi (fun v_4 ev_4 => ?_)
  have q_5 : v_4.toInt = v_1.toInt - 1 := by rw [ev_4]; have k1 : (1 : Int32).toInt = 1 := (by decide); exact (bn_subI (by omega) (by omega)).trans (by omega)
  obtain ⟨w_6, ew_6⟩ : ∃ z : Int64, z = Int32.toInt64 v_4 := ⟨_, rfl⟩
  have q_7 : w_6.toInt = v_4.toInt := by rw [ew_6]; exact Int32.toInt_toInt64 _
  refine lv_i2l (v := w_6) hx hb dX12_isSitter_8 ew_6.symm ?_
  refine sg_calli (va_runS (As := [.long x0, .long 0, .long w_6]) (rest := []) ⟨hx, hb, hml, hown, hts⟩ (kX12_within l D ca za h hh f L Q hI x0 0 w_6 H.size) (va_cwS 3 hts (gw_S (fun _ h => List.mem_cons_of_mem _ h) mw_631 mw_632 mw_619 mw_630) rfl rfl rfl (by decide +kernel) ⟨Nat.le_of_ble_eq_true rfl, Nat.le_of_ble_eq_true rfl⟩) (sg_preS hA hK hP hS hZ) rfl rfl hl.1 rfl (lv_room (Nat.le_of_ble_eq_true rfl)) dX12_isSitter_9 ⟨Nat.le_refl _, Nat.le_refl _⟩) hA hS (fun r_11 f_8 L_9 Q_10 H locs hq hP hS => ?_)
  obtain ⟨⟨ef9, eL9, eQ9⟩, hq⟩ := hq
  rw [ef9, eL9, eQ9] at hP; clear ef9 eL9 eQ9
  have k_12 : (0 : Int64).toInt = 0 := by decide
  rcases hq with ⟨rfl, hq⟩ | ⟨rfl, hq⟩
  · skip
    have q_13 := hq
    have k99 : (1 : Int32).toInt = 1 := (by decide)
    exact hret _ _ _ _ (1) f L Q dX12_isSitter_12 (by decide) hP hS ⟨⟨rfl, rfl, rfl⟩, Or.inl ⟨rfl, by omega⟩⟩
  · skip
    have q_14 := hq
    have k99 : (0 : Int32).toInt = 0 := (by decide)
    exact hret _ _ _ _ (0) f L Q dX12_isSitter_12 (by decide) hP hS ⟨⟨rfl, rfl, rfl⟩, Or.inr (⟨rfl, by omega⟩)⟩

set_option maxHeartbeats 4000000 in
set_option maxRecDepth 100000 in
theorem kX12_isPart (l : Launch) (D : va_G) (ca : Nat → ClassId) (za h : Nat → Nat) (hh : sgH 26 h) (f : sg_F) (L : sg_L) (Q : sg_Q) (hI : sgI loM hiM f) (x0 : Int32) (sz : Nat) : Met l yX12_isPart gwX12_isPart { frames := 1, cells := 0, slots := 0, locals := 25 } (sgP D vwCl (tyX ca) 26 h (eM ca h) zcM za f L Q sz [.int x0]) (sgQi D vwCl 26 h (eM ca h) sz (fun r f1 L1 Q1 => ((f1 = f ∧ L1 = L ∧ Q1 = Q) ∧ ((r = 1 ∧ (0 ≤ x0.toInt ∧ x0.toInt ≤ 2)) ∨ (r = 0 ∧ (¬ (0 ≤ x0.toInt ∧ x0.toInt ≤ 2))))))) 0 0 (sgA 26 h sz) := by
  refine sg_ofWz (cc := cX12_isPart) (maxL := 1) RX12 (by decide) rfl rfl (Nat.le_of_ble_eq_true rfl) ?_
  intro p e s m below meth cd Qz ls hx hb hml hown hts hK hZ hP hS hl hret
  have hA := sgY.self (n := 26) (h := h) (sz := s.heap.size)
  have hl : lv_has ls 1 [(0, .int x0)] := hl
  obtain ⟨H, hH⟩ : ∃ z : Heap, z = s.heap := ⟨_, rfl⟩
  obtain ⟨locs, hlo⟩ : ∃ z : List Loc, z = [] := ⟨_, rfl⟩
  have hP : va_P D vwCl (sgw 26 h (eM ca h) f L Q) H := by rw [hH]; exact hP
  have hS : va_S (sgA 26 h s.heap.size) s.heap H locs := by rw [hH, hlo]; exact hS
  suffices hgo : W p l e ({ frames := 1, cells := 0, slots := 0, locals := 25 }) s m ([.int x0] : List Value).toArray below meth cd H locs 0 0 Qz (F0 m 0 ls []) by rw [hH, hlo] at hgo; exact hgo
  clear hH hlo
  refine lv_iload_n hx hb dX12_isPart_0 rfl (lv_at hl 0 rfl) ?_
  obtain ⟨w_1, ew_1⟩ : ∃ z : Int64, z = Int32.toInt64 x0 := ⟨_, rfl⟩
  have q_2 : w_1.toInt = x0.toInt := by rw [ew_1]; exact Int32.toInt_toInt64 _
  refine lv_i2l (v := w_1) hx hb dX12_isPart_1 ew_1.symm ?_
  refine lv_lconst (v := 0) hx hb dX12_isPart_2 (by decide) ?_
  refine lv_ldc2 (v := 2) hx hb hown (hts _ (List.mem_cons_of_mem _ mw_629)) dX12_isPart_3 ?_
  refine sg_calli (va_runS (As := [.long w_1, .long 0, .long 2]) (rest := []) ⟨hx, hb, hml, hown, hts⟩ (kX12_within l D ca za h hh f L Q hI w_1 0 2 H.size) (va_cwS 3 hts (gw_S (fun _ h => List.mem_cons_of_mem _ h) mw_631 mw_632 mw_619 mw_630) rfl rfl rfl (by decide +kernel) ⟨Nat.le_of_ble_eq_true rfl, Nat.le_of_ble_eq_true rfl⟩) (sg_preS hA hK hP hS hZ) rfl rfl hl.1 rfl (lv_room (Nat.le_of_ble_eq_true rfl)) dX12_isPart_6 ⟨Nat.le_refl _, Nat.le_refl _⟩) hA hS (fun r_6 f_3 L_4 Q_5 H locs hq hP hS => ?_)
  obtain ⟨⟨ef9, eL9, eQ9⟩, hq⟩ := hq
  rw [ef9, eL9, eQ9] at hP; clear ef9 eL9 eQ9
  have k_7 : (0 : Int64).toInt = 0 := by decide
  have k_8 : (2 : Int64).toInt = 2 := by decide
  rcases hq with ⟨rfl, hq⟩ | ⟨rfl, hq⟩
  · skip
    have q_9 := hq
    have k99 : (1 : Int32).toInt = 1 := (by decide)
    exact hret _ _ _ _ (1) f L Q dX12_isPart_9 (by decide) hP hS ⟨⟨rfl, rfl, rfl⟩, Or.inl ⟨rfl, by omega⟩⟩
  · skip
    have q_10 := hq
    have k99 : (0 : Int32).toInt = 0 := (by decide)
    exact hret _ _ _ _ (0) f L Q dX12_isPart_9 (by decide) hP hS ⟨⟨rfl, rfl, rfl⟩, Or.inr (⟨rfl, by omega⟩)⟩

set_option maxHeartbeats 4000000 in
set_option maxRecDepth 100000 in
theorem kX12_placeOf (l : Launch) (D : va_G) (ca : Nat → ClassId) (za h : Nat → Nat) (hh : sgH 26 h) (f : sg_F) (L : sg_L) (Q : sg_Q) (hI : sgI loM hiM f) (x0 : Int32) (x1 : Int32) (sz : Nat) : Met l yX12_placeOf gwX12_placeOf { frames := 2, cells := 0, slots := 0, locals := 47 } (sgP D vwCl (tyX ca) 26 h (eM ca h) zcM za f L Q sz [.ref (h 0), .int x0, .int x1]) (sgQi D vwCl 26 h (eM ca h) sz (fun r f1 L1 Q1 => ((f1 = f ∧ L1 = L ∧ Q1 = Q) ∧ ((-1) ≤ r.toInt ∧ r.toInt ≤ 70) ∧ (x1.toInt ≠ 10 ∨ 64 ≤ r.toInt ∨ r.toInt = -1)))) 0 0 (sgA 26 h sz) := by
  refine sg_ofWi (cc := cX12_placeOf) (maxL := 3) RX12 (by decide) rfl rfl (Nat.le_of_ble_eq_true rfl) ?_
  intro p e s m below meth cd Qz ls hx hb hml hown hts hK hZ hP hS hl hret
  have hA := sgY.self (n := 26) (h := h) (sz := s.heap.size)
  have hl : lv_has ls 3 [(0, .ref (h 0)), (1, .int x0), (2, .int x1)] := hl
  obtain ⟨H, hH⟩ : ∃ z : Heap, z = s.heap := ⟨_, rfl⟩
  obtain ⟨locs, hlo⟩ : ∃ z : List Loc, z = [] := ⟨_, rfl⟩
  have hP : va_P D vwCl (sgw 26 h (eM ca h) f L Q) H := by rw [hH]; exact hP
  have hS : va_S (sgA 26 h s.heap.size) s.heap H locs := by rw [hH, hlo]; exact hS
  suffices hgo : W p l e ({ frames := 2, cells := 0, slots := 0, locals := 47 }) s m ([.ref (h 0), .int x0, .int x1] : List Value).toArray below meth cd H locs 0 0 Qz (F0 m 0 ls []) by rw [hH, hlo] at hgo; exact hgo
  clear hH hlo
  refine lv_iload_n hx hb dX12_placeOf_0 rfl (lv_at hl 2 rfl) ?_
  obtain ⟨w_1, ew_1⟩ : ∃ z : Int64, z = Int32.toInt64 x1 := ⟨_, rfl⟩
  have q_2 : w_1.toInt = x1.toInt := by rw [ew_1]; exact Int32.toInt_toInt64 _
  refine lv_i2l (v := w_1) hx hb dX12_placeOf_1 ew_1.symm ?_
  refine lv_lconst (v := 0) hx hb dX12_placeOf_2 (by decide) ?_
  refine lv_ldc2 (v := 7) hx hb hown (hts _ (List.mem_cons_of_mem _ mw_620)) dX12_placeOf_3 ?_
  refine sg_calli (va_runS (As := [.long w_1, .long 0, .long 7]) (rest := []) ⟨hx, hb, hml, hown, hts⟩ (kX12_within l D ca za h hh f L Q hI w_1 0 7 H.size) (va_cwS 3 hts (gw_S (fun _ h => List.mem_cons_of_mem _ h) mw_631 mw_632 mw_619 mw_630) rfl rfl rfl (by decide +kernel) ⟨Nat.le_of_ble_eq_true rfl, Nat.le_of_ble_eq_true rfl⟩) (sg_preS hA hK hP hS hZ) rfl rfl hl.1 rfl (lv_room (Nat.le_of_ble_eq_true rfl)) dX12_placeOf_6 ⟨Nat.le_refl _, Nat.le_refl _⟩) hA hS (fun r_6 f_3 L_4 Q_5 H locs hq hP hS => ?_)
  obtain ⟨⟨ef9, eL9, eQ9⟩, hq⟩ := hq
  rw [ef9, eL9, eQ9] at hP; clear ef9 eL9 eQ9
  have k_7 : (0 : Int64).toInt = 0 := by decide
  have k_8 : (7 : Int64).toInt = 7 := by decide
  rcases hq with ⟨rfl, hq⟩ | ⟨rfl, hq⟩
  · skip
    have q_9 := hq
    refine lv_if_eq (tgt := 32) hx hb dX12_placeOf_9 (by decide) (fun c => absurd c (by decide)) (fun c => ?_)
    refine lv_aload_n hx hb dX12_placeOf_12 rfl (lv_at hl 0 rfl) ?_
    refine lv_iload_n hx hb dX12_placeOf_13 rfl (lv_at hl 1 rfl) ?_
    obtain ⟨w_10, ew_10⟩ : ∃ z : Int64, z = Int32.toInt64 x0 := ⟨_, rfl⟩
    have q_11 : w_10.toInt = x0.toInt := by rw [ew_10]; exact Int32.toInt_toInt64 _
    refine lv_i2l (v := w_10) hx hb dX12_placeOf_14 ew_10.symm ?_
    obtain ⟨v_12, ev_12⟩ : ∃ z : Int32, z = f 0 6 := ⟨_, rfl⟩
    have q_13 : 0 ≤ v_12.toInt ∧ v_12.toInt ≤ 8 := by rw [ev_12]; exact hI 0 6
    have q_14 : (f 0 6).toInt = v_12.toInt := (congrArg Int32.toInt (show f 0 6 = v_12 from ev_12.symm))
    have q_15 : (f 0 6).toInt = v_12.toInt := (congrArg Int32.toInt (show f 0 6 = v_12 from ev_12.symm))
    refine sg_calli (va_runV (As := [.long w_10]) (rest := []) ⟨hx, hb, hml, hown, hts⟩ (kX12_isSitter l D ca za h hh f L Q hI w_10 H.size) (cwV 1 hts (gw_V (fun _ h => List.mem_cons_of_mem _ h) mw_663 mw_664 mw_665 mw_619 mw_662) rfl rfl rfl (by decide +kernel) ⟨Nat.le_of_ble_eq_true rfl, Nat.le_of_ble_eq_true rfl⟩) (sg_preV (ci := 12) (C := RX12) (T := TX12) (N := 55) hA hK hP hS hZ 0 (by decide) rfl rfl) rfl rfl hl.1 rfl (lv_room (Nat.le_of_ble_eq_true rfl)) dX12_placeOf_15 ⟨Nat.le_refl _, Nat.le_refl _⟩) hA hS (fun r_19 f_16 L_17 Q_18 H locs hq hP hS => ?_)
    obtain ⟨⟨ef9, eL9, eQ9⟩, hq⟩ := hq
    rw [ef9, eL9, eQ9] at hP; clear ef9 eL9 eQ9
    rcases hq with ⟨rfl, hq⟩ | ⟨rfl, hq⟩
    · skip
      have q_20 := hq
      refine lv_if_eq (tgt := 30) hx hb dX12_placeOf_18 (by decide) (fun c => absurd c (by decide)) (fun c => ?_)
      refine lv_bipush (v := 8) hx hb dX12_placeOf_21 (by decide) ?_
      refine lv_iload_n hx hb dX12_placeOf_23 rfl (lv_at hl 2 rfl) ?_
      refine lv_imul hx hb dX12_placeOf_24 ?_
      refine lv_topi (fun v_21 ev_21 => ?_)
      have q_22 : v_21.toInt = 8 * x1.toInt := by rw [ev_21]; exact bn_mulJ (by decide) (by omega) (by omega)
      refine lv_iload_n hx hb dX12_placeOf_25 rfl (lv_at hl 1 rfl) ?_
      refine lv_iadd hx hb dX12_placeOf_26 ?_
      refine lv_topi (fun v_23 ev_23 => ?_)
      have q_24 : v_23.toInt = v_21.toInt + x0.toInt := by rw [ev_23]; exact (bn_addI (by omega) (by omega)).trans (by omega)
      refine lv_goto (tgt := 31) hx hb dX12_placeOf_27 (by decide) ?_
      exact hret _ _ _ _ (v_23) f L Q dX12_placeOf_31 hP hS ⟨⟨rfl, rfl, rfl⟩, (by omega), (by omega)⟩
    · skip
      have q_25 := hq
      refine lv_if_eq (tgt := 30) hx hb dX12_placeOf_18 (by decide) (fun c => ?_) (fun c => absurd c (by decide))
      refine lv_iconst (v := (-1)) hx hb dX12_placeOf_30 (by decide) ?_
      have k99 : ((-1) : Int32).toInt = (-1) := (by decide)
      exact hret _ _ _ _ (-1) f L Q dX12_placeOf_31 hP hS ⟨⟨rfl, rfl, rfl⟩, (by decide), (by omega)⟩
  · skip
    have q_26 := hq
    refine lv_if_eq (tgt := 32) hx hb dX12_placeOf_9 (by decide) (fun c => ?_) (fun c => absurd c (by decide))
    refine lv_iload_n hx hb dX12_placeOf_32 rfl (lv_at hl 2 rfl) ?_
    refine lv_i2l (v := w_1) hx hb dX12_placeOf_33 ew_1.symm ?_
    refine lv_ldc2 (v := 8) hx hb hown (hts _ (List.mem_cons_of_mem _ mw_633)) dX12_placeOf_34 ?_
    refine lv_ldc2 (v := 9) hx hb hown (hts _ (List.mem_cons_of_mem _ mw_634)) dX12_placeOf_37 ?_
    refine sg_calli (va_runS (As := [.long w_1, .long 8, .long 9]) (rest := []) ⟨hx, hb, hml, hown, hts⟩ (kX12_within l D ca za h hh f L Q hI w_1 8 9 H.size) (va_cwS 3 hts (gw_S (fun _ h => List.mem_cons_of_mem _ h) mw_631 mw_632 mw_619 mw_630) rfl rfl rfl (by decide +kernel) ⟨Nat.le_of_ble_eq_true rfl, Nat.le_of_ble_eq_true rfl⟩) (sg_preS hA hK hP hS hZ) rfl rfl hl.1 rfl (lv_room (Nat.le_of_ble_eq_true rfl)) dX12_placeOf_40 ⟨Nat.le_refl _, Nat.le_refl _⟩) hA hS (fun r_30 f_27 L_28 Q_29 H locs hq hP hS => ?_)
    obtain ⟨⟨ef9, eL9, eQ9⟩, hq⟩ := hq
    rw [ef9, eL9, eQ9] at hP; clear ef9 eL9 eQ9
    have k_31 : (8 : Int64).toInt = 8 := by decide
    have k_32 : (9 : Int64).toInt = 9 := by decide
    rcases hq with ⟨rfl, hq⟩ | ⟨rfl, hq⟩
    · skip
      have q_33 := hq
      refine lv_if_eq (tgt := 69) hx hb dX12_placeOf_43 (by decide) (fun c => absurd c (by decide)) (fun c => ?_)
      refine lv_iload_n hx hb dX12_placeOf_46 rfl (lv_at hl 1 rfl) ?_
      refine sg_calli (va_runS (As := [.int x0]) (rest := []) ⟨hx, hb, hml, hown, hts⟩ (kX12_isPart l D ca za h hh f L Q hI x0 H.size) (va_cwS 1 hts (gw_S (fun _ h => List.mem_cons_of_mem _ h) mw_636 mw_637 mw_619 mw_635) rfl rfl rfl (by decide +kernel) ⟨Nat.le_of_ble_eq_true rfl, Nat.le_of_ble_eq_true rfl⟩) (sg_preS hA hK hP hS hZ) rfl rfl hl.1 rfl (lv_room (Nat.le_of_ble_eq_true rfl)) dX12_placeOf_47 ⟨Nat.le_refl _, Nat.le_refl _⟩) hA hS (fun r_37 f_34 L_35 Q_36 H locs hq hP hS => ?_)
      obtain ⟨⟨ef9, eL9, eQ9⟩, hq⟩ := hq
      rw [ef9, eL9, eQ9] at hP; clear ef9 eL9 eQ9
      rcases hq with ⟨rfl, hq⟩ | ⟨rfl, hq⟩
      · skip
        have q_38 := hq
        refine lv_if_eq (tgt := 67) hx hb dX12_placeOf_50 (by decide) (fun c => absurd c (by decide)) (fun c => ?_)
        refine lv_bipush (v := 64) hx hb dX12_placeOf_53 (by decide) ?_
        refine lv_iconst (v := 3) hx hb dX12_placeOf_55 (by decide) ?_
        refine lv_iload_n hx hb dX12_placeOf_56 rfl (lv_at hl 2 rfl) ?_
        refine lv_bipush (v := 8) hx hb dX12_placeOf_57 (by decide) ?_
        refine lv_isub hx hb dX12_placeOf_59 ?_
        refine lv_topi (fun v_39 ev_39 => ?_)
        have q_40 : v_39.toInt = x1.toInt - 8 := by rw [ev_39]; have k1 : (8 : Int32).toInt = 8 := (by decide); exact (bn_subI (by omega) (by omega)).trans (by omega)
        refine lv_imul hx hb dX12_placeOf_60 ?_
        refine lv_topi (fun v_41 ev_41 => ?_)
        have q_42 : v_41.toInt = 3 * v_39.toInt := by rw [ev_41]; exact bn_mulJ (by decide) (by omega) (by omega)
        refine lv_iadd hx hb dX12_placeOf_61 ?_
        refine lv_topi (fun v_43 ev_43 => ?_)
        have q_44 : v_43.toInt = 64 + v_41.toInt := by rw [ev_43]; have k0 : (64 : Int32).toInt = 64 := (by decide); exact (bn_addI (by omega) (by omega)).trans (by omega)
        refine lv_iload_n hx hb dX12_placeOf_62 rfl (lv_at hl 1 rfl) ?_
        refine lv_iadd hx hb dX12_placeOf_63 ?_
        refine lv_topi (fun v_45 ev_45 => ?_)
        have q_46 : v_45.toInt = v_43.toInt + x0.toInt := by rw [ev_45]; exact (bn_addI (by omega) (by omega)).trans (by omega)
        refine lv_goto (tgt := 68) hx hb dX12_placeOf_64 (by decide) ?_
        exact hret _ _ _ _ (v_45) f L Q dX12_placeOf_68 hP hS ⟨⟨rfl, rfl, rfl⟩, (by omega), (by omega)⟩
      · skip
        have q_47 := hq
        refine lv_if_eq (tgt := 67) hx hb dX12_placeOf_50 (by decide) (fun c => ?_) (fun c => absurd c (by decide))
        refine lv_iconst (v := (-1)) hx hb dX12_placeOf_67 (by decide) ?_
        have k99 : ((-1) : Int32).toInt = (-1) := (by decide)
        exact hret _ _ _ _ (-1) f L Q dX12_placeOf_68 hP hS ⟨⟨rfl, rfl, rfl⟩, (by decide), (by omega)⟩
    · skip
      have q_48 := hq
      refine lv_if_eq (tgt := 69) hx hb dX12_placeOf_43 (by decide) (fun c => ?_) (fun c => absurd c (by decide))
      refine lv_iload_n hx hb dX12_placeOf_69 rfl (lv_at hl 2 rfl) ?_
      refine lv_bipush (v := 10) hx hb dX12_placeOf_70 (by decide) ?_
      refine lv_icmp_ne (tgt := 84) hx hb dX12_placeOf_72 (by decide) (fun c => ?_) (fun c => ?_)
      · skip
        have c_49 : x1.toInt ≠ 10 := (by have z := bn_ne c; have k1 : (10 : Int32).toInt = 10 := (by decide); omega)
        refine lv_iconst (v := (-1)) hx hb dX12_placeOf_84 (by decide) ?_
        have k99 : ((-1) : Int32).toInt = (-1) := (by decide)
        exact hret _ _ _ _ (-1) f L Q dX12_placeOf_85 hP hS ⟨⟨rfl, rfl, rfl⟩, (by decide), (by omega)⟩
      · skip
        have c_50 : x1.toInt = 10 := (by have z := Int32.toInt_inj.mpr c; have k1 : (10 : Int32).toInt = 10 := (by decide); omega)
        refine lv_iload_n hx hb dX12_placeOf_75 rfl (lv_at hl 1 rfl) ?_
        refine lv_if_ne (tgt := 84) hx hb dX12_placeOf_76 (by decide) (fun c => ?_) (fun c => ?_)
        · skip
          have c_51 : x0.toInt ≠ 0 := (by have z := bn_ne c; have k1 : (0 : Int32).toInt = 0 := (by decide); omega)
          refine lv_iconst (v := (-1)) hx hb dX12_placeOf_84 (by decide) ?_
          have k99 : ((-1) : Int32).toInt = (-1) := (by decide)
          exact hret _ _ _ _ (-1) f L Q dX12_placeOf_85 hP hS ⟨⟨rfl, rfl, rfl⟩, (by decide), (by omega)⟩
        · skip
          have c_52 : x0.toInt = 0 := (by have z := Int32.toInt_inj.mpr c; have k1 : (0 : Int32).toInt = 0 := (by decide); omega)
          refine lv_bipush (v := 70) hx hb dX12_placeOf_79 (by decide) ?_
          refine lv_goto (tgt := 85) hx hb dX12_placeOf_81 (by decide) ?_
          have k99 : (70 : Int32).toInt = 70 := (by decide)
          exact hret _ _ _ _ (70) f L Q dX12_placeOf_85 hP hS ⟨⟨rfl, rfl, rfl⟩, (by decide), (by omega)⟩

set_option maxHeartbeats 4000000 in
set_option maxRecDepth 100000 in
theorem kX12_mostOf (l : Launch) (D : va_G) (ca : Nat → ClassId) (za h : Nat → Nat) (hh : sgH 26 h) (f : sg_F) (L : sg_L) (Q : sg_Q) (hI : sgI loM hiM f) (x0 : Int32) (sz : Nat) : Met l yX12_mostOf gwX12_mostOf { frames := 0, cells := 0, slots := 0, locals := 0 } (sgP D vwCl (tyX ca) 26 h (eM ca h) zcM za f L Q sz [.int x0]) (sgQi D vwCl 26 h (eM ca h) sz (fun r f1 L1 Q1 => ((f1 = f ∧ L1 = L ∧ Q1 = Q) ∧ (3 ≤ r.toInt ∧ r.toInt ≤ 99) ∧ (x0.toInt = 10 ∨ r.toInt ≤ 60)))) 0 0 (sgA 26 h sz) := by
  refine sg_ofWi (cc := cX12_mostOf) (maxL := 1) RX12 (by decide) rfl rfl (Nat.le_of_ble_eq_true rfl) ?_
  intro p e s m below meth cd Qz ls hx hb hml hown hts hK hZ hP hS hl hret
  have hA := sgY.self (n := 26) (h := h) (sz := s.heap.size)
  have hl : lv_has ls 1 [(0, .int x0)] := hl
  obtain ⟨H, hH⟩ : ∃ z : Heap, z = s.heap := ⟨_, rfl⟩
  obtain ⟨locs, hlo⟩ : ∃ z : List Loc, z = [] := ⟨_, rfl⟩
  have hP : va_P D vwCl (sgw 26 h (eM ca h) f L Q) H := by rw [hH]; exact hP
  have hS : va_S (sgA 26 h s.heap.size) s.heap H locs := by rw [hH, hlo]; exact hS
  suffices hgo : W p l e ({ frames := 0, cells := 0, slots := 0, locals := 0 }) s m ([.int x0] : List Value).toArray below meth cd H locs 0 0 Qz (F0 m 0 ls []) by rw [hH, hlo] at hgo; exact hgo
  clear hH hlo
  refine lv_iload_n hx hb dX12_mostOf_0 rfl (lv_at hl 0 rfl) ?_
  rcases (show (x0.toInt ≠ 3 ∧ x0.toInt ≠ 4 ∧ x0.toInt ≠ 5 ∧ x0.toInt ≠ 7 ∧ x0.toInt ≠ 8 ∧ x0.toInt ≠ 9 ∧ x0.toInt ≠ 10) ∨ x0.toInt = 3 ∨ x0.toInt = 4 ∨ x0.toInt = 5 ∨ x0.toInt = 7 ∨ x0.toInt = 8 ∨ x0.toInt = 9 ∨ x0.toInt = 10 from by omega) with c | c | c | c | c | c | c | c
  · skip
    rcases (show (x0.toInt < 3 ∨ 10 < x0.toInt) ∨ x0.toInt = 6 from by omega) with c9 | c9
    · skip
      refine lv_tableOut (x := x0) (tgt := 59) hx hb dX12_mostOf_1 c9 (by decide) ?_
      refine lv_bipush (v := 60) hx hb dX12_mostOf_59 (by decide) ?_
      have k99 : (60 : Int32).toInt = 60 := (by decide)
      exact hret _ _ _ _ (60) f L Q dX12_mostOf_61 hP hS ⟨⟨rfl, rfl, rfl⟩, (by decide), (by omega)⟩
    · skip
      refine lv_tableIn (x := x0) (tgt := 59) hx hb dX12_mostOf_1 (by omega) (by omega) (by rw [c9]; rfl) (by decide) ?_
      refine lv_bipush (v := 60) hx hb dX12_mostOf_59 (by decide) ?_
      have k99 : (60 : Int32).toInt = 60 := (by decide)
      exact hret _ _ _ _ (60) f L Q dX12_mostOf_61 hP hS ⟨⟨rfl, rfl, rfl⟩, (by decide), (by omega)⟩
  · skip
    have c_1 := c
    refine lv_tableIn (x := x0) (tgt := 48) hx hb dX12_mostOf_1 (by omega) (by omega) (by rw [c]; rfl) (by decide) ?_
    refine lv_bipush (v := 9) hx hb dX12_mostOf_48 (by decide) ?_
    have k99 : (9 : Int32).toInt = 9 := (by decide)
    exact hret _ _ _ _ (9) f L Q dX12_mostOf_50 hP hS ⟨⟨rfl, rfl, rfl⟩, (by decide), (by omega)⟩
  · skip
    have c_2 := c
    refine lv_tableIn (x := x0) (tgt := 48) hx hb dX12_mostOf_1 (by omega) (by omega) (by rw [c]; rfl) (by decide) ?_
    refine lv_bipush (v := 9) hx hb dX12_mostOf_48 (by decide) ?_
    have k99 : (9 : Int32).toInt = 9 := (by decide)
    exact hret _ _ _ _ (9) f L Q dX12_mostOf_50 hP hS ⟨⟨rfl, rfl, rfl⟩, (by decide), (by omega)⟩
  · skip
    have c_3 := c
    refine lv_tableIn (x := x0) (tgt := 51) hx hb dX12_mostOf_1 (by omega) (by omega) (by rw [c]; rfl) (by decide) ?_
    refine lv_bipush (v := 12) hx hb dX12_mostOf_51 (by decide) ?_
    have k99 : (12 : Int32).toInt = 12 := (by decide)
    exact hret _ _ _ _ (12) f L Q dX12_mostOf_53 hP hS ⟨⟨rfl, rfl, rfl⟩, (by decide), (by omega)⟩
  · skip
    have c_4 := c
    refine lv_tableIn (x := x0) (tgt := 51) hx hb dX12_mostOf_1 (by omega) (by omega) (by rw [c]; rfl) (by decide) ?_
    refine lv_bipush (v := 12) hx hb dX12_mostOf_51 (by decide) ?_
    have k99 : (12 : Int32).toInt = 12 := (by decide)
    exact hret _ _ _ _ (12) f L Q dX12_mostOf_53 hP hS ⟨⟨rfl, rfl, rfl⟩, (by decide), (by omega)⟩
  · skip
    have c_5 := c
    refine lv_tableIn (x := x0) (tgt := 54) hx hb dX12_mostOf_1 (by omega) (by omega) (by rw [c]; rfl) (by decide) ?_
    refine lv_iconst (v := 3) hx hb dX12_mostOf_54 (by decide) ?_
    have k99 : (3 : Int32).toInt = 3 := (by decide)
    exact hret _ _ _ _ (3) f L Q dX12_mostOf_55 hP hS ⟨⟨rfl, rfl, rfl⟩, (by decide), (by omega)⟩
  · skip
    have c_6 := c
    refine lv_tableIn (x := x0) (tgt := 48) hx hb dX12_mostOf_1 (by omega) (by omega) (by rw [c]; rfl) (by decide) ?_
    refine lv_bipush (v := 9) hx hb dX12_mostOf_48 (by decide) ?_
    have k99 : (9 : Int32).toInt = 9 := (by decide)
    exact hret _ _ _ _ (9) f L Q dX12_mostOf_50 hP hS ⟨⟨rfl, rfl, rfl⟩, (by decide), (by omega)⟩
  · skip
    have c_7 := c
    refine lv_tableIn (x := x0) (tgt := 56) hx hb dX12_mostOf_1 (by omega) (by omega) (by rw [c]; rfl) (by decide) ?_
    refine lv_bipush (v := 99) hx hb dX12_mostOf_56 (by decide) ?_
    have k99 : (99 : Int32).toInt = 99 := (by decide)
    exact hret _ _ _ _ (99) f L Q dX12_mostOf_58 hP hS ⟨⟨rfl, rfl, rfl⟩, (by decide), (by omega)⟩

abbrev WkX12_becomes : List (Nat × Nat × Option Nat) := [(0, 0, some 4), (0, 0, some 5), (1, 1, none), (2, 2, none), (3, 3, none), (4, 4, none)]
set_option maxHeartbeats 4000000 in
set_option maxRecDepth 100000 in
theorem kX12_becomes (l : Launch) (D : va_G) (ca : Nat → ClassId) (za h : Nat → Nat) (hh : sgH 26 h) (f : sg_F) (L : sg_L) (Q : sg_Q) (hI : sgI loM hiM f) (hJ : JM f) (x0 : Int32) (x1 : Int32) (b0 : 0 ≤ x0.toInt ∧ x0.toInt ≤ 70) (b1 : 0 ≤ x1.toInt ∧ x1.toInt ≤ 99) (p0 : 64 ≤ x0.toInt ∨ x1.toInt ≤ 60) (sz : Nat) : Met l yX12_becomes gwX12_becomes { frames := 0, cells := 0, slots := 0, locals := 0 } (sgP D vwCl (tyX ca) 26 h (eM ca h) zcM za f L Q sz [.ref (h 0), .int x0, .int x1]) (sgQi D vwCl 26 h (eM ca h) sz (fun r f1 L1 Q1 => ((sgI loM hiM f1 ∧ sgK WkX12_becomes f f1 ∧ L1 = L ∧ Q1 = Q ∧ JM f1) ∧ (0 ≤ r.toInt ∧ r.toInt ≤ 99)))) 0 0 (sgA 26 h sz) := by
  refine sg_ofWi (cc := cX12_becomes) (maxL := 5) RX12 (by decide) rfl rfl (Nat.le_of_ble_eq_true rfl) ?_
  intro p e s m below meth cd Qz ls hx hb hml hown hts hK hZ hP hS hl hret
  have hA := sgY.self (n := 26) (h := h) (sz := s.heap.size)
  have hl : lv_has ls 5 [(0, .ref (h 0)), (1, .int x0), (2, .int x1)] := hl
  obtain ⟨H, hH⟩ : ∃ z : Heap, z = s.heap := ⟨_, rfl⟩
  obtain ⟨locs, hlo⟩ : ∃ z : List Loc, z = [] := ⟨_, rfl⟩
  have hP : va_P D vwCl (sgw 26 h (eM ca h) f L Q) H := by rw [hH]; exact hP
  have hS : va_S (sgA 26 h s.heap.size) s.heap H locs := by rw [hH, hlo]; exact hS
  suffices hgo : W p l e ({ frames := 0, cells := 0, slots := 0, locals := 0 }) s m ([.ref (h 0), .int x0, .int x1] : List Value).toArray below meth cd H locs 0 0 Qz (F0 m 0 ls []) by rw [hH, hlo] at hgo; exact hgo
  clear hH hlo
  have hF : sgK WkX12_becomes f f := sgK.rf
  have blk_97 : ∀ (y3_97 : Int32) (fp_97 : sg_F) (H : Heap) (locs : List Loc) (ls : Array Slot), 0 ≤ (fp_97 0 5).toInt ∧ (fp_97 0 5).toInt ≤ 39 → 0 ≤ y3_97.toInt ∧ y3_97.toInt ≤ 99 → 64 ≤ x0.toInt ∨ y3_97.toInt ≤ 60 → sgI loM hiM fp_97 → sgK WkX12_becomes f fp_97 → JM fp_97 → va_P D vwCl (sgw 26 h (eM ca h) fp_97 L Q) H → va_S (sgA 26 h s.heap.size) s.heap H locs → lv_has ls 5 [(0, .ref (h 0)), (1, .int x0), (2, .int x1), (3, .int y3_97)] → W p l e ({ frames := 0, cells := 0, slots := 0, locals := 0 }) s m ([.ref (h 0), .int x0, .int x1] : List Value).toArray below meth cd H locs 0 0 Qz (F0 m 97 ls []) := by
    intro y3_97 fp_97 H locs ls hy0_97 hy1_97 hg0_97 hI hF hJ hP hS hl
    obtain ⟨v_1, ev_1⟩ : ∃ z : Int32, z = fp_97 0 5 := ⟨_, rfl⟩
    have q_2 : 0 ≤ v_1.toInt ∧ v_1.toInt ≤ 40 := by rw [ev_1]; exact hI 0 5
    have q_3 : (fp_97 0 5).toInt = v_1.toInt := by rw [ev_1]
    refine lv_aload_n hx hb dX12_becomes_97 rfl (lv_at hl 0 rfl) ?_
    refine sg_get (ci := 12) (v := .ref (h 2)) (C := RX12) (T := TX12) (N := 55) hx hb hts (fun w h => List.mem_cons_of_mem _ (gx_12 w h)) hown hK hP 0 (by decide) rfl rfl 1 (by decide) (hts _ (List.mem_cons_of_mem _ mw_601)) (fun _ h9 => h9) rfl dX12_becomes_98 ?_
    refine lv_aload_n hx hb dX12_becomes_101 rfl (lv_at hl 0 rfl) ?_
    refine sg_get (ci := 12) (v := .int v_1) (C := RX12) (T := TX12) (N := 55) hx hb hts (fun w h => List.mem_cons_of_mem _ (gx_12 w h)) hown hK hP 0 (by decide) rfl rfl 5 (by decide) (hts _ (List.mem_cons_of_mem _ mw_599)) (fun _ h9 => h9) (congrArg (fun z => some (Value.int z)) (show fp_97 0 5 = v_1 from ev_1.symm)) dX12_becomes_102 ?_
    refine lv_iload_n hx hb dX12_becomes_105 rfl (lv_at hl 1 rfl) ?_
    refine sg_iast hx hb hh hA hK hP hS 2 (by decide) 0 (fun _ => rfl) rfl (i := v_1) (x := x0) (vp_in_iff.mpr ⟨by omega, by omega⟩) dX12_becomes_106 (fun f_4 H locs ef_4 hP hS => ?_)
    have hI : sgI loM hiM f_4 := by rw [ef_4]; exact sgI.put hI 2 v_1.toNatClampNeg (show 0 ≤ (x0 : Int32).toInt ∧ (x0 : Int32).toInt ≤ 70 from by omega)
    have hF : sgK WkX12_becomes f f_4 := sgK.put hF ef_4 (by rfl)
    refine lv_aload_n hx hb dX12_becomes_107 rfl (lv_at hl 0 rfl) ?_
    refine sg_get (ci := 12) (v := .ref (h 3)) (C := RX12) (T := TX12) (N := 55) hx hb hts (fun w h => List.mem_cons_of_mem _ (gx_12 w h)) hown hK hP 0 (by decide) rfl rfl 2 (by decide) (hts _ (List.mem_cons_of_mem _ mw_602)) (fun _ h9 => h9) rfl dX12_becomes_108 ?_
    refine lv_aload_n hx hb dX12_becomes_111 rfl (lv_at hl 0 rfl) ?_
    refine sg_get (ci := 12) (v := .int v_1) (C := RX12) (T := TX12) (N := 55) hx hb hts (fun w h => List.mem_cons_of_mem _ (gx_12 w h)) hown hK hP 0 (by decide) rfl rfl 5 (by decide) (hts _ (List.mem_cons_of_mem _ mw_599)) (fun _ h9 => h9) (congrArg (fun z => some (Value.int z)) (show f_4 0 5 = v_1 from (by rw [ef_4, sg_up_n (by decide)]; exact ev_1.symm))) dX12_becomes_112 ?_
    refine lv_iload_n hx hb dX12_becomes_115 rfl (lv_at hl 3 rfl) ?_
    refine sg_iast hx hb hh hA hK hP hS 3 (by decide) 0 (fun _ => rfl) rfl (i := v_1) (x := y3_97) (vp_in_iff.mpr ⟨by omega, by omega⟩) dX12_becomes_116 (fun f_5 H locs ef_5 hP hS => ?_)
    have hI : sgI loM hiM f_5 := by rw [ef_5]; exact sgI.put hI 3 v_1.toNatClampNeg (show 0 ≤ (y3_97 : Int32).toInt ∧ (y3_97 : Int32).toInt ≤ 99 from by omega)
    have hF : sgK WkX12_becomes f f_5 := sgK.put hF ef_5 (by rfl)
    refine lv_aload_n hx hb dX12_becomes_117 rfl (lv_at hl 0 rfl) ?_
    refine sg_get (ci := 12) (v := .ref (h 4)) (C := RX12) (T := TX12) (N := 55) hx hb hts (fun w h => List.mem_cons_of_mem _ (gx_12 w h)) hown hK hP 0 (by decide) rfl rfl 3 (by decide) (hts _ (List.mem_cons_of_mem _ mw_604)) (fun _ h9 => h9) rfl dX12_becomes_118 ?_
    refine lv_aload_n hx hb dX12_becomes_121 rfl (lv_at hl 0 rfl) ?_
    refine sg_get (ci := 12) (v := .int v_1) (C := RX12) (T := TX12) (N := 55) hx hb hts (fun w h => List.mem_cons_of_mem _ (gx_12 w h)) hown hK hP 0 (by decide) rfl rfl 5 (by decide) (hts _ (List.mem_cons_of_mem _ mw_599)) (fun _ h9 => h9) (congrArg (fun z => some (Value.int z)) (show f_5 0 5 = v_1 from (by rw [ef_5, sg_up_n (by decide)]; exact (by rw [ef_4, sg_up_n (by decide)]; exact ev_1.symm)))) dX12_becomes_122 ?_
    refine lv_iload_n hx hb dX12_becomes_125 rfl (lv_at hl 2 rfl) ?_
    refine sg_iast hx hb hh hA hK hP hS 4 (by decide) 0 (fun _ => rfl) rfl (i := v_1) (x := x1) (vp_in_iff.mpr ⟨by omega, by omega⟩) dX12_becomes_126 (fun f_6 H locs ef_6 hP hS => ?_)
    have hI : sgI loM hiM f_6 := by rw [ef_6]; exact sgI.put hI 4 v_1.toNatClampNeg (show 0 ≤ (x1 : Int32).toInt ∧ (x1 : Int32).toInt ≤ 99 from by omega)
    have hJ : JM f_6 := JM.three hJ ef_4 ef_5 ef_6 (by omega)
    have hF : sgK WkX12_becomes f f_6 := sgK.put hF ef_6 (by rfl)
    refine lv_aload_n hx hb dX12_becomes_127 rfl (lv_at hl 0 rfl) ?_
    refine lv_dup hx hb dX12_becomes_128 rfl ?_
    refine sg_get (ci := 12) (v := .int v_1) (C := RX12) (T := TX12) (N := 55) hx hb hts (fun w h => List.mem_cons_of_mem _ (gx_12 w h)) hown hK hP 0 (by decide) rfl rfl 5 (by decide) (hts _ (List.mem_cons_of_mem _ mw_599)) (fun _ h9 => h9) (congrArg (fun z => some (Value.int z)) (show f_6 0 5 = v_1 from (by rw [ef_6, sg_up_n (by decide)]; exact (by rw [ef_5, sg_up_n (by decide)]; exact (by rw [ef_4, sg_up_n (by decide)]; exact ev_1.symm))))) dX12_becomes_129 ?_
    refine lv_iconst (v := 1) hx hb dX12_becomes_132 (by decide) ?_
    refine lv_iadd hx hb dX12_becomes_133 ?_
    refine lv_topi (fun v_7 ev_7 => ?_)
    have q_8 : v_7.toInt = v_1.toInt + 1 := by rw [ev_7]; have k1 : (1 : Int32).toInt = 1 := (by decide); exact (bn_addI (by omega) (by omega)).trans (by omega)
    refine sg_put (ci := 12) (x := v_7) (ty := .int) (C := RX12) (T := TX12) (N := 55) hx hb hts (fun w h => List.mem_cons_of_mem _ (gx_12 w h)) tyX12 tyX12_ok nmX12 hown hh hA hK hP hS 0 (by decide) rfl rfl 5 (by decide) (hts _ (List.mem_cons_of_mem _ mw_599)) (fun _ h9 => h9) rfl rfl (by decide +kernel) rfl rfl (Nat.le_of_ble_eq_true rfl) dX12_becomes_134 (fun f_9 H locs ef_9 hP hS => ?_)
    have hI : sgI loM hiM f_9 := by rw [ef_9]; exact sgI.put hI 0 5 (show 0 ≤ (v_7 : Int32).toInt ∧ (v_7 : Int32).toInt ≤ 40 from by omega)
    have hF : sgK WkX12_becomes f f_9 := sgK.put hF ef_9 (by rfl)
    refine lv_aload_n hx hb dX12_becomes_137 rfl (lv_at hl 0 rfl) ?_
    refine lv_aload_n hx hb dX12_becomes_138 rfl (lv_at hl 0 rfl) ?_
    refine sg_get (ci := 12) (v := .int v_7) (C := RX12) (T := TX12) (N := 55) hx hb hts (fun w h => List.mem_cons_of_mem _ (gx_12 w h)) hown hK hP 0 (by decide) rfl rfl 5 (by decide) (hts _ (List.mem_cons_of_mem _ mw_599)) (fun _ h9 => h9) (congrArg (fun z => some (Value.int z)) (show f_9 0 5 = v_7 from (by rw [ef_9, sg_up_s, sgu_s]))) dX12_becomes_139 ?_
    refine sg_put (ci := 12) (x := v_7) (ty := .int) (C := RX12) (T := TX12) (N := 55) hx hb hts (fun w h => List.mem_cons_of_mem _ (gx_12 w h)) tyX12 tyX12_ok nmX12 hown hh hA hK hP hS 0 (by decide) rfl rfl 4 (by decide) (hts _ (List.mem_cons_of_mem _ mw_603)) (fun _ h9 => h9) rfl rfl (by decide +kernel) rfl rfl (Nat.le_of_ble_eq_true rfl) dX12_becomes_142 (fun f_10 H locs ef_10 hP hS => ?_)
    have hI : sgI loM hiM f_10 := by rw [ef_10]; exact sgI.put hI 0 4 (show 0 ≤ (v_7 : Int32).toInt ∧ (v_7 : Int32).toInt ≤ 40 from by omega)
    have hJ : JM f_10 := JM.dk hJ ef_9 ef_10 (by omega)
    have hF : sgK WkX12_becomes f f_10 := sgK.put hF ef_10 (by rfl)
    refine lv_aload_n hx hb dX12_becomes_145 rfl (lv_at hl 0 rfl) ?_
    refine sg_get (ci := 12) (v := .ref (h 1)) (C := RX12) (T := TX12) (N := 55) hx hb hts (fun w h => List.mem_cons_of_mem _ (gx_12 w h)) hown hK hP 0 (by decide) rfl rfl 0 (by decide) (hts _ (List.mem_cons_of_mem _ mw_600)) (fun _ h9 => h9) rfl dX12_becomes_146 ?_
    refine lv_iload_n hx hb dX12_becomes_149 rfl (lv_at hl 1 rfl) ?_
    refine lv_iload_n hx hb dX12_becomes_150 rfl (lv_at hl 2 rfl) ?_
    refine sg_iast hx hb hh hA hK hP hS 1 (by decide) 0 (fun _ => rfl) rfl (i := x0) (x := x1) (vp_in_iff.mpr ⟨by omega, by omega⟩) dX12_becomes_151 (fun f_11 H locs ef_11 hP hS => ?_)
    have hI : sgI loM hiM f_11 := by rw [ef_11]; exact sgI.put hI 1 x0.toNatClampNeg (segM1_w x1 (by have z := bn_clI (x := x0) (by omega); omega))
    have hJ : JM f_11 := JM.put hJ ef_11 (by decide)
    have hF : sgK WkX12_becomes f f_11 := sgK.put hF ef_11 (by rfl)
    refine lv_iload_n hx hb dX12_becomes_152 rfl (lv_at hl 3 rfl) ?_
    exact hret _ _ _ _ (y3_97) f_11 L Q dX12_becomes_153 hP hS ⟨⟨hI, hF, rfl, rfl, hJ⟩, (by omega)⟩
  have loop_26 : ∀ (n_26 : Nat) (y3_26 : Int32) (y4_26 : Int32) (fp_26 : sg_F) (H : Heap) (locs : List Loc) (ls : Array Slot), 40 - y4_26.toInt < (n_26 : Int) → 40 ≤ (fp_26 0 5).toInt ∧ (fp_26 0 5).toInt ≤ 40 → 0 ≤ y3_26.toInt ∧ y3_26.toInt ≤ 99 → 1 ≤ y4_26.toInt ∧ y4_26.toInt ≤ 40 → 64 ≤ x0.toInt ∨ y3_26.toInt ≤ 60 → sgI loM hiM fp_26 → sgK WkX12_becomes f fp_26 → JM fp_26 → va_P D vwCl (sgw 26 h (eM ca h) fp_26 L Q) H → va_S (sgA 26 h s.heap.size) s.heap H locs → lv_has ls 5 [(0, .ref (h 0)), (1, .int x0), (2, .int x1), (3, .int y3_26), (4, .int y4_26)] → W p l e ({ frames := 0, cells := 0, slots := 0, locals := 0 }) s m ([.ref (h 0), .int x0, .int x1] : List Value).toArray below meth cd H locs 0 0 Qz (F0 m 26 ls []) := by
    intro n_26
    induction n_26 with
    | zero => intro y3_26 y4_26 fp_26 H locs ls hm_26 hy0_26 hy1_26 hy2_26 hg0_26 hI hF hJ hP hS hl; exact absurd hm_26 (by omega)
    | succ n_26 ih_26 =>
      intro y3_26 y4_26 fp_26 H locs ls hm_26 hy0_26 hy1_26 hy2_26 hg0_26 hI hF hJ hP hS hl
      obtain ⟨v_12, ev_12⟩ : ∃ z : Int32, z = fp_26 0 5 := ⟨_, rfl⟩
      have q_13 : 0 ≤ v_12.toInt ∧ v_12.toInt ≤ 40 := by rw [ev_12]; exact hI 0 5
      have q_14 : (fp_26 0 5).toInt = v_12.toInt := by rw [ev_12]
      refine lv_iload hx hb dX12_becomes_26 (lv_at hl 4 rfl) ?_
      refine lv_bipush (v := 40) hx hb dX12_becomes_28 (by decide) ?_
      refine lv_icmp_ge (tgt := 87) hx hb dX12_becomes_30 (by decide) (fun c => ?_) (fun c => ?_)
      · skip
        have c_15 : 40 ≤ y4_26.toInt := (by have z := bn_le c; have k1 : (40 : Int32).toInt = 40 := (by decide); omega)
        refine lv_aload_n hx hb dX12_becomes_87 rfl (lv_at hl 0 rfl) ?_
        refine lv_dup hx hb dX12_becomes_88 rfl ?_
        refine sg_get (ci := 12) (v := .int v_12) (C := RX12) (T := TX12) (N := 55) hx hb hts (fun w h => List.mem_cons_of_mem _ (gx_12 w h)) hown hK hP 0 (by decide) rfl rfl 5 (by decide) (hts _ (List.mem_cons_of_mem _ mw_599)) (fun _ h9 => h9) (congrArg (fun z => some (Value.int z)) (show fp_26 0 5 = v_12 from ev_12.symm)) dX12_becomes_89 ?_
        refine lv_iconst (v := 1) hx hb dX12_becomes_92 (by decide) ?_
        refine lv_isub hx hb dX12_becomes_93 ?_
        refine lv_topi (fun v_17 ev_17 => ?_)
        have q_18 : v_17.toInt = v_12.toInt - 1 := by rw [ev_17]; have k1 : (1 : Int32).toInt = 1 := (by decide); exact (bn_subI (by omega) (by omega)).trans (by omega)
        obtain ⟨v_20, ev_20⟩ : ∃ z : Int32, z = fp_26 0 4 := ⟨_, rfl⟩
        have q_21 : 0 ≤ v_20.toInt ∧ v_20.toInt ≤ 40 := by rw [ev_20]; exact hI 0 4
        have z_19 : (fp_26 0 5).toInt = v_12.toInt := (congrArg Int32.toInt (show fp_26 0 5 = v_12 from ev_12.symm))
        have z_22 : (fp_26 0 4).toInt = v_20.toInt := (congrArg Int32.toInt (show fp_26 0 4 = v_20 from ev_20.symm))
        have zJ2 := hJ.2
        refine sg_put (ci := 12) (x := v_17) (ty := .int) (C := RX12) (T := TX12) (N := 55) hx hb hts (fun w h => List.mem_cons_of_mem _ (gx_12 w h)) tyX12 tyX12_ok nmX12 hown hh hA hK hP hS 0 (by decide) rfl rfl 5 (by decide) (hts _ (List.mem_cons_of_mem _ mw_599)) (fun _ h9 => h9) rfl rfl (by decide +kernel) rfl rfl (Nat.le_of_ble_eq_true rfl) dX12_becomes_94 (fun f_23 H locs ef_23 hP hS => ?_)
        have hI : sgI loM hiM f_23 := by rw [ef_23]; exact sgI.put hI 0 5 (show 0 ≤ (v_17 : Int32).toInt ∧ (v_17 : Int32).toInt ≤ 40 from by omega)
        have hJ : JM f_23 := JM.dn hJ ef_23 (by omega)
        have hF : sgK WkX12_becomes f f_23 := sgK.put hF ef_23 (by rfl)
        exact blk_97 y3_26 f_23 _ _ _ (by have zz0_5 : (f_23 0 5).toInt = v_17.toInt := (congrArg Int32.toInt (show f_23 0 5 = v_17 from (by rw [ef_23, sg_up_s, sgu_s]))); omega) (by omega) (by omega) hI hF hJ hP hS (lv_sub hl [0, 1, 2, 3] rfl)
      · skip
        have c_16 : y4_26.toInt < 40 := (by have z := bn_nle c; have k1 : (40 : Int32).toInt = 40 := (by decide); omega)
        refine lv_aload_n hx hb dX12_becomes_33 rfl (lv_at hl 0 rfl) ?_
        refine sg_get (ci := 12) (v := .ref (h 2)) (C := RX12) (T := TX12) (N := 55) hx hb hts (fun w h => List.mem_cons_of_mem _ (gx_12 w h)) hown hK hP 0 (by decide) rfl rfl 1 (by decide) (hts _ (List.mem_cons_of_mem _ mw_601)) (fun _ h9 => h9) rfl dX12_becomes_34 ?_
        refine lv_iload hx hb dX12_becomes_37 (lv_at hl 4 rfl) ?_
        refine lv_iconst (v := 1) hx hb dX12_becomes_39 (by decide) ?_
        refine lv_isub hx hb dX12_becomes_40 ?_
        refine lv_topi (fun v_24 ev_24 => ?_)
        have q_25 : v_24.toInt = y4_26.toInt - 1 := by rw [ev_24]; have k1 : (1 : Int32).toInt = 1 := (by decide); exact (bn_subI (by omega) (by omega)).trans (by omega)
        refine lv_aload_n hx hb dX12_becomes_41 rfl (lv_at hl 0 rfl) ?_
        refine sg_get (ci := 12) (v := .ref (h 2)) (C := RX12) (T := TX12) (N := 55) hx hb hts (fun w h => List.mem_cons_of_mem _ (gx_12 w h)) hown hK hP 0 (by decide) rfl rfl 1 (by decide) (hts _ (List.mem_cons_of_mem _ mw_601)) (fun _ h9 => h9) rfl dX12_becomes_42 ?_
        refine lv_iload hx hb dX12_becomes_45 (lv_at hl 4 rfl) ?_
        refine sg_iald hx hb hK hP 2 (by decide) 0 rfl rfl (i := y4_26) (vp_in_iff.mpr ⟨by omega, by omega⟩) dX12_becomes_47 ?_
        refine lv_topi (fun v_26 ev_26 => ?_)
        have q_27 : 0 ≤ v_26.toInt ∧ v_26.toInt ≤ 70 := by rw [ev_26]; exact hI 2 _
        refine sg_iast hx hb hh hA hK hP hS 2 (by decide) 0 (fun _ => rfl) rfl (i := v_24) (x := v_26) (vp_in_iff.mpr ⟨by omega, by omega⟩) dX12_becomes_48 (fun f_28 H locs ef_28 hP hS => ?_)
        have hI : sgI loM hiM f_28 := by rw [ef_28]; exact sgI.put hI 2 v_24.toNatClampNeg (show 0 ≤ (v_26 : Int32).toInt ∧ (v_26 : Int32).toInt ≤ 70 from by omega)
        have hF : sgK WkX12_becomes f f_28 := sgK.put hF ef_28 (by rfl)
        refine lv_aload_n hx hb dX12_becomes_49 rfl (lv_at hl 0 rfl) ?_
        refine sg_get (ci := 12) (v := .ref (h 3)) (C := RX12) (T := TX12) (N := 55) hx hb hts (fun w h => List.mem_cons_of_mem _ (gx_12 w h)) hown hK hP 0 (by decide) rfl rfl 2 (by decide) (hts _ (List.mem_cons_of_mem _ mw_602)) (fun _ h9 => h9) rfl dX12_becomes_50 ?_
        refine lv_iload hx hb dX12_becomes_53 (lv_at hl 4 rfl) ?_
        refine lv_iconst (v := 1) hx hb dX12_becomes_55 (by decide) ?_
        refine lv_isub hx hb dX12_becomes_56 ?_
        rw [← ev_24]
        refine lv_aload_n hx hb dX12_becomes_57 rfl (lv_at hl 0 rfl) ?_
        refine sg_get (ci := 12) (v := .ref (h 3)) (C := RX12) (T := TX12) (N := 55) hx hb hts (fun w h => List.mem_cons_of_mem _ (gx_12 w h)) hown hK hP 0 (by decide) rfl rfl 2 (by decide) (hts _ (List.mem_cons_of_mem _ mw_602)) (fun _ h9 => h9) rfl dX12_becomes_58 ?_
        refine lv_iload hx hb dX12_becomes_61 (lv_at hl 4 rfl) ?_
        refine sg_iald hx hb hK hP 3 (by decide) 0 rfl rfl (i := y4_26) (vp_in_iff.mpr ⟨by omega, by omega⟩) dX12_becomes_63 ?_
        refine lv_topi (fun v_29 ev_29 => ?_)
        have q_30 : 0 ≤ v_29.toInt ∧ v_29.toInt ≤ 99 := by rw [ev_29]; exact hI 3 _
        refine sg_iast hx hb hh hA hK hP hS 3 (by decide) 0 (fun _ => rfl) rfl (i := v_24) (x := v_29) (vp_in_iff.mpr ⟨by omega, by omega⟩) dX12_becomes_64 (fun f_31 H locs ef_31 hP hS => ?_)
        have hI : sgI loM hiM f_31 := by rw [ef_31]; exact sgI.put hI 3 v_24.toNatClampNeg (show 0 ≤ (v_29 : Int32).toInt ∧ (v_29 : Int32).toInt ≤ 99 from by omega)
        have hF : sgK WkX12_becomes f f_31 := sgK.put hF ef_31 (by rfl)
        refine lv_aload_n hx hb dX12_becomes_65 rfl (lv_at hl 0 rfl) ?_
        refine sg_get (ci := 12) (v := .ref (h 4)) (C := RX12) (T := TX12) (N := 55) hx hb hts (fun w h => List.mem_cons_of_mem _ (gx_12 w h)) hown hK hP 0 (by decide) rfl rfl 3 (by decide) (hts _ (List.mem_cons_of_mem _ mw_604)) (fun _ h9 => h9) rfl dX12_becomes_66 ?_
        refine lv_iload hx hb dX12_becomes_69 (lv_at hl 4 rfl) ?_
        refine lv_iconst (v := 1) hx hb dX12_becomes_71 (by decide) ?_
        refine lv_isub hx hb dX12_becomes_72 ?_
        rw [← ev_24]
        refine lv_aload_n hx hb dX12_becomes_73 rfl (lv_at hl 0 rfl) ?_
        refine sg_get (ci := 12) (v := .ref (h 4)) (C := RX12) (T := TX12) (N := 55) hx hb hts (fun w h => List.mem_cons_of_mem _ (gx_12 w h)) hown hK hP 0 (by decide) rfl rfl 3 (by decide) (hts _ (List.mem_cons_of_mem _ mw_604)) (fun _ h9 => h9) rfl dX12_becomes_74 ?_
        refine lv_iload hx hb dX12_becomes_77 (lv_at hl 4 rfl) ?_
        refine sg_iald hx hb hK hP 4 (by decide) 0 rfl rfl (i := y4_26) (vp_in_iff.mpr ⟨by omega, by omega⟩) dX12_becomes_79 ?_
        refine lv_topi (fun v_32 ev_32 => ?_)
        have q_33 : 0 ≤ v_32.toInt ∧ v_32.toInt ≤ 99 := by rw [ev_32]; exact hI 4 _
        refine sg_iast hx hb hh hA hK hP hS 4 (by decide) 0 (fun _ => rfl) rfl (i := v_24) (x := v_32) (vp_in_iff.mpr ⟨by omega, by omega⟩) dX12_becomes_80 (fun f_34 H locs ef_34 hP hS => ?_)
        have hI : sgI loM hiM f_34 := by rw [ef_34]; exact sgI.put hI 4 v_24.toNatClampNeg (show 0 ≤ (v_32 : Int32).toInt ∧ (v_32 : Int32).toInt ≤ 99 from by omega)
        have hJ : JM f_34 := JM.shift hJ ef_28 ef_31 ef_34 ev_26 ev_29 ev_32
        have hF : sgK WkX12_becomes f f_34 := sgK.put hF ef_34 (by rfl)
        obtain ⟨v_35, ev_35⟩ : ∃ z : Int32, z = y4_26 + 1 := ⟨_, rfl⟩
        have q_36 : v_35.toInt = y4_26.toInt + 1 := by rw [ev_35]; exact (bn_addc y4_26 1 (by decide) (by omega) (by omega))
        refine lv_iinc (v := v_35) (lv' := [(4, .int v_35), (0, .ref (h 0)), (1, .int x0), (2, .int x1), (3, .int y3_26)]) hx hb dX12_becomes_81 hl (k := 4) rfl (by rw [ev_35]; rfl) (by decide) rfl (fun ls hl => ?_)
        refine lv_goto (tgt := 26) hx hb dX12_becomes_84 (by decide) ?_
        exact ih_26 y3_26 v_35 f_34 _ _ _ (by omega) (by have zz0_5 : (f_34 0 5).toInt = v_12.toInt := (congrArg Int32.toInt (show f_34 0 5 = v_12 from (by rw [ef_34, sg_up_n (by decide)]; exact (by rw [ef_31, sg_up_n (by decide)]; exact (by rw [ef_28, sg_up_n (by decide)]; exact ev_12.symm))))); omega) (by omega) (by omega) (by omega) hI hF hJ hP hS (lv_sub hl [1, 2, 3, 4, 0] rfl)
  refine lv_aload_n hx hb dX12_becomes_0 rfl (lv_at hl 0 rfl) ?_
  refine sg_get (ci := 12) (v := .ref (h 1)) (C := RX12) (T := TX12) (N := 55) hx hb hts (fun w h => List.mem_cons_of_mem _ (gx_12 w h)) hown hK hP 0 (by decide) rfl rfl 0 (by decide) (hts _ (List.mem_cons_of_mem _ mw_600)) (fun _ h9 => h9) rfl dX12_becomes_1 ?_
  refine lv_iload_n hx hb dX12_becomes_4 rfl (lv_at hl 1 rfl) ?_
  refine sg_iald hx hb hK hP 1 (by decide) 0 rfl rfl (i := x0) (vp_in_iff.mpr ⟨by omega, by omega⟩) dX12_becomes_5 ?_
  refine lv_topi (fun v_37 ev_37 => ?_)
  have q_38 : x0.toInt < 64 → v_37.toInt ≤ 60 := by rw [ev_37]; have z1 := segM1_r hI (j := Int32.toNatClampNeg x0); have z2 := bn_clI (x := x0) (by omega); intro z3; exact (z1.2.2 (by omega)).2
  have q_39 : 0 ≤ v_37.toInt ∧ v_37.toInt ≤ 99 := by rw [ev_37]; have z1 := segM1_r hI (j := Int32.toNatClampNeg x0); have z2 := bn_clI (x := x0) (by omega); omega
  refine lv_istore_n (lv' := [(3, .int v_37), (0, .ref (h 0)), (1, .int x0), (2, .int x1)]) hx hb dX12_becomes_6 rfl hl (by decide) rfl (fun ls hl => ?_)
  refine lv_iload_n hx hb dX12_becomes_7 rfl (lv_at hl 0 rfl) ?_
  refine lv_iload_n hx hb dX12_becomes_8 rfl (lv_at hl 3 rfl) ?_
  refine lv_icmp_ne (tgt := 14) hx hb dX12_becomes_9 (by decide) (fun c => ?_) (fun c => ?_)
  · skip
    have c_40 : v_37.toInt ≠ x1.toInt := (by have z := bn_ne c; omega)
    refine lv_aload_n hx hb dX12_becomes_14 rfl (lv_at hl 1 rfl) ?_
    refine sg_get (ci := 12) (v := .int (f 0 5)) (C := RX12) (T := TX12) (N := 55) hx hb hts (fun w h => List.mem_cons_of_mem _ (gx_12 w h)) hown hK hP 0 (by decide) rfl rfl 5 (by decide) (hts _ (List.mem_cons_of_mem _ mw_599)) (fun _ h9 => h9) rfl dX12_becomes_15 ?_
    refine lv_topi (fun v_42 ev_42 => ?_)
    have q_43 : 0 ≤ v_42.toInt ∧ v_42.toInt ≤ 40 := by rw [ev_42]; exact hI 0 5
    refine lv_bipush (v := 40) hx hb dX12_becomes_18 (by decide) ?_
    refine lv_icmp_ne (tgt := 97) hx hb dX12_becomes_20 (by decide) (fun c => ?_) (fun c => ?_)
    · skip
      have c_44 : v_42.toInt ≠ 40 := (by have z := bn_ne c; have k1 : (40 : Int32).toInt = 40 := (by decide); omega)
      exact blk_97 v_37 f _ _ _ (by have zz0_5 : (f 0 5).toInt = v_42.toInt := (congrArg Int32.toInt (show f 0 5 = v_42 from ev_42.symm)); omega) (by omega) (by omega) hI hF hJ hP hS (lv_sub hl [1, 2, 3, 0] rfl)
    · skip
      have c_45 : v_42.toInt = 40 := (by have z := Int32.toInt_inj.mpr c; have k1 : (40 : Int32).toInt = 40 := (by decide); omega)
      refine lv_iconst (v := 1) hx hb dX12_becomes_23 (by decide) ?_
      refine lv_istore (lv' := [(4, .int 1), (3, .int v_37), (0, .ref (h 0)), (1, .int x0), (2, .int x1)]) hx hb dX12_becomes_24 hl (by decide) rfl (fun ls hl => ?_)
      exact loop_26 40 v_37 1 f _ _ _ (by have kc1 : (1 : Int32).toInt = 1 := (by decide); omega) (by have zz0_5 : (f 0 5).toInt = v_42.toInt := (congrArg Int32.toInt (show f 0 5 = v_42 from ev_42.symm)); omega) (by omega) (by decide) (by have kc1 : (1 : Int32).toInt = 1 := (by decide); omega) hI hF hJ hP hS (lv_sub hl [2, 3, 4, 1, 0] rfl)
  · skip
    have c_41 : v_37.toInt = x1.toInt := (by have z := Int32.toInt_inj.mpr c; omega)
    refine lv_iload_n hx hb dX12_becomes_12 rfl (lv_at hl 0 rfl) ?_
    exact hret _ _ _ _ (v_37) f L Q dX12_becomes_13 hP hS ⟨⟨hI, hF, rfl, rfl, hJ⟩, (by omega)⟩

abbrev WkX12_mend : List (Nat × Nat × Option Nat) := [(0, 0, some 4), (0, 0, some 5), (1, 1, none), (2, 2, none), (3, 3, none), (4, 4, none)]
set_option maxHeartbeats 4000000 in
set_option maxRecDepth 100000 in
theorem kX12_mend (l : Launch) (D : va_G) (ca : Nat → ClassId) (za h : Nat → Nat) (hh : sgH 26 h) (f : sg_F) (L : sg_L) (Q : sg_Q) (hI : sgI loM hiM f) (hJ : JM f) (x0 : Int32) (x1 : Int32) (x2 : Int32) (sz : Nat) : Met l yX12_mend gwX12_mend { frames := 3, cells := 0, slots := 0, locals := 69 } (sgP D vwCl (tyX ca) 26 h (eM ca h) zcM za f L Q sz [.ref (h 0), .int x0, .int x1, .int x2]) (sgQi D vwCl 26 h (eM ca h) sz (fun r f1 L1 Q1 => ((sgI loM hiM f1 ∧ sgK WkX12_mend f f1 ∧ L1 = L ∧ Q1 = Q ∧ JM f1) ∧ ((-1) ≤ r.toInt ∧ r.toInt ≤ 99)))) 0 0 (sgA 26 h sz) := by
  refine sg_ofWi (cc := cX12_mend) (maxL := 5) RX12 (by decide) rfl rfl (Nat.le_of_ble_eq_true rfl) ?_
  intro p e s m below meth cd Qz ls hx hb hml hown hts hK hZ hP hS hl hret
  have hA := sgY.self (n := 26) (h := h) (sz := s.heap.size)
  have hl : lv_has ls 5 [(0, .ref (h 0)), (1, .int x0), (2, .int x1), (3, .int x2)] := hl
  obtain ⟨H, hH⟩ : ∃ z : Heap, z = s.heap := ⟨_, rfl⟩
  obtain ⟨locs, hlo⟩ : ∃ z : List Loc, z = [] := ⟨_, rfl⟩
  have hP : va_P D vwCl (sgw 26 h (eM ca h) f L Q) H := by rw [hH]; exact hP
  have hS : va_S (sgA 26 h s.heap.size) s.heap H locs := by rw [hH, hlo]; exact hS
  suffices hgo : W p l e ({ frames := 3, cells := 0, slots := 0, locals := 69 }) s m ([.ref (h 0), .int x0, .int x1, .int x2] : List Value).toArray below meth cd H locs 0 0 Qz (F0 m 0 ls []) by rw [hH, hlo] at hgo; exact hgo
  clear hH hlo
  have hF : sgK WkX12_mend f f := sgK.rf
  refine lv_aload_n hx hb dX12_mend_0 rfl (lv_at hl 0 rfl) ?_
  refine lv_iload_n hx hb dX12_mend_1 rfl (lv_at hl 1 rfl) ?_
  refine lv_iload_n hx hb dX12_mend_2 rfl (lv_at hl 2 rfl) ?_
  refine sg_calli (va_runV (As := [.int x0, .int x1]) (rest := []) ⟨hx, hb, hml, hown, hts⟩ (kX12_placeOf l D ca za h hh f L Q hI x0 x1 H.size) (cwV 2 hts (gw_V (fun _ h => List.mem_cons_of_mem _ h) mw_657 mw_658 mw_659 mw_619 mw_656) rfl rfl rfl (by decide +kernel) ⟨Nat.le_of_ble_eq_true rfl, Nat.le_of_ble_eq_true rfl⟩) (sg_preV (ci := 12) (C := RX12) (T := TX12) (N := 55) hA hK hP hS hZ 0 (by decide) rfl rfl) rfl rfl hl.1 rfl (lv_room (Nat.le_of_ble_eq_true rfl)) dX12_mend_3 ⟨Nat.le_refl _, Nat.le_refl _⟩) hA hS (fun r_4 f_1 L_2 Q_3 H locs hq hP hS => ?_)
  obtain ⟨⟨ef9, eL9, eQ9⟩, hq, p_5⟩ := hq
  rw [ef9, eL9, eQ9] at hP; clear ef9 eL9 eQ9
  refine lv_istore (lv' := [(4, .int r_4), (0, .ref (h 0)), (1, .int x0), (2, .int x1), (3, .int x2)]) hx hb dX12_mend_6 hl (by decide) rfl (fun ls hl => ?_)
  refine lv_iload hx hb dX12_mend_8 (lv_at hl 0 rfl) ?_
  refine lv_if_lt (tgt := 46) hx hb dX12_mend_10 (by decide) (fun c => ?_) (fun c => ?_)
  · skip
    have c_6 : r_4.toInt < 0 := (by have z := bn_lt c; have k1 : (0 : Int32).toInt = 0 := (by decide); omega)
    refine lv_iconst (v := (-1)) hx hb dX12_mend_46 (by decide) ?_
    have k99 : ((-1) : Int32).toInt = (-1) := (by decide)
    exact hret _ _ _ _ (-1) f L Q dX12_mend_47 hP hS ⟨⟨hI, hF, rfl, rfl, hJ⟩, (by decide)⟩
  · skip
    have c_7 : 0 ≤ r_4.toInt := (by have z := bn_nlt c; have k1 : (0 : Int32).toInt = 0 := (by decide); omega)
    refine lv_iload_n hx hb dX12_mend_13 rfl (lv_at hl 4 rfl) ?_
    obtain ⟨w_8, ew_8⟩ : ∃ z : Int64, z = Int32.toInt64 x2 := ⟨_, rfl⟩
    have q_9 : w_8.toInt = x2.toInt := by rw [ew_8]; exact Int32.toInt_toInt64 _
    refine lv_i2l (v := w_8) hx hb dX12_mend_14 ew_8.symm ?_
    refine lv_iload_n hx hb dX12_mend_15 rfl (lv_at hl 3 rfl) ?_
    refine lv_iconst (v := 5) hx hb dX12_mend_16 (by decide) ?_
    refine lv_icmp_ne (tgt := 24) hx hb dX12_mend_17 (by decide) (fun c => ?_) (fun c => ?_)
    · skip
      have c_10 : x1.toInt ≠ 5 := (by have z := bn_ne c; have k1 : (5 : Int32).toInt = 5 := (by decide); omega)
      refine lv_lconst (v := 0) hx hb dX12_mend_24 (by decide) ?_
      refine lv_iload_n hx hb dX12_mend_25 rfl (lv_at hl 3 rfl) ?_
      refine sg_calli (va_runS (As := [.int x1]) (rest := [.long 0, .long w_8]) ⟨hx, hb, hml, hown, hts⟩ (kX12_mostOf l D ca za h hh f L Q hI x1 H.size) (va_cwS 1 hts (gw_S (fun _ h => List.mem_cons_of_mem _ h) mw_699 mw_700 mw_619 mw_698) rfl rfl rfl (by decide +kernel) ⟨Nat.le_of_ble_eq_true rfl, Nat.le_of_ble_eq_true rfl⟩) (sg_preS hA hK hP hS hZ) rfl rfl hl.1 rfl (lv_room (Nat.le_of_ble_eq_true rfl)) dX12_mend_26 ⟨Nat.le_refl _, Nat.le_refl _⟩) hA hS (fun r_15 f_12 L_13 Q_14 H locs hq hP hS => ?_)
      obtain ⟨⟨ef9, eL9, eQ9⟩, hq, p_16⟩ := hq
      rw [ef9, eL9, eQ9] at hP; clear ef9 eL9 eQ9
      obtain ⟨w_17, ew_17⟩ : ∃ z : Int64, z = Int32.toInt64 r_15 := ⟨_, rfl⟩
      have q_18 : w_17.toInt = r_15.toInt := by rw [ew_17]; exact Int32.toInt_toInt64 _
      refine lv_i2l (v := w_17) hx hb dX12_mend_29 ew_17.symm ?_
      refine sg_calli (va_runS (As := [.long w_8, .long 0, .long w_17]) (rest := []) ⟨hx, hb, hml, hown, hts⟩ (kX12_within l D ca za h hh f L Q hI w_8 0 w_17 H.size) (va_cwS 3 hts (gw_S (fun _ h => List.mem_cons_of_mem _ h) mw_631 mw_632 mw_619 mw_630) rfl rfl rfl (by decide +kernel) ⟨Nat.le_of_ble_eq_true rfl, Nat.le_of_ble_eq_true rfl⟩) (sg_preS hA hK hP hS hZ) rfl rfl hl.1 rfl (lv_room (Nat.le_of_ble_eq_true rfl)) dX12_mend_30 ⟨Nat.le_refl _, Nat.le_refl _⟩) hA hS (fun r_22 f_19 L_20 Q_21 H locs hq hP hS => ?_)
      obtain ⟨⟨ef9, eL9, eQ9⟩, hq⟩ := hq
      rw [ef9, eL9, eQ9] at hP; clear ef9 eL9 eQ9
      have k_23 : (0 : Int64).toInt = 0 := by decide
      rcases hq with ⟨rfl, hq⟩ | ⟨rfl, hq⟩
      · skip
        have q_24 := hq
        refine lv_if_eq (tgt := 46) hx hb dX12_mend_33 (by decide) (fun c => absurd c (by decide)) (fun c => ?_)
        refine lv_aload_n hx hb dX12_mend_36 rfl (lv_at hl 1 rfl) ?_
        refine lv_iload hx hb dX12_mend_37 (lv_at hl 0 rfl) ?_
        refine lv_iload_n hx hb dX12_mend_39 rfl (lv_at hl 4 rfl) ?_
        refine sg_calli (va_runV (As := [.int r_4, .int x2]) (rest := []) ⟨hx, hb, hml, hown, hts⟩ (kX12_becomes l D ca za h hh f L Q hI hJ r_4 x2 (by omega) (by omega) (by omega) H.size) (cwV 2 hts (gw_V (fun _ h => List.mem_cons_of_mem _ h) mw_779 mw_780 mw_781 mw_619 mw_778) rfl rfl rfl (by decide +kernel) ⟨Nat.le_of_ble_eq_true rfl, Nat.le_of_ble_eq_true rfl⟩) (sg_preV (ci := 12) (C := RX12) (T := TX12) (N := 55) hA hK hP hS hZ 0 (by decide) rfl rfl) rfl rfl hl.1 rfl (lv_room (Nat.le_of_ble_eq_true rfl)) dX12_mend_40 ⟨Nat.le_refl _, Nat.le_refl _⟩) hA hS (fun r_28 f_25 L_26 Q_27 H locs hq hP hS => ?_)
        obtain ⟨⟨hI, hk_f_25, eL9, eQ9, hJ⟩, hq⟩ := hq
        rw [eL9, eQ9] at hP; clear eL9 eQ9
        have hF : sgK WkX12_mend f f_25 := sgK.tr hF hk_f_25 (by decide)
        refine lv_goto (tgt := 47) hx hb dX12_mend_43 (by decide) ?_
        exact hret _ _ _ _ (r_28) f_25 L Q dX12_mend_47 hP hS ⟨⟨hI, hF, rfl, rfl, hJ⟩, (by omega)⟩
      · skip
        have q_29 := hq
        refine lv_if_eq (tgt := 46) hx hb dX12_mend_33 (by decide) (fun c => ?_) (fun c => absurd c (by decide))
        refine lv_iconst (v := (-1)) hx hb dX12_mend_46 (by decide) ?_
        have k99 : ((-1) : Int32).toInt = (-1) := (by decide)
        exact hret _ _ _ _ (-1) f L Q dX12_mend_47 hP hS ⟨⟨hI, hF, rfl, rfl, hJ⟩, (by decide)⟩
    · skip
      have c_11 : x1.toInt = 5 := (by have z := Int32.toInt_inj.mpr c; have k1 : (5 : Int32).toInt = 5 := (by decide); omega)
      refine lv_lconst (v := 1) hx hb dX12_mend_20 (by decide) ?_
      refine lv_goto (tgt := 25) hx hb dX12_mend_21 (by decide) ?_
      refine lv_iload_n hx hb dX12_mend_25 rfl (lv_at hl 3 rfl) ?_
      refine sg_calli (va_runS (As := [.int x1]) (rest := [.long 1, .long w_8]) ⟨hx, hb, hml, hown, hts⟩ (kX12_mostOf l D ca za h hh f L Q hI x1 H.size) (va_cwS 1 hts (gw_S (fun _ h => List.mem_cons_of_mem _ h) mw_699 mw_700 mw_619 mw_698) rfl rfl rfl (by decide +kernel) ⟨Nat.le_of_ble_eq_true rfl, Nat.le_of_ble_eq_true rfl⟩) (sg_preS hA hK hP hS hZ) rfl rfl hl.1 rfl (lv_room (Nat.le_of_ble_eq_true rfl)) dX12_mend_26 ⟨Nat.le_refl _, Nat.le_refl _⟩) hA hS (fun r_33 f_30 L_31 Q_32 H locs hq hP hS => ?_)
      obtain ⟨⟨ef9, eL9, eQ9⟩, hq, p_34⟩ := hq
      rw [ef9, eL9, eQ9] at hP; clear ef9 eL9 eQ9
      obtain ⟨w_35, ew_35⟩ : ∃ z : Int64, z = Int32.toInt64 r_33 := ⟨_, rfl⟩
      have q_36 : w_35.toInt = r_33.toInt := by rw [ew_35]; exact Int32.toInt_toInt64 _
      refine lv_i2l (v := w_35) hx hb dX12_mend_29 ew_35.symm ?_
      refine sg_calli (va_runS (As := [.long w_8, .long 1, .long w_35]) (rest := []) ⟨hx, hb, hml, hown, hts⟩ (kX12_within l D ca za h hh f L Q hI w_8 1 w_35 H.size) (va_cwS 3 hts (gw_S (fun _ h => List.mem_cons_of_mem _ h) mw_631 mw_632 mw_619 mw_630) rfl rfl rfl (by decide +kernel) ⟨Nat.le_of_ble_eq_true rfl, Nat.le_of_ble_eq_true rfl⟩) (sg_preS hA hK hP hS hZ) rfl rfl hl.1 rfl (lv_room (Nat.le_of_ble_eq_true rfl)) dX12_mend_30 ⟨Nat.le_refl _, Nat.le_refl _⟩) hA hS (fun r_40 f_37 L_38 Q_39 H locs hq hP hS => ?_)
      obtain ⟨⟨ef9, eL9, eQ9⟩, hq⟩ := hq
      rw [ef9, eL9, eQ9] at hP; clear ef9 eL9 eQ9
      have k_41 : (1 : Int64).toInt = 1 := by decide
      rcases hq with ⟨rfl, hq⟩ | ⟨rfl, hq⟩
      · skip
        have q_42 := hq
        refine lv_if_eq (tgt := 46) hx hb dX12_mend_33 (by decide) (fun c => absurd c (by decide)) (fun c => ?_)
        refine lv_aload_n hx hb dX12_mend_36 rfl (lv_at hl 1 rfl) ?_
        refine lv_iload hx hb dX12_mend_37 (lv_at hl 0 rfl) ?_
        refine lv_iload_n hx hb dX12_mend_39 rfl (lv_at hl 4 rfl) ?_
        refine sg_calli (va_runV (As := [.int r_4, .int x2]) (rest := []) ⟨hx, hb, hml, hown, hts⟩ (kX12_becomes l D ca za h hh f L Q hI hJ r_4 x2 (by omega) (by omega) (by omega) H.size) (cwV 2 hts (gw_V (fun _ h => List.mem_cons_of_mem _ h) mw_779 mw_780 mw_781 mw_619 mw_778) rfl rfl rfl (by decide +kernel) ⟨Nat.le_of_ble_eq_true rfl, Nat.le_of_ble_eq_true rfl⟩) (sg_preV (ci := 12) (C := RX12) (T := TX12) (N := 55) hA hK hP hS hZ 0 (by decide) rfl rfl) rfl rfl hl.1 rfl (lv_room (Nat.le_of_ble_eq_true rfl)) dX12_mend_40 ⟨Nat.le_refl _, Nat.le_refl _⟩) hA hS (fun r_46 f_43 L_44 Q_45 H locs hq hP hS => ?_)
        obtain ⟨⟨hI, hk_f_43, eL9, eQ9, hJ⟩, hq⟩ := hq
        rw [eL9, eQ9] at hP; clear eL9 eQ9
        have hF : sgK WkX12_mend f f_43 := sgK.tr hF hk_f_43 (by decide)
        refine lv_goto (tgt := 47) hx hb dX12_mend_43 (by decide) ?_
        exact hret _ _ _ _ (r_46) f_43 L Q dX12_mend_47 hP hS ⟨⟨hI, hF, rfl, rfl, hJ⟩, (by omega)⟩
      · skip
        have q_47 := hq
        refine lv_if_eq (tgt := 46) hx hb dX12_mend_33 (by decide) (fun c => ?_) (fun c => absurd c (by decide))
        refine lv_iconst (v := (-1)) hx hb dX12_mend_46 (by decide) ?_
        have k99 : ((-1) : Int32).toInt = (-1) := (by decide)
        exact hret _ _ _ _ (-1) f L Q dX12_mend_47 hP hS ⟨⟨hI, hF, rfl, rfl, hJ⟩, (by decide)⟩

set_option maxHeartbeats 4000000 in
set_option maxRecDepth 100000 in
theorem kX12_of (l : Launch) (D : va_G) (ca : Nat → ClassId) (za h : Nat → Nat) (hh : sgH 26 h) (f : sg_F) (L : sg_L) (Q : sg_Q) (hI : sgI loM hiM f) (x0 : Int32) (x1 : Int32) (sz : Nat) : Met l yX12_of gwX12_of { frames := 3, cells := 0, slots := 0, locals := 69 } (sgP D vwCl (tyX ca) 26 h (eM ca h) zcM za f L Q sz [.ref (h 0), .int x0, .int x1]) (sgQi D vwCl 26 h (eM ca h) sz (fun r f1 L1 Q1 => ((f1 = f ∧ L1 = L ∧ Q1 = Q) ∧ ((-1) ≤ r.toInt ∧ r.toInt ≤ 99)))) 0 0 (sgA 26 h sz) := by
  refine sg_ofWi (cc := cX12_of) (maxL := 4) RX12 (by decide) rfl rfl (Nat.le_of_ble_eq_true rfl) ?_
  intro p e s m below meth cd Qz ls hx hb hml hown hts hK hZ hP hS hl hret
  have hA := sgY.self (n := 26) (h := h) (sz := s.heap.size)
  have hl : lv_has ls 4 [(0, .ref (h 0)), (1, .int x0), (2, .int x1)] := hl
  obtain ⟨H, hH⟩ : ∃ z : Heap, z = s.heap := ⟨_, rfl⟩
  obtain ⟨locs, hlo⟩ : ∃ z : List Loc, z = [] := ⟨_, rfl⟩
  have hP : va_P D vwCl (sgw 26 h (eM ca h) f L Q) H := by rw [hH]; exact hP
  have hS : va_S (sgA 26 h s.heap.size) s.heap H locs := by rw [hH, hlo]; exact hS
  suffices hgo : W p l e ({ frames := 3, cells := 0, slots := 0, locals := 69 }) s m ([.ref (h 0), .int x0, .int x1] : List Value).toArray below meth cd H locs 0 0 Qz (F0 m 0 ls []) by rw [hH, hlo] at hgo; exact hgo
  clear hH hlo
  refine lv_iload_n hx hb dX12_of_0 rfl (lv_at hl 2 rfl) ?_
  refine lv_bipush (v := 11) hx hb dX12_of_1 (by decide) ?_
  refine lv_icmp_ne (tgt := 24) hx hb dX12_of_3 (by decide) (fun c => ?_) (fun c => ?_)
  · skip
    have c_1 : x1.toInt ≠ 11 := (by have z := bn_ne c; have k1 : (11 : Int32).toInt = 11 := (by decide); omega)
    refine lv_aload_n hx hb dX12_of_24 rfl (lv_at hl 0 rfl) ?_
    refine lv_iload_n hx hb dX12_of_25 rfl (lv_at hl 1 rfl) ?_
    refine lv_iload_n hx hb dX12_of_26 rfl (lv_at hl 2 rfl) ?_
    refine sg_calli (va_runV (As := [.int x0, .int x1]) (rest := []) ⟨hx, hb, hml, hown, hts⟩ (kX12_placeOf l D ca za h hh f L Q hI x0 x1 H.size) (cwV 2 hts (gw_V (fun _ h => List.mem_cons_of_mem _ h) mw_657 mw_658 mw_659 mw_619 mw_656) rfl rfl rfl (by decide +kernel) ⟨Nat.le_of_ble_eq_true rfl, Nat.le_of_ble_eq_true rfl⟩) (sg_preV (ci := 12) (C := RX12) (T := TX12) (N := 55) hA hK hP hS hZ 0 (by decide) rfl rfl) rfl rfl hl.1 rfl (lv_room (Nat.le_of_ble_eq_true rfl)) dX12_of_27 ⟨Nat.le_refl _, Nat.le_refl _⟩) hA hS (fun r_6 f_3 L_4 Q_5 H locs hq hP hS => ?_)
    obtain ⟨⟨ef9, eL9, eQ9⟩, hq, p_7⟩ := hq
    rw [ef9, eL9, eQ9] at hP; clear ef9 eL9 eQ9
    refine lv_istore_n (lv' := [(3, .int r_6), (0, .ref (h 0)), (1, .int x0), (2, .int x1)]) hx hb dX12_of_30 rfl hl (by decide) rfl (fun ls hl => ?_)
    refine lv_iload_n hx hb dX12_of_31 rfl (lv_at hl 0 rfl) ?_
    refine lv_if_ge (tgt := 39) hx hb dX12_of_32 (by decide) (fun c => ?_) (fun c => ?_)
    · skip
      have c_8 : 0 ≤ r_6.toInt := (by have z := bn_le c; have k1 : (0 : Int32).toInt = 0 := (by decide); omega)
      refine lv_aload_n hx hb dX12_of_39 rfl (lv_at hl 1 rfl) ?_
      refine sg_get (ci := 12) (v := .ref (h 1)) (C := RX12) (T := TX12) (N := 55) hx hb hts (fun w h => List.mem_cons_of_mem _ (gx_12 w h)) hown hK hP 0 (by decide) rfl rfl 0 (by decide) (hts _ (List.mem_cons_of_mem _ mw_600)) (fun _ h9 => h9) rfl dX12_of_40 ?_
      refine lv_iload_n hx hb dX12_of_43 rfl (lv_at hl 0 rfl) ?_
      refine sg_iald hx hb hK hP 1 (by decide) 0 rfl rfl (i := r_6) (vp_in_iff.mpr ⟨by omega, by omega⟩) dX12_of_44 ?_
      refine lv_topi (fun v_10 ev_10 => ?_)
      have q_11 : r_6.toInt < 64 → v_10.toInt ≤ 60 := by rw [ev_10]; have z1 := segM1_r hI (j := Int32.toNatClampNeg r_6); have z2 := bn_clI (x := r_6) (by omega); intro z3; exact (z1.2.2 (by omega)).2
      have q_12 : 0 ≤ v_10.toInt ∧ v_10.toInt ≤ 99 := by rw [ev_10]; have z1 := segM1_r hI (j := Int32.toNatClampNeg r_6); have z2 := bn_clI (x := r_6) (by omega); omega
      exact hret _ _ _ _ (v_10) f L Q dX12_of_45 hP hS ⟨⟨rfl, rfl, rfl⟩, (by omega)⟩
    · skip
      have c_9 : r_6.toInt < 0 := (by have z := bn_nle c; have k1 : (0 : Int32).toInt = 0 := (by decide); omega)
      refine lv_iconst (v := (-1)) hx hb dX12_of_35 (by decide) ?_
      refine lv_goto (tgt := 45) hx hb dX12_of_36 (by decide) ?_
      have k99 : ((-1) : Int32).toInt = (-1) := (by decide)
      exact hret _ _ _ _ (-1) f L Q dX12_of_45 hP hS ⟨⟨rfl, rfl, rfl⟩, (by decide)⟩
  · skip
    have c_2 : x1.toInt = 11 := (by have z := Int32.toInt_inj.mpr c; have k1 : (11 : Int32).toInt = 11 := (by decide); omega)
    refine lv_iload_n hx hb dX12_of_6 rfl (lv_at hl 1 rfl) ?_
    refine sg_calli (va_runS (As := [.int x0]) (rest := []) ⟨hx, hb, hml, hown, hts⟩ (kX12_isPart l D ca za h hh f L Q hI x0 H.size) (va_cwS 1 hts (gw_S (fun _ h => List.mem_cons_of_mem _ h) mw_636 mw_637 mw_619 mw_635) rfl rfl rfl (by decide +kernel) ⟨Nat.le_of_ble_eq_true rfl, Nat.le_of_ble_eq_true rfl⟩) (sg_preS hA hK hP hS hZ) rfl rfl hl.1 rfl (lv_room (Nat.le_of_ble_eq_true rfl)) dX12_of_7 ⟨Nat.le_refl _, Nat.le_refl _⟩) hA hS (fun r_16 f_13 L_14 Q_15 H locs hq hP hS => ?_)
    obtain ⟨⟨ef9, eL9, eQ9⟩, hq⟩ := hq
    rw [ef9, eL9, eQ9] at hP; clear ef9 eL9 eQ9
    rcases hq with ⟨rfl, hq⟩ | ⟨rfl, hq⟩
    · skip
      have q_17 := hq
      refine lv_if_eq (tgt := 22) hx hb dX12_of_10 (by decide) (fun c => absurd c (by decide)) (fun c => ?_)
      refine lv_aload_n hx hb dX12_of_13 rfl (lv_at hl 0 rfl) ?_
      refine sg_get (ci := 12) (v := .ref (h 5)) (C := RX12) (T := TX12) (N := 55) hx hb hts (fun w h => List.mem_cons_of_mem _ (gx_12 w h)) hown hK hP 0 (by decide) rfl rfl 7 (by decide) (hts _ (List.mem_cons_of_mem _ mw_607)) (fun _ h9 => h9) rfl dX12_of_14 ?_
      refine lv_iload_n hx hb dX12_of_17 rfl (lv_at hl 1 rfl) ?_
      refine sg_iald hx hb hK hP 5 (by decide) 0 rfl rfl (i := x0) (vp_in_iff.mpr ⟨by omega, by omega⟩) dX12_of_18 ?_
      refine lv_topi (fun v_18 ev_18 => ?_)
      have q_19 : 0 ≤ v_18.toInt ∧ v_18.toInt ≤ 60 := by rw [ev_18]; exact hI 5 _
      refine lv_goto (tgt := 23) hx hb dX12_of_19 (by decide) ?_
      exact hret _ _ _ _ (v_18) f L Q dX12_of_23 hP hS ⟨⟨rfl, rfl, rfl⟩, (by omega)⟩
    · skip
      have q_20 := hq
      refine lv_if_eq (tgt := 22) hx hb dX12_of_10 (by decide) (fun c => ?_) (fun c => absurd c (by decide))
      refine lv_iconst (v := (-1)) hx hb dX12_of_22 (by decide) ?_
      have k99 : ((-1) : Int32).toInt = (-1) := (by decide)
      exact hret _ _ _ _ (-1) f L Q dX12_of_23 hP hS ⟨⟨rfl, rfl, rfl⟩, (by decide)⟩

abbrev WkX12_feed : List (Nat × Nat × Option Nat) := [(0, 0, some 9), (6, 6, none)]
set_option maxHeartbeats 4000000 in
set_option maxRecDepth 100000 in
theorem kX12_feed (l : Launch) (D : va_G) (ca : Nat → ClassId) (za h : Nat → Nat) (hh : sgH 26 h) (f : sg_F) (L : sg_L) (Q : sg_Q) (hI : sgI loM hiM f) (x0 : Int32) (sz : Nat) : Met l yX12_feed gwX12_feed { frames := 1, cells := 0, slots := 0, locals := 25 } (sgP D vwCl (tyX ca) 26 h (eM ca h) zcM za f L Q sz [.ref (h 0), .int x0]) (sgQi D vwCl 26 h (eM ca h) sz (fun r f1 L1 Q1 => ((sgI loM hiM f1 ∧ sgK WkX12_feed f f1 ∧ L1 = L ∧ Q1 = Q) ∧ ((-3) ≤ r.toInt ∧ r.toInt ≤ 120)))) 0 0 (sgA 26 h sz) := by
  refine sg_ofWi (cc := cX12_feed) (maxL := 2) RX12 (by decide) rfl rfl (Nat.le_of_ble_eq_true rfl) ?_
  intro p e s m below meth cd Qz ls hx hb hml hown hts hK hZ hP hS hl hret
  have hA := sgY.self (n := 26) (h := h) (sz := s.heap.size)
  have hl : lv_has ls 2 [(0, .ref (h 0)), (1, .int x0)] := hl
  obtain ⟨H, hH⟩ : ∃ z : Heap, z = s.heap := ⟨_, rfl⟩
  obtain ⟨locs, hlo⟩ : ∃ z : List Loc, z = [] := ⟨_, rfl⟩
  have hP : va_P D vwCl (sgw 26 h (eM ca h) f L Q) H := by rw [hH]; exact hP
  have hS : va_S (sgA 26 h s.heap.size) s.heap H locs := by rw [hH, hlo]; exact hS
  suffices hgo : W p l e ({ frames := 1, cells := 0, slots := 0, locals := 25 }) s m ([.ref (h 0), .int x0] : List Value).toArray below meth cd H locs 0 0 Qz (F0 m 0 ls []) by rw [hH, hlo] at hgo; exact hgo
  clear hH hlo
  have hF : sgK WkX12_feed f f := sgK.rf
  refine lv_iload_n hx hb dX12_feed_0 rfl (lv_at hl 1 rfl) ?_
  obtain ⟨w_1, ew_1⟩ : ∃ z : Int64, z = Int32.toInt64 x0 := ⟨_, rfl⟩
  have q_2 : w_1.toInt = x0.toInt := by rw [ew_1]; exact Int32.toInt_toInt64 _
  refine lv_i2l (v := w_1) hx hb dX12_feed_1 ew_1.symm ?_
  refine lv_lconst (v := 0) hx hb dX12_feed_2 (by decide) ?_
  refine lv_ldc2 (v := 255) hx hb hown (hts _ (List.mem_cons_of_mem _ mw_605)) dX12_feed_3 ?_
  refine sg_calli (va_runS (As := [.long w_1, .long 0, .long 255]) (rest := []) ⟨hx, hb, hml, hown, hts⟩ (kX12_within l D ca za h hh f L Q hI w_1 0 255 H.size) (va_cwS 3 hts (gw_S (fun _ h => List.mem_cons_of_mem _ h) mw_631 mw_632 mw_619 mw_630) rfl rfl rfl (by decide +kernel) ⟨Nat.le_of_ble_eq_true rfl, Nat.le_of_ble_eq_true rfl⟩) (sg_preS hA hK hP hS hZ) rfl rfl hl.1 rfl (lv_room (Nat.le_of_ble_eq_true rfl)) dX12_feed_6 ⟨Nat.le_refl _, Nat.le_refl _⟩) hA hS (fun r_6 f_3 L_4 Q_5 H locs hq hP hS => ?_)
  obtain ⟨⟨ef9, eL9, eQ9⟩, hq⟩ := hq
  rw [ef9, eL9, eQ9] at hP; clear ef9 eL9 eQ9
  have k_7 : (0 : Int64).toInt = 0 := by decide
  have k_8 : (255 : Int64).toInt = 255 := by decide
  rcases hq with ⟨rfl, hq⟩ | ⟨rfl, hq⟩
  · skip
    have q_9 := hq
    refine lv_if_ne (tgt := 14) hx hb dX12_feed_9 (by decide) (fun c => ?_) (fun c => absurd c (by decide))
    refine lv_aload_n hx hb dX12_feed_14 rfl (lv_at hl 0 rfl) ?_
    refine sg_get (ci := 12) (v := .int (f 0 9)) (C := RX12) (T := TX12) (N := 55) hx hb hts (fun w h => List.mem_cons_of_mem _ (gx_12 w h)) hown hK hP 0 (by decide) rfl rfl 9 (by decide) (hts _ (List.mem_cons_of_mem _ mw_606)) (fun _ h9 => h9) rfl dX12_feed_15 ?_
    refine lv_topi (fun v_10 ev_10 => ?_)
    have q_11 : 0 ≤ v_10.toInt ∧ v_10.toInt ≤ 120 := by rw [ev_10]; exact hI 0 9
    refine lv_bipush (v := 120) hx hb dX12_feed_18 (by decide) ?_
    refine lv_icmp_ne (tgt := 26) hx hb dX12_feed_20 (by decide) (fun c => ?_) (fun c => ?_)
    · skip
      have c_12 : v_10.toInt ≠ 120 := (by have z := bn_ne c; have k1 : (120 : Int32).toInt = 120 := (by decide); omega)
      refine lv_aload_n hx hb dX12_feed_26 rfl (lv_at hl 0 rfl) ?_
      refine sg_get (ci := 12) (v := .ref (h 6)) (C := RX12) (T := TX12) (N := 55) hx hb hts (fun w h => List.mem_cons_of_mem _ (gx_12 w h)) hown hK hP 0 (by decide) rfl rfl 8 (by decide) (hts _ (List.mem_cons_of_mem _ mw_655)) (fun _ h9 => h9) rfl dX12_feed_27 ?_
      refine lv_aload_n hx hb dX12_feed_30 rfl (lv_at hl 0 rfl) ?_
      refine sg_get (ci := 12) (v := .int v_10) (C := RX12) (T := TX12) (N := 55) hx hb hts (fun w h => List.mem_cons_of_mem _ (gx_12 w h)) hown hK hP 0 (by decide) rfl rfl 9 (by decide) (hts _ (List.mem_cons_of_mem _ mw_606)) (fun _ h9 => h9) (congrArg (fun z => some (Value.int z)) (show f 0 9 = v_10 from ev_10.symm)) dX12_feed_31 ?_
      refine lv_iload_n hx hb dX12_feed_34 rfl (lv_at hl 1 rfl) ?_
      refine sg_iast hx hb hh hA hK hP hS 6 (by decide) 0 (fun _ => rfl) rfl (i := v_10) (x := x0) (vp_in_iff.mpr ⟨by omega, by omega⟩) dX12_feed_35 (fun f_14 H locs ef_14 hP hS => ?_)
      have hI : sgI loM hiM f_14 := by rw [ef_14]; exact sgI.put hI 6 v_10.toNatClampNeg (show 0 ≤ (x0 : Int32).toInt ∧ (x0 : Int32).toInt ≤ 255 from by omega)
      have hF : sgK WkX12_feed f f_14 := sgK.put hF ef_14 (by rfl)
      refine lv_aload_n hx hb dX12_feed_36 rfl (lv_at hl 0 rfl) ?_
      refine lv_dup hx hb dX12_feed_37 rfl ?_
      refine sg_get (ci := 12) (v := .int v_10) (C := RX12) (T := TX12) (N := 55) hx hb hts (fun w h => List.mem_cons_of_mem _ (gx_12 w h)) hown hK hP 0 (by decide) rfl rfl 9 (by decide) (hts _ (List.mem_cons_of_mem _ mw_606)) (fun _ h9 => h9) (congrArg (fun z => some (Value.int z)) (show f_14 0 9 = v_10 from (by rw [ef_14, sg_up_n (by decide)]; exact ev_10.symm))) dX12_feed_38 ?_
      refine lv_iconst (v := 1) hx hb dX12_feed_41 (by decide) ?_
      refine lv_iadd hx hb dX12_feed_42 ?_
      refine lv_topi (fun v_15 ev_15 => ?_)
      have q_16 : v_15.toInt = v_10.toInt + 1 := by rw [ev_15]; have k1 : (1 : Int32).toInt = 1 := (by decide); exact (bn_addI (by omega) (by omega)).trans (by omega)
      refine sg_put (ci := 12) (x := v_15) (ty := .int) (C := RX12) (T := TX12) (N := 55) hx hb hts (fun w h => List.mem_cons_of_mem _ (gx_12 w h)) tyX12 tyX12_ok nmX12 hown hh hA hK hP hS 0 (by decide) rfl rfl 9 (by decide) (hts _ (List.mem_cons_of_mem _ mw_606)) (fun _ h9 => h9) rfl rfl (by decide +kernel) rfl rfl (Nat.le_of_ble_eq_true rfl) dX12_feed_43 (fun f_17 H locs ef_17 hP hS => ?_)
      have hI : sgI loM hiM f_17 := by rw [ef_17]; exact sgI.put hI 0 9 (show 0 ≤ (v_15 : Int32).toInt ∧ (v_15 : Int32).toInt ≤ 120 from by omega)
      have hF : sgK WkX12_feed f f_17 := sgK.put hF ef_17 (by rfl)
      refine lv_aload_n hx hb dX12_feed_46 rfl (lv_at hl 0 rfl) ?_
      refine sg_get (ci := 12) (v := .int v_15) (C := RX12) (T := TX12) (N := 55) hx hb hts (fun w h => List.mem_cons_of_mem _ (gx_12 w h)) hown hK hP 0 (by decide) rfl rfl 9 (by decide) (hts _ (List.mem_cons_of_mem _ mw_606)) (fun _ h9 => h9) (congrArg (fun z => some (Value.int z)) (show f_17 0 9 = v_15 from (by rw [ef_17, sg_up_s, sgu_s]))) dX12_feed_47 ?_
      exact hret _ _ _ _ (v_15) f_17 L Q dX12_feed_50 hP hS ⟨⟨hI, hF, rfl, rfl⟩, (by omega)⟩
    · skip
      have c_13 : v_10.toInt = 120 := (by have z := Int32.toInt_inj.mpr c; have k1 : (120 : Int32).toInt = 120 := (by decide); omega)
      refine lv_bipush (v := (-3)) hx hb dX12_feed_23 (by decide) ?_
      have k99 : ((-3) : Int32).toInt = (-3) := (by decide)
      exact hret _ _ _ _ (-3) f L Q dX12_feed_25 hP hS ⟨⟨hI, hF, rfl, rfl⟩, (by decide)⟩
  · skip
    have q_18 := hq
    refine lv_if_ne (tgt := 14) hx hb dX12_feed_9 (by decide) (fun c => absurd c (by decide)) (fun c => ?_)
    refine lv_iconst (v := (-1)) hx hb dX12_feed_12 (by decide) ?_
    have k99 : ((-1) : Int32).toInt = (-1) := (by decide)
    exact hret _ _ _ _ (-1) f L Q dX12_feed_13 hP hS ⟨⟨hI, hF, rfl, rfl⟩, (by decide)⟩

set_option maxHeartbeats 4000000 in
set_option maxRecDepth 100000 in
theorem kX12_byteAt (l : Launch) (D : va_G) (ca : Nat → ClassId) (za h : Nat → Nat) (hh : sgH 26 h) (f : sg_F) (L : sg_L) (Q : sg_Q) (hI : sgI loM hiM f) (sz : Nat) : Met l yX12_byteAt gwX12_byteAt { frames := 0, cells := 0, slots := 0, locals := 0 } (sgP D vwCl (tyX ca) 26 h (eM ca h) zcM za f L Q sz [.ref (h 0)]) (sgQi D vwCl 26 h (eM ca h) sz (fun r f1 L1 Q1 => ((f1 = f ∧ L1 = L ∧ Q1 = Q) ∧ (0 ≤ r.toInt ∧ r.toInt ≤ 255) ∧ (r.toInt = 0 ∨ (f 0 13).toInt < (f 0 14).toInt)))) 0 0 (sgA 26 h sz) := by
  refine sg_ofWi (cc := cX12_byteAt) (maxL := 1) RX12 (by decide) rfl rfl (Nat.le_of_ble_eq_true rfl) ?_
  intro p e s m below meth cd Qz ls hx hb hml hown hts hK hZ hP hS hl hret
  have hA := sgY.self (n := 26) (h := h) (sz := s.heap.size)
  have hl : lv_has ls 1 [(0, .ref (h 0))] := hl
  obtain ⟨H, hH⟩ : ∃ z : Heap, z = s.heap := ⟨_, rfl⟩
  obtain ⟨locs, hlo⟩ : ∃ z : List Loc, z = [] := ⟨_, rfl⟩
  have hP : va_P D vwCl (sgw 26 h (eM ca h) f L Q) H := by rw [hH]; exact hP
  have hS : va_S (sgA 26 h s.heap.size) s.heap H locs := by rw [hH, hlo]; exact hS
  suffices hgo : W p l e ({ frames := 0, cells := 0, slots := 0, locals := 0 }) s m ([.ref (h 0)] : List Value).toArray below meth cd H locs 0 0 Qz (F0 m 0 ls []) by rw [hH, hlo] at hgo; exact hgo
  clear hH hlo
  obtain ⟨v_1, ev_1⟩ : ∃ z : Int32, z = f 0 13 := ⟨_, rfl⟩
  have q_2 : 0 ≤ v_1.toInt ∧ v_1.toInt ≤ 120 := by rw [ev_1]; exact hI 0 13
  obtain ⟨v_3, ev_3⟩ : ∃ z : Int32, z = f 0 14 := ⟨_, rfl⟩
  have q_4 : 0 ≤ v_3.toInt ∧ v_3.toInt ≤ 120 := by rw [ev_3]; exact hI 0 14
  have o_5 : (f 0 13).toInt = v_1.toInt := (congrArg Int32.toInt (show f 0 13 = v_1 from ev_1.symm))
  have o_6 : (f 0 14).toInt = v_3.toInt := (congrArg Int32.toInt (show f 0 14 = v_3 from ev_3.symm))
  refine lv_aload_n hx hb dX12_byteAt_0 rfl (lv_at hl 0 rfl) ?_
  refine sg_get (ci := 12) (v := .int v_1) (C := RX12) (T := TX12) (N := 55) hx hb hts (fun w h => List.mem_cons_of_mem _ (gx_12 w h)) hown hK hP 0 (by decide) rfl rfl 13 (by decide) (hts _ (List.mem_cons_of_mem _ mw_625)) (fun _ h9 => h9) (congrArg (fun z => some (Value.int z)) (show f 0 13 = v_1 from ev_1.symm)) dX12_byteAt_1 ?_
  refine lv_aload_n hx hb dX12_byteAt_4 rfl (lv_at hl 0 rfl) ?_
  refine sg_get (ci := 12) (v := .int v_3) (C := RX12) (T := TX12) (N := 55) hx hb hts (fun w h => List.mem_cons_of_mem _ (gx_12 w h)) hown hK hP 0 (by decide) rfl rfl 14 (by decide) (hts _ (List.mem_cons_of_mem _ mw_626)) (fun _ h9 => h9) (congrArg (fun z => some (Value.int z)) (show f 0 14 = v_3 from ev_3.symm)) dX12_byteAt_5 ?_
  refine lv_icmp_ge (tgt := 47) hx hb dX12_byteAt_8 (by decide) (fun c => ?_) (fun c => ?_)
  · skip
    have c_7 : v_3.toInt ≤ v_1.toInt := (by have z := bn_le c; omega)
    refine lv_iconst (v := 0) hx hb dX12_byteAt_47 (by decide) ?_
    have k99 : (0 : Int32).toInt = 0 := (by decide)
    exact hret _ _ _ _ (0) f L Q dX12_byteAt_48 hP hS ⟨⟨rfl, rfl, rfl⟩, (by decide), (by omega)⟩
  · skip
    have c_8 : v_1.toInt < v_3.toInt := (by have z := bn_nle c; omega)
    refine lv_aload_n hx hb dX12_byteAt_11 rfl (lv_at hl 0 rfl) ?_
    refine sg_get (ci := 12) (v := .int (f 0 12)) (C := RX12) (T := TX12) (N := 55) hx hb hts (fun w h => List.mem_cons_of_mem _ (gx_12 w h)) hown hK hP 0 (by decide) rfl rfl 12 (by decide) (hts _ (List.mem_cons_of_mem _ mw_624)) (fun _ h9 => h9) rfl dX12_byteAt_12 ?_
    refine lv_topi (fun v_9 ev_9 => ?_)
    have q_10 : (-1) ≤ v_9.toInt ∧ v_9.toInt ≤ 0 := by rw [ev_9]; exact hI 0 12
    refine lv_if_ge (tgt := 30) hx hb dX12_byteAt_15 (by decide) (fun c => ?_) (fun c => ?_)
    · skip
      have c_11 : 0 ≤ v_9.toInt := (by have z := bn_le c; have k1 : (0 : Int32).toInt = 0 := (by decide); omega)
      refine lv_aload_n hx hb dX12_byteAt_30 rfl (lv_at hl 0 rfl) ?_
      refine sg_get (ci := 12) (v := .ref (h 7)) (C := RX12) (T := TX12) (N := 55) hx hb hts (fun w h => List.mem_cons_of_mem _ (gx_12 w h)) hown hK hP 0 (by decide) rfl rfl 10 (by decide) (hts _ (List.mem_cons_of_mem _ mw_830)) (fun _ h9 => h9) rfl dX12_byteAt_31 ?_
      refine lv_aload_n hx hb dX12_byteAt_34 rfl (lv_at hl 0 rfl) ?_
      refine sg_get (ci := 12) (v := .int v_9) (C := RX12) (T := TX12) (N := 55) hx hb hts (fun w h => List.mem_cons_of_mem _ (gx_12 w h)) hown hK hP 0 (by decide) rfl rfl 12 (by decide) (hts _ (List.mem_cons_of_mem _ mw_624)) (fun _ h9 => h9) (congrArg (fun z => some (Value.int z)) (show f 0 12 = v_9 from ev_9.symm)) dX12_byteAt_35 ?_
      refine lv_aload_n hx hb dX12_byteAt_38 rfl (lv_at hl 0 rfl) ?_
      refine sg_get (ci := 12) (v := .int v_1) (C := RX12) (T := TX12) (N := 55) hx hb hts (fun w h => List.mem_cons_of_mem _ (gx_12 w h)) hown hK hP 0 (by decide) rfl rfl 13 (by decide) (hts _ (List.mem_cons_of_mem _ mw_625)) (fun _ h9 => h9) (congrArg (fun z => some (Value.int z)) (show f 0 13 = v_1 from ev_1.symm)) dX12_byteAt_39 ?_
      refine lv_iadd hx hb dX12_byteAt_42 ?_
      refine lv_topi (fun v_13 ev_13 => ?_)
      have q_14 : v_13.toInt = v_9.toInt + v_1.toInt := by rw [ev_13]; exact (bn_addI (by omega) (by omega)).trans (by omega)
      refine sg_iald hx hb hK hP 7 (by decide) 0 rfl rfl (i := v_13) (vp_in_iff.mpr ⟨by omega, by omega⟩) dX12_byteAt_43 ?_
      refine lv_topi (fun v_15 ev_15 => ?_)
      have q_16 : 0 ≤ v_15.toInt ∧ v_15.toInt ≤ 255 := by rw [ev_15]; exact hI 7 _
      refine lv_goto (tgt := 48) hx hb dX12_byteAt_44 (by decide) ?_
      exact hret _ _ _ _ (v_15) f L Q dX12_byteAt_48 hP hS ⟨⟨rfl, rfl, rfl⟩, (by omega), (by omega)⟩
    · skip
      have c_12 : v_9.toInt < 0 := (by have z := bn_nle c; have k1 : (0 : Int32).toInt = 0 := (by decide); omega)
      refine lv_aload_n hx hb dX12_byteAt_18 rfl (lv_at hl 0 rfl) ?_
      refine sg_get (ci := 12) (v := .ref (h 6)) (C := RX12) (T := TX12) (N := 55) hx hb hts (fun w h => List.mem_cons_of_mem _ (gx_12 w h)) hown hK hP 0 (by decide) rfl rfl 8 (by decide) (hts _ (List.mem_cons_of_mem _ mw_655)) (fun _ h9 => h9) rfl dX12_byteAt_19 ?_
      refine lv_aload_n hx hb dX12_byteAt_22 rfl (lv_at hl 0 rfl) ?_
      refine sg_get (ci := 12) (v := .int v_1) (C := RX12) (T := TX12) (N := 55) hx hb hts (fun w h => List.mem_cons_of_mem _ (gx_12 w h)) hown hK hP 0 (by decide) rfl rfl 13 (by decide) (hts _ (List.mem_cons_of_mem _ mw_625)) (fun _ h9 => h9) (congrArg (fun z => some (Value.int z)) (show f 0 13 = v_1 from ev_1.symm)) dX12_byteAt_23 ?_
      refine sg_iald hx hb hK hP 6 (by decide) 0 rfl rfl (i := v_1) (vp_in_iff.mpr ⟨by omega, by omega⟩) dX12_byteAt_26 ?_
      refine lv_topi (fun v_17 ev_17 => ?_)
      have q_18 : 0 ≤ v_17.toInt ∧ v_17.toInt ≤ 255 := by rw [ev_17]; exact hI 6 _
      refine lv_goto (tgt := 48) hx hb dX12_byteAt_27 (by decide) ?_
      exact hret _ _ _ _ (v_17) f L Q dX12_byteAt_48 hP hS ⟨⟨rfl, rfl, rfl⟩, (by omega), (by omega)⟩

abbrev WkX12_wrong : List (Nat × Nat × Option Nat) := [(0, 0, some 15)]
set_option maxHeartbeats 4000000 in
set_option maxRecDepth 100000 in
theorem kX12_wrong (l : Launch) (D : va_G) (ca : Nat → ClassId) (za h : Nat → Nat) (hh : sgH 26 h) (f : sg_F) (L : sg_L) (Q : sg_Q) (hI : sgI loM hiM f) (sz : Nat) : Met l yX12_wrong gwX12_wrong { frames := 0, cells := 0, slots := 0, locals := 0 } (sgP D vwCl (tyX ca) 26 h (eM ca h) zcM za f L Q sz [.ref (h 0)]) (sgQi D vwCl 26 h (eM ca h) sz (fun r f1 L1 Q1 => ((sgI loM hiM f1 ∧ sgK WkX12_wrong f f1 ∧ L1 = L ∧ Q1 = Q) ∧ (0 ≤ r.toInt ∧ r.toInt ≤ 0) ∧ (0 ≤ (f1 0 15).toInt)))) 0 0 (sgA 26 h sz) := by
  refine sg_ofWi (cc := cX12_wrong) (maxL := 1) RX12 (by decide) rfl rfl (Nat.le_of_ble_eq_true rfl) ?_
  intro p e s m below meth cd Qz ls hx hb hml hown hts hK hZ hP hS hl hret
  have hA := sgY.self (n := 26) (h := h) (sz := s.heap.size)
  have hl : lv_has ls 1 [(0, .ref (h 0))] := hl
  obtain ⟨H, hH⟩ : ∃ z : Heap, z = s.heap := ⟨_, rfl⟩
  obtain ⟨locs, hlo⟩ : ∃ z : List Loc, z = [] := ⟨_, rfl⟩
  have hP : va_P D vwCl (sgw 26 h (eM ca h) f L Q) H := by rw [hH]; exact hP
  have hS : va_S (sgA 26 h s.heap.size) s.heap H locs := by rw [hH, hlo]; exact hS
  suffices hgo : W p l e ({ frames := 0, cells := 0, slots := 0, locals := 0 }) s m ([.ref (h 0)] : List Value).toArray below meth cd H locs 0 0 Qz (F0 m 0 ls []) by rw [hH, hlo] at hgo; exact hgo
  clear hH hlo
  obtain ⟨v_1, ev_1⟩ : ∃ z : Int32, z = f 0 15 := ⟨_, rfl⟩
  have q_2 : (-1) ≤ v_1.toInt ∧ v_1.toInt ≤ 120 := by rw [ev_1]; exact hI 0 15
  have o_3 : (f 0 15).toInt = v_1.toInt := (congrArg Int32.toInt (show f 0 15 = v_1 from ev_1.symm))
  have hF : sgK WkX12_wrong f f := sgK.rf
  refine lv_aload_n hx hb dX12_wrong_0 rfl (lv_at hl 0 rfl) ?_
  refine lv_aload_n hx hb dX12_wrong_1 rfl (lv_at hl 0 rfl) ?_
  refine sg_get (ci := 12) (v := .int v_1) (C := RX12) (T := TX12) (N := 55) hx hb hts (fun w h => List.mem_cons_of_mem _ (gx_12 w h)) hown hK hP 0 (by decide) rfl rfl 15 (by decide) (hts _ (List.mem_cons_of_mem _ mw_627)) (fun _ h9 => h9) (congrArg (fun z => some (Value.int z)) (show f 0 15 = v_1 from ev_1.symm)) dX12_wrong_2 ?_
  refine lv_if_ge (tgt := 15) hx hb dX12_wrong_5 (by decide) (fun c => ?_) (fun c => ?_)
  · skip
    have c_4 : 0 ≤ v_1.toInt := (by have z := bn_le c; have k1 : (0 : Int32).toInt = 0 := (by decide); omega)
    refine lv_aload_n hx hb dX12_wrong_15 rfl (lv_at hl 0 rfl) ?_
    refine sg_get (ci := 12) (v := .int v_1) (C := RX12) (T := TX12) (N := 55) hx hb hts (fun w h => List.mem_cons_of_mem _ (gx_12 w h)) hown hK hP 0 (by decide) rfl rfl 15 (by decide) (hts _ (List.mem_cons_of_mem _ mw_627)) (fun _ h9 => h9) (congrArg (fun z => some (Value.int z)) (show f 0 15 = v_1 from ev_1.symm)) dX12_wrong_16 ?_
    refine sg_put (ci := 12) (x := v_1) (ty := .int) (C := RX12) (T := TX12) (N := 55) hx hb hts (fun w h => List.mem_cons_of_mem _ (gx_12 w h)) tyX12 tyX12_ok nmX12 hown hh hA hK hP hS 0 (by decide) rfl rfl 15 (by decide) (hts _ (List.mem_cons_of_mem _ mw_627)) (fun _ h9 => h9) rfl rfl (by decide +kernel) rfl rfl (Nat.le_of_ble_eq_true rfl) dX12_wrong_19 (fun f_6 H locs ef_6 hP hS => ?_)
    have hI : sgI loM hiM f_6 := by rw [ef_6]; exact sgI.put hI 0 15 (show (-1) ≤ (v_1 : Int32).toInt ∧ (v_1 : Int32).toInt ≤ 120 from by omega)
    have hF : sgK WkX12_wrong f f_6 := sgK.put hF ef_6 (by rfl)
    refine lv_iconst (v := 0) hx hb dX12_wrong_22 (by decide) ?_
    have q_7 : (f_6 0 15).toInt = v_1.toInt := (congrArg Int32.toInt (show f_6 0 15 = v_1 from (by rw [ef_6, sg_up_s, sgu_s])))
    have k99 : (0 : Int32).toInt = 0 := (by decide)
    exact hret _ _ _ _ (0) f_6 L Q dX12_wrong_23 hP hS ⟨⟨hI, hF, rfl, rfl⟩, (by decide), (by omega)⟩
  · skip
    have c_5 : v_1.toInt < 0 := (by have z := bn_nle c; have k1 : (0 : Int32).toInt = 0 := (by decide); omega)
    refine lv_aload_n hx hb dX12_wrong_8 rfl (lv_at hl 0 rfl) ?_
    refine sg_get (ci := 12) (v := .int (f 0 13)) (C := RX12) (T := TX12) (N := 55) hx hb hts (fun w h => List.mem_cons_of_mem _ (gx_12 w h)) hown hK hP 0 (by decide) rfl rfl 13 (by decide) (hts _ (List.mem_cons_of_mem _ mw_625)) (fun _ h9 => h9) rfl dX12_wrong_9 ?_
    refine lv_topi (fun v_8 ev_8 => ?_)
    have q_9 : 0 ≤ v_8.toInt ∧ v_8.toInt ≤ 120 := by rw [ev_8]; exact hI 0 13
    refine lv_goto (tgt := 19) hx hb dX12_wrong_12 (by decide) ?_
    refine sg_put (ci := 12) (x := v_8) (ty := .int) (C := RX12) (T := TX12) (N := 55) hx hb hts (fun w h => List.mem_cons_of_mem _ (gx_12 w h)) tyX12 tyX12_ok nmX12 hown hh hA hK hP hS 0 (by decide) rfl rfl 15 (by decide) (hts _ (List.mem_cons_of_mem _ mw_627)) (fun _ h9 => h9) rfl rfl (by decide +kernel) rfl rfl (Nat.le_of_ble_eq_true rfl) dX12_wrong_19 (fun f_10 H locs ef_10 hP hS => ?_)
    have hI : sgI loM hiM f_10 := by rw [ef_10]; exact sgI.put hI 0 15 (show (-1) ≤ (v_8 : Int32).toInt ∧ (v_8 : Int32).toInt ≤ 120 from by omega)
    have hF : sgK WkX12_wrong f f_10 := sgK.put hF ef_10 (by rfl)
    refine lv_iconst (v := 0) hx hb dX12_wrong_22 (by decide) ?_
    have q_11 : (f_10 0 15).toInt = v_8.toInt := (congrArg Int32.toInt (show f_10 0 15 = v_8 from (by rw [ef_10, sg_up_s, sgu_s])))
    have k99 : (0 : Int32).toInt = 0 := (by decide)
    exact hret _ _ _ _ (0) f_10 L Q dX12_wrong_23 hP hS ⟨⟨hI, hF, rfl, rfl⟩, (by decide), (by omega)⟩

set_option maxHeartbeats 4000000 in
set_option maxRecDepth 100000 in
theorem kX12_nameOf (l : Launch) (D : va_G) (ca : Nat → ClassId) (za h : Nat → Nat) (hh : sgH 26 h) (f : sg_F) (L : sg_L) (Q : sg_Q) (hI : sgI loM hiM f) (x0 : Int32) (b0 : 0 ≤ x0.toInt ∧ x0.toInt ≤ 255) (sz : Nat) : Met l yX12_nameOf gwX12_nameOf { frames := 0, cells := 0, slots := 0, locals := 0 } (sgP D vwCl (tyX ca) 26 h (eM ca h) zcM za f L Q sz [.int x0]) (sgQi D vwCl 26 h (eM ca h) sz (fun r f1 L1 Q1 => ((f1 = f ∧ L1 = L ∧ Q1 = Q) ∧ ((-1) ≤ r.toInt ∧ r.toInt ≤ 5) ∧ (r.toInt < 0 ∨ 0 < x0.toInt)))) 0 0 (sgA 26 h sz) := by
  refine sg_ofWi (cc := cX12_nameOf) (maxL := 1) RX12 (by decide) rfl rfl (Nat.le_of_ble_eq_true rfl) ?_
  intro p e s m below meth cd Qz ls hx hb hml hown hts hK hZ hP hS hl hret
  have hA := sgY.self (n := 26) (h := h) (sz := s.heap.size)
  have hl : lv_has ls 1 [(0, .int x0)] := hl
  obtain ⟨H, hH⟩ : ∃ z : Heap, z = s.heap := ⟨_, rfl⟩
  obtain ⟨locs, hlo⟩ : ∃ z : List Loc, z = [] := ⟨_, rfl⟩
  have hP : va_P D vwCl (sgw 26 h (eM ca h) f L Q) H := by rw [hH]; exact hP
  have hS : va_S (sgA 26 h s.heap.size) s.heap H locs := by rw [hH, hlo]; exact hS
  suffices hgo : W p l e ({ frames := 0, cells := 0, slots := 0, locals := 0 }) s m ([.int x0] : List Value).toArray below meth cd H locs 0 0 Qz (F0 m 0 ls []) by rw [hH, hlo] at hgo; exact hgo
  clear hH hlo
  refine lv_iload_n hx hb dX12_nameOf_0 rfl (lv_at hl 0 rfl) ?_
  rcases (show (x0.toInt ≠ 100 ∧ x0.toInt ≠ 104 ∧ x0.toInt ≠ 107 ∧ x0.toInt ≠ 115 ∧ x0.toInt ≠ 117 ∧ x0.toInt ≠ 119) ∨ x0.toInt = 100 ∨ x0.toInt = 104 ∨ x0.toInt = 107 ∨ x0.toInt = 115 ∨ x0.toInt = 117 ∨ x0.toInt = 119 from by omega) with c | c | c | c | c | c | c
  · skip
    rcases (show (x0.toInt < 100 ∨ 119 < x0.toInt) ∨ x0.toInt = 101 ∨ x0.toInt = 102 ∨ x0.toInt = 103 ∨ x0.toInt = 105 ∨ x0.toInt = 106 ∨ x0.toInt = 108 ∨ x0.toInt = 109 ∨ x0.toInt = 110 ∨ x0.toInt = 111 ∨ x0.toInt = 112 ∨ x0.toInt = 113 ∨ x0.toInt = 114 ∨ x0.toInt = 116 ∨ x0.toInt = 118 from by omega) with c9 | c9 | c9 | c9 | c9 | c9 | c9 | c9 | c9 | c9 | c9 | c9 | c9 | c9 | c9
    · skip
      refine lv_tableOut (x := x0) (tgt := 108) hx hb dX12_nameOf_1 c9 (by decide) ?_
      refine lv_iconst (v := (-1)) hx hb dX12_nameOf_108 (by decide) ?_
      have k99 : ((-1) : Int32).toInt = (-1) := (by decide)
      exact hret _ _ _ _ (-1) f L Q dX12_nameOf_109 hP hS ⟨⟨rfl, rfl, rfl⟩, (by decide), (by omega)⟩
    · skip
      refine lv_tableIn (x := x0) (tgt := 108) hx hb dX12_nameOf_1 (by omega) (by omega) (by rw [c9]; rfl) (by decide) ?_
      refine lv_iconst (v := (-1)) hx hb dX12_nameOf_108 (by decide) ?_
      have k99 : ((-1) : Int32).toInt = (-1) := (by decide)
      exact hret _ _ _ _ (-1) f L Q dX12_nameOf_109 hP hS ⟨⟨rfl, rfl, rfl⟩, (by decide), (by omega)⟩
    · skip
      refine lv_tableIn (x := x0) (tgt := 108) hx hb dX12_nameOf_1 (by omega) (by omega) (by rw [c9]; rfl) (by decide) ?_
      refine lv_iconst (v := (-1)) hx hb dX12_nameOf_108 (by decide) ?_
      have k99 : ((-1) : Int32).toInt = (-1) := (by decide)
      exact hret _ _ _ _ (-1) f L Q dX12_nameOf_109 hP hS ⟨⟨rfl, rfl, rfl⟩, (by decide), (by omega)⟩
    · skip
      refine lv_tableIn (x := x0) (tgt := 108) hx hb dX12_nameOf_1 (by omega) (by omega) (by rw [c9]; rfl) (by decide) ?_
      refine lv_iconst (v := (-1)) hx hb dX12_nameOf_108 (by decide) ?_
      have k99 : ((-1) : Int32).toInt = (-1) := (by decide)
      exact hret _ _ _ _ (-1) f L Q dX12_nameOf_109 hP hS ⟨⟨rfl, rfl, rfl⟩, (by decide), (by omega)⟩
    · skip
      refine lv_tableIn (x := x0) (tgt := 108) hx hb dX12_nameOf_1 (by omega) (by omega) (by rw [c9]; rfl) (by decide) ?_
      refine lv_iconst (v := (-1)) hx hb dX12_nameOf_108 (by decide) ?_
      have k99 : ((-1) : Int32).toInt = (-1) := (by decide)
      exact hret _ _ _ _ (-1) f L Q dX12_nameOf_109 hP hS ⟨⟨rfl, rfl, rfl⟩, (by decide), (by omega)⟩
    · skip
      refine lv_tableIn (x := x0) (tgt := 108) hx hb dX12_nameOf_1 (by omega) (by omega) (by rw [c9]; rfl) (by decide) ?_
      refine lv_iconst (v := (-1)) hx hb dX12_nameOf_108 (by decide) ?_
      have k99 : ((-1) : Int32).toInt = (-1) := (by decide)
      exact hret _ _ _ _ (-1) f L Q dX12_nameOf_109 hP hS ⟨⟨rfl, rfl, rfl⟩, (by decide), (by omega)⟩
    · skip
      refine lv_tableIn (x := x0) (tgt := 108) hx hb dX12_nameOf_1 (by omega) (by omega) (by rw [c9]; rfl) (by decide) ?_
      refine lv_iconst (v := (-1)) hx hb dX12_nameOf_108 (by decide) ?_
      have k99 : ((-1) : Int32).toInt = (-1) := (by decide)
      exact hret _ _ _ _ (-1) f L Q dX12_nameOf_109 hP hS ⟨⟨rfl, rfl, rfl⟩, (by decide), (by omega)⟩
    · skip
      refine lv_tableIn (x := x0) (tgt := 108) hx hb dX12_nameOf_1 (by omega) (by omega) (by rw [c9]; rfl) (by decide) ?_
      refine lv_iconst (v := (-1)) hx hb dX12_nameOf_108 (by decide) ?_
      have k99 : ((-1) : Int32).toInt = (-1) := (by decide)
      exact hret _ _ _ _ (-1) f L Q dX12_nameOf_109 hP hS ⟨⟨rfl, rfl, rfl⟩, (by decide), (by omega)⟩
    · skip
      refine lv_tableIn (x := x0) (tgt := 108) hx hb dX12_nameOf_1 (by omega) (by omega) (by rw [c9]; rfl) (by decide) ?_
      refine lv_iconst (v := (-1)) hx hb dX12_nameOf_108 (by decide) ?_
      have k99 : ((-1) : Int32).toInt = (-1) := (by decide)
      exact hret _ _ _ _ (-1) f L Q dX12_nameOf_109 hP hS ⟨⟨rfl, rfl, rfl⟩, (by decide), (by omega)⟩
    · skip
      refine lv_tableIn (x := x0) (tgt := 108) hx hb dX12_nameOf_1 (by omega) (by omega) (by rw [c9]; rfl) (by decide) ?_
      refine lv_iconst (v := (-1)) hx hb dX12_nameOf_108 (by decide) ?_
      have k99 : ((-1) : Int32).toInt = (-1) := (by decide)
      exact hret _ _ _ _ (-1) f L Q dX12_nameOf_109 hP hS ⟨⟨rfl, rfl, rfl⟩, (by decide), (by omega)⟩
    · skip
      refine lv_tableIn (x := x0) (tgt := 108) hx hb dX12_nameOf_1 (by omega) (by omega) (by rw [c9]; rfl) (by decide) ?_
      refine lv_iconst (v := (-1)) hx hb dX12_nameOf_108 (by decide) ?_
      have k99 : ((-1) : Int32).toInt = (-1) := (by decide)
      exact hret _ _ _ _ (-1) f L Q dX12_nameOf_109 hP hS ⟨⟨rfl, rfl, rfl⟩, (by decide), (by omega)⟩
    · skip
      refine lv_tableIn (x := x0) (tgt := 108) hx hb dX12_nameOf_1 (by omega) (by omega) (by rw [c9]; rfl) (by decide) ?_
      refine lv_iconst (v := (-1)) hx hb dX12_nameOf_108 (by decide) ?_
      have k99 : ((-1) : Int32).toInt = (-1) := (by decide)
      exact hret _ _ _ _ (-1) f L Q dX12_nameOf_109 hP hS ⟨⟨rfl, rfl, rfl⟩, (by decide), (by omega)⟩
    · skip
      refine lv_tableIn (x := x0) (tgt := 108) hx hb dX12_nameOf_1 (by omega) (by omega) (by rw [c9]; rfl) (by decide) ?_
      refine lv_iconst (v := (-1)) hx hb dX12_nameOf_108 (by decide) ?_
      have k99 : ((-1) : Int32).toInt = (-1) := (by decide)
      exact hret _ _ _ _ (-1) f L Q dX12_nameOf_109 hP hS ⟨⟨rfl, rfl, rfl⟩, (by decide), (by omega)⟩
    · skip
      refine lv_tableIn (x := x0) (tgt := 108) hx hb dX12_nameOf_1 (by omega) (by omega) (by rw [c9]; rfl) (by decide) ?_
      refine lv_iconst (v := (-1)) hx hb dX12_nameOf_108 (by decide) ?_
      have k99 : ((-1) : Int32).toInt = (-1) := (by decide)
      exact hret _ _ _ _ (-1) f L Q dX12_nameOf_109 hP hS ⟨⟨rfl, rfl, rfl⟩, (by decide), (by omega)⟩
    · skip
      refine lv_tableIn (x := x0) (tgt := 108) hx hb dX12_nameOf_1 (by omega) (by omega) (by rw [c9]; rfl) (by decide) ?_
      refine lv_iconst (v := (-1)) hx hb dX12_nameOf_108 (by decide) ?_
      have k99 : ((-1) : Int32).toInt = (-1) := (by decide)
      exact hret _ _ _ _ (-1) f L Q dX12_nameOf_109 hP hS ⟨⟨rfl, rfl, rfl⟩, (by decide), (by omega)⟩
  · skip
    have c_1 := c
    refine lv_tableIn (x := x0) (tgt := 96) hx hb dX12_nameOf_1 (by omega) (by omega) (by rw [c]; rfl) (by decide) ?_
    refine lv_iconst (v := 0) hx hb dX12_nameOf_96 (by decide) ?_
    have k99 : (0 : Int32).toInt = 0 := (by decide)
    exact hret _ _ _ _ (0) f L Q dX12_nameOf_97 hP hS ⟨⟨rfl, rfl, rfl⟩, (by decide), (by omega)⟩
  · skip
    have c_2 := c
    refine lv_tableIn (x := x0) (tgt := 104) hx hb dX12_nameOf_1 (by omega) (by omega) (by rw [c]; rfl) (by decide) ?_
    refine lv_iconst (v := 4) hx hb dX12_nameOf_104 (by decide) ?_
    have k99 : (4 : Int32).toInt = 4 := (by decide)
    exact hret _ _ _ _ (4) f L Q dX12_nameOf_105 hP hS ⟨⟨rfl, rfl, rfl⟩, (by decide), (by omega)⟩
  · skip
    have c_3 := c
    refine lv_tableIn (x := x0) (tgt := 106) hx hb dX12_nameOf_1 (by omega) (by omega) (by rw [c]; rfl) (by decide) ?_
    refine lv_iconst (v := 5) hx hb dX12_nameOf_106 (by decide) ?_
    have k99 : (5 : Int32).toInt = 5 := (by decide)
    exact hret _ _ _ _ (5) f L Q dX12_nameOf_107 hP hS ⟨⟨rfl, rfl, rfl⟩, (by decide), (by omega)⟩
  · skip
    have c_4 := c
    refine lv_tableIn (x := x0) (tgt := 100) hx hb dX12_nameOf_1 (by omega) (by omega) (by rw [c]; rfl) (by decide) ?_
    refine lv_iconst (v := 2) hx hb dX12_nameOf_100 (by decide) ?_
    have k99 : (2 : Int32).toInt = 2 := (by decide)
    exact hret _ _ _ _ (2) f L Q dX12_nameOf_101 hP hS ⟨⟨rfl, rfl, rfl⟩, (by decide), (by omega)⟩
  · skip
    have c_5 := c
    refine lv_tableIn (x := x0) (tgt := 98) hx hb dX12_nameOf_1 (by omega) (by omega) (by rw [c]; rfl) (by decide) ?_
    refine lv_iconst (v := 1) hx hb dX12_nameOf_98 (by decide) ?_
    have k99 : (1 : Int32).toInt = 1 := (by decide)
    exact hret _ _ _ _ (1) f L Q dX12_nameOf_99 hP hS ⟨⟨rfl, rfl, rfl⟩, (by decide), (by omega)⟩
  · skip
    have c_6 := c
    refine lv_tableIn (x := x0) (tgt := 102) hx hb dX12_nameOf_1 (by omega) (by omega) (by rw [c]; rfl) (by decide) ?_
    refine lv_iconst (v := 3) hx hb dX12_nameOf_102 (by decide) ?_
    have k99 : (3 : Int32).toInt = 3 := (by decide)
    exact hret _ _ _ _ (3) f L Q dX12_nameOf_103 hP hS ⟨⟨rfl, rfl, rfl⟩, (by decide), (by omega)⟩

abbrev WkX12_one_6 : List (Nat × Nat × Option Nat) := [(0, 0, some 13), (0, 0, some 15)]
set_option maxHeartbeats 4000000 in
set_option maxRecDepth 100000 in
theorem kX12_one_6 (l : Launch) (D : va_G) (ca : Nat → ClassId) (za h : Nat → Nat) (hh : sgH 26 h) (f : sg_F) (L : sg_L) (Q : sg_Q) (hI : sgI loM hiM f) (p0 : 6 ≤ (f 0 16).toInt) (p1 : 0 ≤ (f 0 15).toInt ∨ (f 0 16).toInt = 6) (sz : Nat) : Met l yX12_one gwX12_one { frames := 1, cells := 0, slots := 0, locals := 20 } (sgP D vwCl (tyX ca) 26 h (eM ca h) zcM za f L Q sz [.ref (h 0)]) (sgQi D vwCl 26 h (eM ca h) sz (fun r f1 L1 Q1 => ((sgI loM hiM f1 ∧ sgK WkX12_one_6 f f1 ∧ L1 = L ∧ Q1 = Q) ∧ True ∧ ((f 0 13).toInt ≤ (f1 0 13).toInt) ∧ (6 ≤ (f1 0 16).toInt) ∧ (0 ≤ (f1 0 15).toInt ∨ (f1 0 16).toInt = 6)))) 0 0 (sgA 26 h sz) := by
  refine sg_ofWi (cc := cX12_one) (maxL := 5) RX12 (by decide) rfl rfl (Nat.le_of_ble_eq_true rfl) ?_
  intro p e s m below meth cd Qz ls hx hb hml hown hts hK hZ hP hS hl hret
  have hA := sgY.self (n := 26) (h := h) (sz := s.heap.size)
  have hl : lv_has ls 5 [(0, .ref (h 0))] := hl
  obtain ⟨H, hH⟩ : ∃ z : Heap, z = s.heap := ⟨_, rfl⟩
  obtain ⟨locs, hlo⟩ : ∃ z : List Loc, z = [] := ⟨_, rfl⟩
  have hP : va_P D vwCl (sgw 26 h (eM ca h) f L Q) H := by rw [hH]; exact hP
  have hS : va_S (sgA 26 h s.heap.size) s.heap H locs := by rw [hH, hlo]; exact hS
  suffices hgo : W p l e ({ frames := 1, cells := 0, slots := 0, locals := 20 }) s m ([.ref (h 0)] : List Value).toArray below meth cd H locs 0 0 Qz (F0 m 0 ls []) by rw [hH, hlo] at hgo; exact hgo
  clear hH hlo
  obtain ⟨v_1, ev_1⟩ : ∃ z : Int32, z = f 0 16 := ⟨_, rfl⟩
  have q_2 : 0 ≤ v_1.toInt ∧ v_1.toInt ≤ 6 := by rw [ev_1]; exact hI 0 16
  obtain ⟨v_3, ev_3⟩ : ∃ z : Int32, z = f 0 15 := ⟨_, rfl⟩
  have q_4 : (-1) ≤ v_3.toInt ∧ v_3.toInt ≤ 120 := by rw [ev_3]; exact hI 0 15
  obtain ⟨v_5, ev_5⟩ : ∃ z : Int32, z = f 0 13 := ⟨_, rfl⟩
  have q_6 : 0 ≤ v_5.toInt ∧ v_5.toInt ≤ 120 := by rw [ev_5]; exact hI 0 13
  have o_7 : (f 0 16).toInt = v_1.toInt := (congrArg Int32.toInt (show f 0 16 = v_1 from ev_1.symm))
  have o_8 : (f 0 15).toInt = v_3.toInt := (congrArg Int32.toInt (show f 0 15 = v_3 from ev_3.symm))
  have o_9 : (f 0 13).toInt = v_5.toInt := (congrArg Int32.toInt (show f 0 13 = v_5 from ev_5.symm))
  have hF : sgK WkX12_one_6 f f := sgK.rf
  have blk_229 : ∀ (y3_229 : Int32) (y4_229 : Int32) (fp_229 : sg_F) (H : Heap) (locs : List Loc) (ls : Array Slot), (-1) ≤ (fp_229 0 15).toInt ∧ (fp_229 0 15).toInt ≤ (-1) → 0 ≤ y4_229.toInt ∧ y4_229.toInt ≤ 4 → (f 0 13).toInt ≤ (fp_229 0 13).toInt → 6 ≤ (fp_229 0 16).toInt → 0 ≤ (fp_229 0 15).toInt ∨ (fp_229 0 16).toInt = 6 → sgI loM hiM fp_229 → sgK WkX12_one_6 f fp_229 → va_P D vwCl (sgw 26 h (eM ca h) fp_229 L Q) H → va_S (sgA 26 h s.heap.size) s.heap H locs → lv_has ls 5 [(0, .ref (h 0)), (3, .int y3_229), (4, .int y4_229)] → W p l e ({ frames := 1, cells := 0, slots := 0, locals := 20 }) s m ([.ref (h 0)] : List Value).toArray below meth cd H locs 0 0 Qz (F0 m 229 ls []) := by
    intro y3_229 y4_229 fp_229 H locs ls hy0_229 hy1_229 hg0_229 hg1_229 hg2_229 hI hF hP hS hl
    obtain ⟨v_10, ev_10⟩ : ∃ z : Int32, z = fp_229 0 15 := ⟨_, rfl⟩
    have q_11 : (-1) ≤ v_10.toInt ∧ v_10.toInt ≤ 120 := by rw [ev_10]; exact hI 0 15
    have q_12 : (fp_229 0 15).toInt = v_10.toInt := by rw [ev_10]
    obtain ⟨v_13, ev_13⟩ : ∃ z : Int32, z = fp_229 0 13 := ⟨_, rfl⟩
    have q_14 : 0 ≤ v_13.toInt ∧ v_13.toInt ≤ 120 := by rw [ev_13]; exact hI 0 13
    have q_15 : (fp_229 0 13).toInt = v_13.toInt := by rw [ev_13]
    obtain ⟨v_16, ev_16⟩ : ∃ z : Int32, z = fp_229 0 16 := ⟨_, rfl⟩
    have q_17 : 0 ≤ v_16.toInt ∧ v_16.toInt ≤ 6 := by rw [ev_16]; exact hI 0 16
    have q_18 : (fp_229 0 16).toInt = v_16.toInt := by rw [ev_16]
    refine lv_iload hx hb dX12_one_229 (lv_at hl 2 rfl) ?_
    refine lv_if_ne (tgt := 241) hx hb dX12_one_231 (by decide) (fun c => ?_) (fun c => ?_)
    · skip
      have c_19 : y4_229.toInt ≠ 0 := (by have z := bn_ne c; have k1 : (0 : Int32).toInt = 0 := (by decide); omega)
      refine lv_iload_n hx hb dX12_one_241 rfl (lv_at hl 1 rfl) ?_
      have q_21 : (fp_229 0 13).toInt = v_13.toInt := (congrArg Int32.toInt (show fp_229 0 13 = v_13 from ev_13.symm))
      have q_22 : (fp_229 0 16).toInt = v_16.toInt := (congrArg Int32.toInt (show fp_229 0 16 = v_16 from ev_16.symm))
      have q_23 : (fp_229 0 15).toInt = v_10.toInt := (congrArg Int32.toInt (show fp_229 0 15 = v_10 from ev_10.symm))
      have q_24 : (fp_229 0 16).toInt = v_16.toInt := (congrArg Int32.toInt (show fp_229 0 16 = v_16 from ev_16.symm))
      exact hret _ _ _ _ (y3_229) fp_229 L Q dX12_one_242 hP hS ⟨⟨hI, hF, rfl, rfl⟩, trivial, (by omega), (by omega), (by omega)⟩
    · skip
      have c_20 : y4_229.toInt = 0 := (by have z := Int32.toInt_inj.mpr c; have k1 : (0 : Int32).toInt = 0 := (by decide); omega)
      refine lv_aload_n hx hb dX12_one_234 rfl (lv_at hl 0 rfl) ?_
      refine sg_calli (va_runV (As := []) (rest := []) ⟨hx, hb, hml, hown, hts⟩ (kX12_wrong l D ca za h hh fp_229 L Q hI H.size) (cwV 0 hts (gw_V (fun _ h => List.mem_cons_of_mem _ h) mw_889 mw_890 mw_891 mw_619 mw_888) rfl rfl rfl (by decide +kernel) ⟨Nat.le_of_ble_eq_true rfl, Nat.le_of_ble_eq_true rfl⟩) (sg_preV (ci := 12) (C := RX12) (T := TX12) (N := 55) hA hK hP hS hZ 0 (by decide) rfl rfl) rfl rfl hl.1 rfl (lv_room (Nat.le_of_ble_eq_true rfl)) dX12_one_235 ⟨Nat.le_refl _, Nat.le_refl _⟩) hA hS (fun r_28 f_25 L_26 Q_27 H locs hq hP hS => ?_)
      obtain ⟨⟨hI, hk_f_25, eL9, eQ9⟩, hq, p_29⟩ := hq
      rw [eL9, eQ9] at hP; clear eL9 eQ9
      have hF : sgK WkX12_one_6 f f_25 := sgK.tr hF hk_f_25 (by decide)
      obtain ⟨v_30, ev_30⟩ : ∃ z : Int32, z = f_25 0 15 := ⟨_, rfl⟩
      have q_31 : (-1) ≤ v_30.toInt ∧ v_30.toInt ≤ 120 := by rw [ev_30]; exact hI 0 15
      have q_32 : (f_25 0 15).toInt = v_30.toInt := (congrArg Int32.toInt (show f_25 0 15 = v_30 from ev_30.symm))
      obtain rfl : r_28 = 0 := Int32.toInt_inj.mp (by have k9 : (0 : Int32).toInt = 0 := (by decide); omega)
      refine lv_goto (tgt := 242) hx hb dX12_one_238 (by decide) ?_
      have q_33 : (f_25 0 13).toInt = v_13.toInt := (congrArg Int32.toInt (show f_25 0 13 = v_13 from ((hk_f_25 0 13 (by decide)).trans ev_13.symm)))
      have q_34 : (f_25 0 16).toInt = v_16.toInt := (congrArg Int32.toInt (show f_25 0 16 = v_16 from ((hk_f_25 0 16 (by decide)).trans ev_16.symm)))
      have q_35 : (f_25 0 15).toInt = v_30.toInt := (congrArg Int32.toInt (show f_25 0 15 = v_30 from ev_30.symm))
      have q_36 : (f_25 0 16).toInt = v_16.toInt := (congrArg Int32.toInt (show f_25 0 16 = v_16 from ((hk_f_25 0 16 (by decide)).trans ev_16.symm)))
      have k99 : (0 : Int32).toInt = 0 := (by decide)
      exact hret _ _ _ _ (0) f_25 L Q dX12_one_242 hP hS ⟨⟨hI, hF, rfl, rfl⟩, trivial, (by omega), (by omega), (by omega)⟩
  have loop_176 : ∀ (n_176 : Nat) (y3_176 : Int32) (y4_176 : Int32) (fp_176 : sg_F) (H : Heap) (locs : List Loc) (ls : Array Slot), 4 - y4_176.toInt < (n_176 : Int) → (-1) ≤ (fp_176 0 15).toInt ∧ (fp_176 0 15).toInt ≤ (-1) → 0 ≤ y4_176.toInt ∧ y4_176.toInt ≤ 4 → (f 0 13).toInt ≤ (fp_176 0 13).toInt → 6 ≤ (fp_176 0 16).toInt → 0 ≤ (fp_176 0 15).toInt ∨ (fp_176 0 16).toInt = 6 → sgI loM hiM fp_176 → sgK WkX12_one_6 f fp_176 → va_P D vwCl (sgw 26 h (eM ca h) fp_176 L Q) H → va_S (sgA 26 h s.heap.size) s.heap H locs → lv_has ls 5 [(0, .ref (h 0)), (3, .int y3_176), (4, .int y4_176)] → W p l e ({ frames := 1, cells := 0, slots := 0, locals := 20 }) s m ([.ref (h 0)] : List Value).toArray below meth cd H locs 0 0 Qz (F0 m 176 ls []) := by
    intro n_176
    induction n_176 with
    | zero => intro y3_176 y4_176 fp_176 H locs ls hm_176 hy0_176 hy1_176 hg0_176 hg1_176 hg2_176 hI hF hP hS hl; exact absurd hm_176 (by omega)
    | succ n_176 ih_176 =>
      intro y3_176 y4_176 fp_176 H locs ls hm_176 hy0_176 hy1_176 hg0_176 hg1_176 hg2_176 hI hF hP hS hl
      obtain ⟨v_37, ev_37⟩ : ∃ z : Int32, z = fp_176 0 15 := ⟨_, rfl⟩
      have q_38 : (-1) ≤ v_37.toInt ∧ v_37.toInt ≤ 120 := by rw [ev_37]; exact hI 0 15
      have q_39 : (fp_176 0 15).toInt = v_37.toInt := by rw [ev_37]
      obtain ⟨v_40, ev_40⟩ : ∃ z : Int32, z = fp_176 0 13 := ⟨_, rfl⟩
      have q_41 : 0 ≤ v_40.toInt ∧ v_40.toInt ≤ 120 := by rw [ev_40]; exact hI 0 13
      have q_42 : (fp_176 0 13).toInt = v_40.toInt := by rw [ev_40]
      obtain ⟨v_43, ev_43⟩ : ∃ z : Int32, z = fp_176 0 16 := ⟨_, rfl⟩
      have q_44 : 0 ≤ v_43.toInt ∧ v_43.toInt ≤ 6 := by rw [ev_43]; exact hI 0 16
      have q_45 : (fp_176 0 16).toInt = v_43.toInt := by rw [ev_43]
      refine lv_iload hx hb dX12_one_176 (lv_at hl 2 rfl) ?_
      refine lv_iconst (v := 4) hx hb dX12_one_178 (by decide) ?_
      refine lv_icmp_ge (tgt := 229) hx hb dX12_one_179 (by decide) (fun c => ?_) (fun c => ?_)
      · skip
        have c_46 : 4 ≤ y4_176.toInt := (by have z := bn_le c; have k1 : (4 : Int32).toInt = 4 := (by decide); omega)
        exact blk_229 y3_176 y4_176 fp_176 _ _ _ (by have zz0_15 : (fp_176 0 15).toInt = v_37.toInt := (congrArg Int32.toInt (show fp_176 0 15 = v_37 from ev_37.symm)); omega) (by omega) (by have zz0_13 : (fp_176 0 13).toInt = v_40.toInt := (congrArg Int32.toInt (show fp_176 0 13 = v_40 from ev_40.symm)); omega) (by have zz0_16 : (fp_176 0 16).toInt = v_43.toInt := (congrArg Int32.toInt (show fp_176 0 16 = v_43 from ev_43.symm)); omega) (by have zz0_15 : (fp_176 0 15).toInt = v_37.toInt := (congrArg Int32.toInt (show fp_176 0 15 = v_37 from ev_37.symm)); have zz0_16 : (fp_176 0 16).toInt = v_43.toInt := (congrArg Int32.toInt (show fp_176 0 16 = v_43 from ev_43.symm)); omega) hI hF hP hS (lv_sub hl [0, 1, 2] rfl)
      · skip
        have c_47 : y4_176.toInt < 4 := (by have z := bn_nle c; have k1 : (4 : Int32).toInt = 4 := (by decide); omega)
        refine lv_aload_n hx hb dX12_one_182 rfl (lv_at hl 0 rfl) ?_
        have q_48 : (fp_176 0 13).toInt = v_40.toInt := (congrArg Int32.toInt (show fp_176 0 13 = v_40 from ev_40.symm))
        obtain ⟨v_49, ev_49⟩ : ∃ z : Int32, z = fp_176 0 14 := ⟨_, rfl⟩
        have q_50 : 0 ≤ v_49.toInt ∧ v_49.toInt ≤ 120 := by rw [ev_49]; exact hI 0 14
        have q_51 : (fp_176 0 14).toInt = v_49.toInt := (congrArg Int32.toInt (show fp_176 0 14 = v_49 from ev_49.symm))
        refine sg_calli (va_runV (As := []) (rest := []) ⟨hx, hb, hml, hown, hts⟩ (kX12_byteAt l D ca za h hh fp_176 L Q hI H.size) (cwV 0 hts (gw_V (fun _ h => List.mem_cons_of_mem _ h) mw_840 mw_841 mw_842 mw_619 mw_839) rfl rfl rfl (by decide +kernel) ⟨Nat.le_of_ble_eq_true rfl, Nat.le_of_ble_eq_true rfl⟩) (sg_preV (ci := 12) (C := RX12) (T := TX12) (N := 55) hA hK hP hS hZ 0 (by decide) rfl rfl) rfl rfl hl.1 rfl (lv_room (Nat.le_of_ble_eq_true rfl)) dX12_one_183 ⟨Nat.le_refl _, Nat.le_refl _⟩) hA hS (fun r_55 f_52 L_53 Q_54 H locs hq hP hS => ?_)
        obtain ⟨⟨ef9, eL9, eQ9⟩, hq, p_56⟩ := hq
        rw [ef9, eL9, eQ9] at hP; clear ef9 eL9 eQ9
        refine lv_bipush (v := 48) hx hb dX12_one_186 (by decide) ?_
        refine lv_icmp_lt (tgt := 229) hx hb dX12_one_188 (by decide) (fun c => ?_) (fun c => ?_)
        · skip
          have c_57 : r_55.toInt < 48 := (by have z := bn_lt c; have k1 : (48 : Int32).toInt = 48 := (by decide); omega)
          exact blk_229 y3_176 y4_176 fp_176 _ _ _ (by have zz0_15 : (fp_176 0 15).toInt = v_37.toInt := (congrArg Int32.toInt (show fp_176 0 15 = v_37 from ev_37.symm)); omega) (by omega) (by have zz0_13 : (fp_176 0 13).toInt = v_40.toInt := (congrArg Int32.toInt (show fp_176 0 13 = v_40 from ev_40.symm)); omega) (by have zz0_16 : (fp_176 0 16).toInt = v_43.toInt := (congrArg Int32.toInt (show fp_176 0 16 = v_43 from ev_43.symm)); omega) (by have zz0_15 : (fp_176 0 15).toInt = v_37.toInt := (congrArg Int32.toInt (show fp_176 0 15 = v_37 from ev_37.symm)); have zz0_16 : (fp_176 0 16).toInt = v_43.toInt := (congrArg Int32.toInt (show fp_176 0 16 = v_43 from ev_43.symm)); omega) hI hF hP hS (lv_sub hl [0, 1, 2] rfl)
        · skip
          have c_58 : 48 ≤ r_55.toInt := (by have z := bn_nlt c; have k1 : (48 : Int32).toInt = 48 := (by decide); omega)
          refine lv_aload_n hx hb dX12_one_191 rfl (lv_at hl 0 rfl) ?_
          have q_59 : (fp_176 0 13).toInt = v_40.toInt := (congrArg Int32.toInt (show fp_176 0 13 = v_40 from ev_40.symm))
          have q_60 : (fp_176 0 14).toInt = v_49.toInt := (congrArg Int32.toInt (show fp_176 0 14 = v_49 from ev_49.symm))
          refine sg_calli (va_runV (As := []) (rest := []) ⟨hx, hb, hml, hown, hts⟩ (kX12_byteAt l D ca za h hh fp_176 L Q hI H.size) (cwV 0 hts (gw_V (fun _ h => List.mem_cons_of_mem _ h) mw_840 mw_841 mw_842 mw_619 mw_839) rfl rfl rfl (by decide +kernel) ⟨Nat.le_of_ble_eq_true rfl, Nat.le_of_ble_eq_true rfl⟩) (sg_preV (ci := 12) (C := RX12) (T := TX12) (N := 55) hA hK hP hS hZ 0 (by decide) rfl rfl) rfl rfl hl.1 rfl (lv_room (Nat.le_of_ble_eq_true rfl)) dX12_one_192 ⟨Nat.le_refl _, Nat.le_refl _⟩) hA hS (fun r_64 f_61 L_62 Q_63 H locs hq hP hS => ?_)
          obtain ⟨⟨ef9, eL9, eQ9⟩, hq, p_65⟩ := hq
          rw [ef9, eL9, eQ9] at hP; clear ef9 eL9 eQ9
          refine lv_bipush (v := 57) hx hb dX12_one_195 (by decide) ?_
          refine lv_icmp_gt (tgt := 229) hx hb dX12_one_197 (by decide) (fun c => ?_) (fun c => ?_)
          · skip
            have c_66 : 57 < r_64.toInt := (by have z := bn_lt c; have k1 : (57 : Int32).toInt = 57 := (by decide); omega)
            exact blk_229 y3_176 y4_176 fp_176 _ _ _ (by have zz0_15 : (fp_176 0 15).toInt = v_37.toInt := (congrArg Int32.toInt (show fp_176 0 15 = v_37 from ev_37.symm)); omega) (by omega) (by have zz0_13 : (fp_176 0 13).toInt = v_40.toInt := (congrArg Int32.toInt (show fp_176 0 13 = v_40 from ev_40.symm)); omega) (by have zz0_16 : (fp_176 0 16).toInt = v_43.toInt := (congrArg Int32.toInt (show fp_176 0 16 = v_43 from ev_43.symm)); omega) (by have zz0_15 : (fp_176 0 15).toInt = v_37.toInt := (congrArg Int32.toInt (show fp_176 0 15 = v_37 from ev_37.symm)); have zz0_16 : (fp_176 0 16).toInt = v_43.toInt := (congrArg Int32.toInt (show fp_176 0 16 = v_43 from ev_43.symm)); omega) hI hF hP hS (lv_sub hl [0, 1, 2] rfl)
          · skip
            have c_67 : r_64.toInt ≤ 57 := (by have z := bn_nlt c; have k1 : (57 : Int32).toInt = 57 := (by decide); omega)
            refine lv_bipush (v := 10) hx hb dX12_one_200 (by decide) ?_
            refine lv_iload_n hx hb dX12_one_202 rfl (lv_at hl 1 rfl) ?_
            refine lv_imul hx hb dX12_one_203 ?_
            refine lv_topi (fun v_68 ev_68 => ?_)
            refine lv_aload_n hx hb dX12_one_204 rfl (lv_at hl 0 rfl) ?_
            have q_69 : (fp_176 0 13).toInt = v_40.toInt := (congrArg Int32.toInt (show fp_176 0 13 = v_40 from ev_40.symm))
            have q_70 : (fp_176 0 14).toInt = v_49.toInt := (congrArg Int32.toInt (show fp_176 0 14 = v_49 from ev_49.symm))
            refine sg_calli (va_runV (As := []) (rest := [.int v_68]) ⟨hx, hb, hml, hown, hts⟩ (kX12_byteAt l D ca za h hh fp_176 L Q hI H.size) (cwV 0 hts (gw_V (fun _ h => List.mem_cons_of_mem _ h) mw_840 mw_841 mw_842 mw_619 mw_839) rfl rfl rfl (by decide +kernel) ⟨Nat.le_of_ble_eq_true rfl, Nat.le_of_ble_eq_true rfl⟩) (sg_preV (ci := 12) (C := RX12) (T := TX12) (N := 55) hA hK hP hS hZ 0 (by decide) rfl rfl) rfl rfl hl.1 rfl (lv_room (Nat.le_of_ble_eq_true rfl)) dX12_one_205 ⟨Nat.le_refl _, Nat.le_refl _⟩) hA hS (fun r_74 f_71 L_72 Q_73 H locs hq hP hS => ?_)
            obtain ⟨⟨ef9, eL9, eQ9⟩, hq, p_75⟩ := hq
            rw [ef9, eL9, eQ9] at hP; clear ef9 eL9 eQ9
            refine lv_iadd hx hb dX12_one_208 ?_
            refine lv_topi (fun v_76 ev_76 => ?_)
            refine lv_bipush (v := 48) hx hb dX12_one_209 (by decide) ?_
            refine lv_isub hx hb dX12_one_211 ?_
            refine lv_topi (fun v_77 ev_77 => ?_)
            refine lv_istore_n (lv' := [(3, .int v_77), (0, .ref (h 0)), (4, .int y4_176)]) hx hb dX12_one_212 rfl hl (by decide) rfl (fun ls hl => ?_)
            obtain ⟨v_78, ev_78⟩ : ∃ z : Int32, z = y4_176 + 1 := ⟨_, rfl⟩
            have q_79 : v_78.toInt = y4_176.toInt + 1 := by rw [ev_78]; exact (bn_addc y4_176 1 (by decide) (by omega) (by omega))
            refine lv_iinc (v := v_78) (lv' := [(4, .int v_78), (3, .int v_77), (0, .ref (h 0))]) hx hb dX12_one_213 hl (k := 2) rfl (by rw [ev_78]; rfl) (by decide) rfl (fun ls hl => ?_)
            refine lv_aload_n hx hb dX12_one_216 rfl (lv_at hl 2 rfl) ?_
            refine lv_dup hx hb dX12_one_217 rfl ?_
            refine sg_get (ci := 12) (v := .int v_40) (C := RX12) (T := TX12) (N := 55) hx hb hts (fun w h => List.mem_cons_of_mem _ (gx_12 w h)) hown hK hP 0 (by decide) rfl rfl 13 (by decide) (hts _ (List.mem_cons_of_mem _ mw_625)) (fun _ h9 => h9) (congrArg (fun z => some (Value.int z)) (show fp_176 0 13 = v_40 from ev_40.symm)) dX12_one_218 ?_
            refine lv_iconst (v := 1) hx hb dX12_one_221 (by decide) ?_
            refine lv_iadd hx hb dX12_one_222 ?_
            refine lv_topi (fun v_80 ev_80 => ?_)
            have q_81 : v_80.toInt = v_40.toInt + 1 := by rw [ev_80]; have k1 : (1 : Int32).toInt = 1 := (by decide); exact (bn_addI (by omega) (by omega)).trans (by omega)
            refine sg_put (ci := 12) (x := v_80) (ty := .int) (C := RX12) (T := TX12) (N := 55) hx hb hts (fun w h => List.mem_cons_of_mem _ (gx_12 w h)) tyX12 tyX12_ok nmX12 hown hh hA hK hP hS 0 (by decide) rfl rfl 13 (by decide) (hts _ (List.mem_cons_of_mem _ mw_625)) (fun _ h9 => h9) rfl rfl (by decide +kernel) rfl rfl (Nat.le_of_ble_eq_true rfl) dX12_one_223 (fun f_82 H locs ef_82 hP hS => ?_)
            have hI : sgI loM hiM f_82 := by rw [ef_82]; exact sgI.put hI 0 13 (show 0 ≤ (v_80 : Int32).toInt ∧ (v_80 : Int32).toInt ≤ 120 from by omega)
            have hF : sgK WkX12_one_6 f f_82 := sgK.put hF ef_82 (by rfl)
            refine lv_goto (tgt := 176) hx hb dX12_one_226 (by decide) ?_
            exact ih_176 v_77 v_78 f_82 _ _ _ (by omega) (by have zz0_15 : (f_82 0 15).toInt = v_37.toInt := (congrArg Int32.toInt (show f_82 0 15 = v_37 from (by rw [ef_82, sg_up_s, sgu_n (by decide)]; exact ev_37.symm))); omega) (by omega) (by have zz0_13 : (f_82 0 13).toInt = v_80.toInt := (congrArg Int32.toInt (show f_82 0 13 = v_80 from (by rw [ef_82, sg_up_s, sgu_s]))); omega) (by have zz0_16 : (f_82 0 16).toInt = v_43.toInt := (congrArg Int32.toInt (show f_82 0 16 = v_43 from (by rw [ef_82, sg_up_s, sgu_n (by decide)]; exact ev_43.symm))); omega) (by have zz0_15 : (f_82 0 15).toInt = v_37.toInt := (congrArg Int32.toInt (show f_82 0 15 = v_37 from (by rw [ef_82, sg_up_s, sgu_n (by decide)]; exact ev_37.symm))); have zz0_16 : (f_82 0 16).toInt = v_43.toInt := (congrArg Int32.toInt (show f_82 0 16 = v_43 from (by rw [ef_82, sg_up_s, sgu_n (by decide)]; exact ev_43.symm))); omega) hI hF hP hS (lv_sub hl [2, 1, 0] rfl)
  refine lv_aload_n hx hb dX12_one_0 rfl (lv_at hl 0 rfl) ?_
  refine sg_get (ci := 12) (v := .int v_3) (C := RX12) (T := TX12) (N := 55) hx hb hts (fun w h => List.mem_cons_of_mem _ (gx_12 w h)) hown hK hP 0 (by decide) rfl rfl 15 (by decide) (hts _ (List.mem_cons_of_mem _ mw_627)) (fun _ h9 => h9) (congrArg (fun z => some (Value.int z)) (show f 0 15 = v_3 from ev_3.symm)) dX12_one_1 ?_
  refine lv_if_lt (tgt := 9) hx hb dX12_one_4 (by decide) (fun c => ?_) (fun c => ?_)
  · skip
    have c_83 : v_3.toInt < 0 := (by have z := bn_lt c; have k1 : (0 : Int32).toInt = 0 := (by decide); omega)
    refine lv_aload_n hx hb dX12_one_9 rfl (lv_at hl 0 rfl) ?_
    have q_85 : (f 0 13).toInt = v_5.toInt := (congrArg Int32.toInt (show f 0 13 = v_5 from ev_5.symm))
    obtain ⟨v_86, ev_86⟩ : ∃ z : Int32, z = f 0 14 := ⟨_, rfl⟩
    have q_87 : 0 ≤ v_86.toInt ∧ v_86.toInt ≤ 120 := by rw [ev_86]; exact hI 0 14
    have q_88 : (f 0 14).toInt = v_86.toInt := (congrArg Int32.toInt (show f 0 14 = v_86 from ev_86.symm))
    refine sg_calli (va_runV (As := []) (rest := []) ⟨hx, hb, hml, hown, hts⟩ (kX12_byteAt l D ca za h hh f L Q hI H.size) (cwV 0 hts (gw_V (fun _ h => List.mem_cons_of_mem _ h) mw_840 mw_841 mw_842 mw_619 mw_839) rfl rfl rfl (by decide +kernel) ⟨Nat.le_of_ble_eq_true rfl, Nat.le_of_ble_eq_true rfl⟩) (sg_preV (ci := 12) (C := RX12) (T := TX12) (N := 55) hA hK hP hS hZ 0 (by decide) rfl rfl) rfl rfl hl.1 rfl (lv_room (Nat.le_of_ble_eq_true rfl)) dX12_one_10 ⟨Nat.le_refl _, Nat.le_refl _⟩) hA hS (fun r_92 f_89 L_90 Q_91 H locs hq hP hS => ?_)
    obtain ⟨⟨ef9, eL9, eQ9⟩, hq, p_93⟩ := hq
    rw [ef9, eL9, eQ9] at hP; clear ef9 eL9 eQ9
    refine lv_istore_n (lv' := [(1, .int r_92), (0, .ref (h 0))]) hx hb dX12_one_13 rfl hl (by decide) rfl (fun ls hl => ?_)
    refine lv_iload_n hx hb dX12_one_14 rfl (lv_at hl 0 rfl) ?_
    refine lv_bipush (v := 33) hx hb dX12_one_15 (by decide) ?_
    refine lv_icmp_eq (tgt := 32) hx hb dX12_one_17 (by decide) (fun c => ?_) (fun c => ?_)
    · skip
      have c_94 : r_92.toInt = 33 := (by have z := Int32.toInt_inj.mpr c; have k1 : (33 : Int32).toInt = 33 := (by decide); omega)
      refine lv_aload_n hx hb dX12_one_32 rfl (lv_at hl 1 rfl) ?_
      have c_96 : v_1 = 6 := Int32.toInt_inj.mp (by have k9 : (6 : Int32).toInt = 6 := (by decide); omega)
      refine sg_get (ci := 12) (v := .int 6) (C := RX12) (T := TX12) (N := 55) hx hb hts (fun w h => List.mem_cons_of_mem _ (gx_12 w h)) hown hK hP 0 (by decide) rfl rfl 16 (by decide) (hts _ (List.mem_cons_of_mem _ mw_628)) (fun _ h9 => h9) (congrArg (fun z => some (Value.int z)) (show f 0 16 = 6 from (Eq.trans ev_1.symm c_96))) dX12_one_33 ?_
      refine lv_bipush (v := 6) hx hb dX12_one_36 (by decide) ?_
      refine lv_icmp_ne (tgt := 46) hx hb dX12_one_38 (by decide) (fun c => absurd c (by decide)) (fun c => ?_)
      refine lv_aload_n hx hb dX12_one_41 rfl (lv_at hl 1 rfl) ?_
      refine sg_calli (va_runV (As := []) (rest := []) ⟨hx, hb, hml, hown, hts⟩ (kX12_wrong l D ca za h hh f L Q hI H.size) (cwV 0 hts (gw_V (fun _ h => List.mem_cons_of_mem _ h) mw_889 mw_890 mw_891 mw_619 mw_888) rfl rfl rfl (by decide +kernel) ⟨Nat.le_of_ble_eq_true rfl, Nat.le_of_ble_eq_true rfl⟩) (sg_preV (ci := 12) (C := RX12) (T := TX12) (N := 55) hA hK hP hS hZ 0 (by decide) rfl rfl) rfl rfl hl.1 rfl (lv_room (Nat.le_of_ble_eq_true rfl)) dX12_one_42 ⟨Nat.le_refl _, Nat.le_refl _⟩) hA hS (fun r_100 f_97 L_98 Q_99 H locs hq hP hS => ?_)
      obtain ⟨⟨hI, hk_f_97, eL9, eQ9⟩, hq, p_101⟩ := hq
      rw [eL9, eQ9] at hP; clear eL9 eQ9
      have hF : sgK WkX12_one_6 f f_97 := sgK.tr hF hk_f_97 (by decide)
      obtain ⟨v_102, ev_102⟩ : ∃ z : Int32, z = f_97 0 15 := ⟨_, rfl⟩
      have q_103 : (-1) ≤ v_102.toInt ∧ v_102.toInt ≤ 120 := by rw [ev_102]; exact hI 0 15
      have q_104 : (f_97 0 15).toInt = v_102.toInt := (congrArg Int32.toInt (show f_97 0 15 = v_102 from ev_102.symm))
      obtain rfl : r_100 = 0 := Int32.toInt_inj.mp (by have k9 : (0 : Int32).toInt = 0 := (by decide); omega)
      have q_105 : (f_97 0 13).toInt = v_5.toInt := (congrArg Int32.toInt (show f_97 0 13 = v_5 from ((hk_f_97 0 13 (by decide)).trans ev_5.symm)))
      have q_106 : (f_97 0 16).toInt = 6 := (congrArg Int32.toInt (show f_97 0 16 = 6 from ((hk_f_97 0 16 (by decide)).trans (Eq.trans ev_1.symm c_96)))).trans (by decide)
      have q_107 : (f_97 0 15).toInt = v_102.toInt := (congrArg Int32.toInt (show f_97 0 15 = v_102 from ev_102.symm))
      have q_108 : (f_97 0 16).toInt = 6 := (congrArg Int32.toInt (show f_97 0 16 = 6 from ((hk_f_97 0 16 (by decide)).trans (Eq.trans ev_1.symm c_96)))).trans (by decide)
      have k99 : (0 : Int32).toInt = 0 := (by decide)
      exact hret _ _ _ _ (0) f_97 L Q dX12_one_45 hP hS ⟨⟨hI, hF, rfl, rfl⟩, trivial, (by omega), (by omega), (by omega)⟩
    · skip
      have c_95 : r_92.toInt ≠ 33 := (by have z := bn_ne c; have k1 : (33 : Int32).toInt = 33 := (by decide); omega)
      refine lv_iload_n hx hb dX12_one_20 rfl (lv_at hl 0 rfl) ?_
      refine lv_bipush (v := 45) hx hb dX12_one_21 (by decide) ?_
      refine lv_icmp_eq (tgt := 32) hx hb dX12_one_23 (by decide) (fun c => ?_) (fun c => ?_)
      · skip
        have c_109 : r_92.toInt = 45 := (by have z := Int32.toInt_inj.mpr c; have k1 : (45 : Int32).toInt = 45 := (by decide); omega)
        refine lv_aload_n hx hb dX12_one_32 rfl (lv_at hl 1 rfl) ?_
        have c_111 : v_1 = 6 := Int32.toInt_inj.mp (by have k9 : (6 : Int32).toInt = 6 := (by decide); omega)
        refine sg_get (ci := 12) (v := .int 6) (C := RX12) (T := TX12) (N := 55) hx hb hts (fun w h => List.mem_cons_of_mem _ (gx_12 w h)) hown hK hP 0 (by decide) rfl rfl 16 (by decide) (hts _ (List.mem_cons_of_mem _ mw_628)) (fun _ h9 => h9) (congrArg (fun z => some (Value.int z)) (show f 0 16 = 6 from (Eq.trans ev_1.symm c_111))) dX12_one_33 ?_
        refine lv_bipush (v := 6) hx hb dX12_one_36 (by decide) ?_
        refine lv_icmp_ne (tgt := 46) hx hb dX12_one_38 (by decide) (fun c => absurd c (by decide)) (fun c => ?_)
        refine lv_aload_n hx hb dX12_one_41 rfl (lv_at hl 1 rfl) ?_
        refine sg_calli (va_runV (As := []) (rest := []) ⟨hx, hb, hml, hown, hts⟩ (kX12_wrong l D ca za h hh f L Q hI H.size) (cwV 0 hts (gw_V (fun _ h => List.mem_cons_of_mem _ h) mw_889 mw_890 mw_891 mw_619 mw_888) rfl rfl rfl (by decide +kernel) ⟨Nat.le_of_ble_eq_true rfl, Nat.le_of_ble_eq_true rfl⟩) (sg_preV (ci := 12) (C := RX12) (T := TX12) (N := 55) hA hK hP hS hZ 0 (by decide) rfl rfl) rfl rfl hl.1 rfl (lv_room (Nat.le_of_ble_eq_true rfl)) dX12_one_42 ⟨Nat.le_refl _, Nat.le_refl _⟩) hA hS (fun r_115 f_112 L_113 Q_114 H locs hq hP hS => ?_)
        obtain ⟨⟨hI, hk_f_112, eL9, eQ9⟩, hq, p_116⟩ := hq
        rw [eL9, eQ9] at hP; clear eL9 eQ9
        have hF : sgK WkX12_one_6 f f_112 := sgK.tr hF hk_f_112 (by decide)
        obtain ⟨v_117, ev_117⟩ : ∃ z : Int32, z = f_112 0 15 := ⟨_, rfl⟩
        have q_118 : (-1) ≤ v_117.toInt ∧ v_117.toInt ≤ 120 := by rw [ev_117]; exact hI 0 15
        have q_119 : (f_112 0 15).toInt = v_117.toInt := (congrArg Int32.toInt (show f_112 0 15 = v_117 from ev_117.symm))
        obtain rfl : r_115 = 0 := Int32.toInt_inj.mp (by have k9 : (0 : Int32).toInt = 0 := (by decide); omega)
        have q_120 : (f_112 0 13).toInt = v_5.toInt := (congrArg Int32.toInt (show f_112 0 13 = v_5 from ((hk_f_112 0 13 (by decide)).trans ev_5.symm)))
        have q_121 : (f_112 0 16).toInt = 6 := (congrArg Int32.toInt (show f_112 0 16 = 6 from ((hk_f_112 0 16 (by decide)).trans (Eq.trans ev_1.symm c_111)))).trans (by decide)
        have q_122 : (f_112 0 15).toInt = v_117.toInt := (congrArg Int32.toInt (show f_112 0 15 = v_117 from ev_117.symm))
        have q_123 : (f_112 0 16).toInt = 6 := (congrArg Int32.toInt (show f_112 0 16 = 6 from ((hk_f_112 0 16 (by decide)).trans (Eq.trans ev_1.symm c_111)))).trans (by decide)
        have k99 : (0 : Int32).toInt = 0 := (by decide)
        exact hret _ _ _ _ (0) f_112 L Q dX12_one_45 hP hS ⟨⟨hI, hF, rfl, rfl⟩, trivial, (by omega), (by omega), (by omega)⟩
      · skip
        have c_110 : r_92.toInt ≠ 45 := (by have z := bn_ne c; have k1 : (45 : Int32).toInt = 45 := (by decide); omega)
        refine lv_iload_n hx hb dX12_one_26 rfl (lv_at hl 0 rfl) ?_
        refine lv_bipush (v := 40) hx hb dX12_one_27 (by decide) ?_
        refine lv_icmp_ne (tgt := 145) hx hb dX12_one_29 (by decide) (fun c => ?_) (fun c => ?_)
        · skip
          have c_124 : r_92.toInt ≠ 40 := (by have z := bn_ne c; have k1 : (40 : Int32).toInt = 40 := (by decide); omega)
          refine lv_iload_n hx hb dX12_one_145 rfl (lv_at hl 0 rfl) ?_
          refine sg_calli (va_runS (As := [.int r_92]) (rest := []) ⟨hx, hb, hml, hown, hts⟩ (kX12_nameOf l D ca za h hh f L Q hI r_92 (by omega) H.size) (va_cwS 1 hts (gw_S (fun _ h => List.mem_cons_of_mem _ h) mw_869 mw_870 mw_619 mw_868) rfl rfl rfl (by decide +kernel) ⟨Nat.le_of_ble_eq_true rfl, Nat.le_of_ble_eq_true rfl⟩) (sg_preS hA hK hP hS hZ) rfl rfl hl.1 rfl (lv_room (Nat.le_of_ble_eq_true rfl)) dX12_one_146 ⟨Nat.le_refl _, Nat.le_refl _⟩) hA hS (fun r_129 f_126 L_127 Q_128 H locs hq hP hS => ?_)
          obtain ⟨⟨ef9, eL9, eQ9⟩, hq, p_130⟩ := hq
          rw [ef9, eL9, eQ9] at hP; clear ef9 eL9 eQ9
          refine lv_istore_n (lv' := [(2, .int r_129), (1, .int r_92), (0, .ref (h 0))]) hx hb dX12_one_149 rfl hl (by decide) rfl (fun ls hl => ?_)
          refine lv_iload_n hx hb dX12_one_150 rfl (lv_at hl 0 rfl) ?_
          refine lv_if_lt (tgt := 171) hx hb dX12_one_151 (by decide) (fun c => ?_) (fun c => ?_)
          · skip
            have c_131 : r_129.toInt < 0 := (by have z := bn_lt c; have k1 : (0 : Int32).toInt = 0 := (by decide); omega)
            refine lv_iconst (v := 0) hx hb dX12_one_171 (by decide) ?_
            refine lv_istore_n (lv' := [(3, .int 0), (2, .int r_129), (1, .int r_92), (0, .ref (h 0))]) hx hb dX12_one_172 rfl hl (by decide) rfl (fun ls hl => ?_)
            refine lv_iconst (v := 0) hx hb dX12_one_173 (by decide) ?_
            refine lv_istore (lv' := [(4, .int 0), (3, .int 0), (2, .int r_129), (1, .int r_92), (0, .ref (h 0))]) hx hb dX12_one_174 hl (by decide) rfl (fun ls hl => ?_)
            exact loop_176 5 0 0 f _ _ _ (by have kc0 : (0 : Int32).toInt = 0 := (by decide); have kc1 : (0 : Int32).toInt = 0 := (by decide); omega) (by have zz0_15 : (f 0 15).toInt = v_3.toInt := (congrArg Int32.toInt (show f 0 15 = v_3 from ev_3.symm)); omega) (by decide) (by have kc0 : (0 : Int32).toInt = 0 := (by decide); have kc1 : (0 : Int32).toInt = 0 := (by decide); have zz0_13 : (f 0 13).toInt = v_5.toInt := (congrArg Int32.toInt (show f 0 13 = v_5 from ev_5.symm)); omega) (by have kc0 : (0 : Int32).toInt = 0 := (by decide); have kc1 : (0 : Int32).toInt = 0 := (by decide); have zz0_16 : (f 0 16).toInt = v_1.toInt := (congrArg Int32.toInt (show f 0 16 = v_1 from ev_1.symm)); omega) (by have kc0 : (0 : Int32).toInt = 0 := (by decide); have kc1 : (0 : Int32).toInt = 0 := (by decide); have zz0_15 : (f 0 15).toInt = v_3.toInt := (congrArg Int32.toInt (show f 0 15 = v_3 from ev_3.symm)); have zz0_16 : (f 0 16).toInt = v_1.toInt := (congrArg Int32.toInt (show f 0 16 = v_1 from ev_1.symm)); omega) hI hF hP hS (lv_sub hl [4, 1, 0] rfl)
          · skip
            have c_132 : 0 ≤ r_129.toInt := (by have z := bn_nlt c; have k1 : (0 : Int32).toInt = 0 := (by decide); omega)
            refine lv_aload_n hx hb dX12_one_154 rfl (lv_at hl 2 rfl) ?_
            refine lv_dup hx hb dX12_one_155 rfl ?_
            refine sg_get (ci := 12) (v := .int v_5) (C := RX12) (T := TX12) (N := 55) hx hb hts (fun w h => List.mem_cons_of_mem _ (gx_12 w h)) hown hK hP 0 (by decide) rfl rfl 13 (by decide) (hts _ (List.mem_cons_of_mem _ mw_625)) (fun _ h9 => h9) (congrArg (fun z => some (Value.int z)) (show f 0 13 = v_5 from ev_5.symm)) dX12_one_156 ?_
            refine lv_iconst (v := 1) hx hb dX12_one_159 (by decide) ?_
            refine lv_iadd hx hb dX12_one_160 ?_
            refine lv_topi (fun v_133 ev_133 => ?_)
            have q_134 : v_133.toInt = v_5.toInt + 1 := by rw [ev_133]; have k1 : (1 : Int32).toInt = 1 := (by decide); exact (bn_addI (by omega) (by omega)).trans (by omega)
            refine sg_put (ci := 12) (x := v_133) (ty := .int) (C := RX12) (T := TX12) (N := 55) hx hb hts (fun w h => List.mem_cons_of_mem _ (gx_12 w h)) tyX12 tyX12_ok nmX12 hown hh hA hK hP hS 0 (by decide) rfl rfl 13 (by decide) (hts _ (List.mem_cons_of_mem _ mw_625)) (fun _ h9 => h9) rfl rfl (by decide +kernel) rfl rfl (Nat.le_of_ble_eq_true rfl) dX12_one_161 (fun f_135 H locs ef_135 hP hS => ?_)
            have hI : sgI loM hiM f_135 := by rw [ef_135]; exact sgI.put hI 0 13 (show 0 ≤ (v_133 : Int32).toInt ∧ (v_133 : Int32).toInt ≤ 120 from by omega)
            have hF : sgK WkX12_one_6 f f_135 := sgK.put hF ef_135 (by rfl)
            refine lv_aload_n hx hb dX12_one_164 rfl (lv_at hl 2 rfl) ?_
            refine sg_get (ci := 12) (v := .ref (h 8)) (C := RX12) (T := TX12) (N := 55) hx hb hts (fun w h => List.mem_cons_of_mem _ (gx_12 w h)) hown hK hP 0 (by decide) rfl rfl 17 (by decide) (hts _ (List.mem_cons_of_mem _ mw_871)) (fun _ h9 => h9) rfl dX12_one_165 ?_
            refine lv_iload_n hx hb dX12_one_168 rfl (lv_at hl 0 rfl) ?_
            refine sg_iald hx hb hK hP 8 (by decide) 0 rfl rfl (i := r_129) (vp_in_iff.mpr ⟨by omega, by omega⟩) dX12_one_169 ?_
            refine lv_topi (fun v_136 ev_136 => ?_)
            have q_137 : 0 ≤ v_136.toInt ∧ v_136.toInt ≤ 60 := by rw [ev_136]; exact hI 8 _
            have q_138 : (f_135 0 13).toInt = v_133.toInt := (congrArg Int32.toInt (show f_135 0 13 = v_133 from (by rw [ef_135, sg_up_s, sgu_s])))
            have q_139 : (f_135 0 16).toInt = v_1.toInt := (congrArg Int32.toInt (show f_135 0 16 = v_1 from (by rw [ef_135, sg_up_s, sgu_n (by decide)]; exact ev_1.symm)))
            have q_140 : (f_135 0 15).toInt = v_3.toInt := (congrArg Int32.toInt (show f_135 0 15 = v_3 from (by rw [ef_135, sg_up_s, sgu_n (by decide)]; exact ev_3.symm)))
            have q_141 : (f_135 0 16).toInt = v_1.toInt := (congrArg Int32.toInt (show f_135 0 16 = v_1 from (by rw [ef_135, sg_up_s, sgu_n (by decide)]; exact ev_1.symm)))
            exact hret _ _ _ _ (v_136) f_135 L Q dX12_one_170 hP hS ⟨⟨hI, hF, rfl, rfl⟩, trivial, (by omega), (by omega), (by omega)⟩
        · skip
          have c_125 : r_92.toInt = 40 := (by have z := Int32.toInt_inj.mpr c; have k1 : (40 : Int32).toInt = 40 := (by decide); omega)
          refine lv_aload_n hx hb dX12_one_32 rfl (lv_at hl 1 rfl) ?_
          have c_142 : v_1 = 6 := Int32.toInt_inj.mp (by have k9 : (6 : Int32).toInt = 6 := (by decide); omega)
          refine sg_get (ci := 12) (v := .int 6) (C := RX12) (T := TX12) (N := 55) hx hb hts (fun w h => List.mem_cons_of_mem _ (gx_12 w h)) hown hK hP 0 (by decide) rfl rfl 16 (by decide) (hts _ (List.mem_cons_of_mem _ mw_628)) (fun _ h9 => h9) (congrArg (fun z => some (Value.int z)) (show f 0 16 = 6 from (Eq.trans ev_1.symm c_142))) dX12_one_33 ?_
          refine lv_bipush (v := 6) hx hb dX12_one_36 (by decide) ?_
          refine lv_icmp_ne (tgt := 46) hx hb dX12_one_38 (by decide) (fun c => absurd c (by decide)) (fun c => ?_)
          refine lv_aload_n hx hb dX12_one_41 rfl (lv_at hl 1 rfl) ?_
          refine sg_calli (va_runV (As := []) (rest := []) ⟨hx, hb, hml, hown, hts⟩ (kX12_wrong l D ca za h hh f L Q hI H.size) (cwV 0 hts (gw_V (fun _ h => List.mem_cons_of_mem _ h) mw_889 mw_890 mw_891 mw_619 mw_888) rfl rfl rfl (by decide +kernel) ⟨Nat.le_of_ble_eq_true rfl, Nat.le_of_ble_eq_true rfl⟩) (sg_preV (ci := 12) (C := RX12) (T := TX12) (N := 55) hA hK hP hS hZ 0 (by decide) rfl rfl) rfl rfl hl.1 rfl (lv_room (Nat.le_of_ble_eq_true rfl)) dX12_one_42 ⟨Nat.le_refl _, Nat.le_refl _⟩) hA hS (fun r_146 f_143 L_144 Q_145 H locs hq hP hS => ?_)
          obtain ⟨⟨hI, hk_f_143, eL9, eQ9⟩, hq, p_147⟩ := hq
          rw [eL9, eQ9] at hP; clear eL9 eQ9
          have hF : sgK WkX12_one_6 f f_143 := sgK.tr hF hk_f_143 (by decide)
          obtain ⟨v_148, ev_148⟩ : ∃ z : Int32, z = f_143 0 15 := ⟨_, rfl⟩
          have q_149 : (-1) ≤ v_148.toInt ∧ v_148.toInt ≤ 120 := by rw [ev_148]; exact hI 0 15
          have q_150 : (f_143 0 15).toInt = v_148.toInt := (congrArg Int32.toInt (show f_143 0 15 = v_148 from ev_148.symm))
          obtain rfl : r_146 = 0 := Int32.toInt_inj.mp (by have k9 : (0 : Int32).toInt = 0 := (by decide); omega)
          have q_151 : (f_143 0 13).toInt = v_5.toInt := (congrArg Int32.toInt (show f_143 0 13 = v_5 from ((hk_f_143 0 13 (by decide)).trans ev_5.symm)))
          have q_152 : (f_143 0 16).toInt = 6 := (congrArg Int32.toInt (show f_143 0 16 = 6 from ((hk_f_143 0 16 (by decide)).trans (Eq.trans ev_1.symm c_142)))).trans (by decide)
          have q_153 : (f_143 0 15).toInt = v_148.toInt := (congrArg Int32.toInt (show f_143 0 15 = v_148 from ev_148.symm))
          have q_154 : (f_143 0 16).toInt = 6 := (congrArg Int32.toInt (show f_143 0 16 = 6 from ((hk_f_143 0 16 (by decide)).trans (Eq.trans ev_1.symm c_142)))).trans (by decide)
          have k99 : (0 : Int32).toInt = 0 := (by decide)
          exact hret _ _ _ _ (0) f_143 L Q dX12_one_45 hP hS ⟨⟨hI, hF, rfl, rfl⟩, trivial, (by omega), (by omega), (by omega)⟩
  · skip
    have c_84 : 0 ≤ v_3.toInt := (by have z := bn_nlt c; have k1 : (0 : Int32).toInt = 0 := (by decide); omega)
    refine lv_iconst (v := 0) hx hb dX12_one_7 (by decide) ?_
    have q_155 : (f 0 13).toInt = v_5.toInt := (congrArg Int32.toInt (show f 0 13 = v_5 from ev_5.symm))
    have q_156 : (f 0 16).toInt = v_1.toInt := (congrArg Int32.toInt (show f 0 16 = v_1 from ev_1.symm))
    have q_157 : (f 0 15).toInt = v_3.toInt := (congrArg Int32.toInt (show f 0 15 = v_3 from ev_3.symm))
    have q_158 : (f 0 16).toInt = v_1.toInt := (congrArg Int32.toInt (show f 0 16 = v_1 from ev_1.symm))
    have k99 : (0 : Int32).toInt = 0 := (by decide)
    exact hret _ _ _ _ (0) f L Q dX12_one_8 hP hS ⟨⟨hI, hF, rfl, rfl⟩, trivial, (by omega), (by omega), (by omega)⟩

abbrev WkX12_product_6 : List (Nat × Nat × Option Nat) := [(0, 0, some 13), (0, 0, some 15)]
set_option maxHeartbeats 4000000 in
set_option maxRecDepth 100000 in
theorem kX12_product_6 (l : Launch) (D : va_G) (ca : Nat → ClassId) (za h : Nat → Nat) (hh : sgH 26 h) (f : sg_F) (L : sg_L) (Q : sg_Q) (hI : sgI loM hiM f) (p0 : 6 ≤ (f 0 16).toInt) (p1 : 0 ≤ (f 0 15).toInt ∨ (f 0 16).toInt = 6) (sz : Nat) : Met l yX12_product gwX12_product { frames := 2, cells := 0, slots := 0, locals := 44 } (sgP D vwCl (tyX ca) 26 h (eM ca h) zcM za f L Q sz [.ref (h 0)]) (sgQi D vwCl 26 h (eM ca h) sz (fun r f1 L1 Q1 => ((sgI loM hiM f1 ∧ sgK WkX12_product_6 f f1 ∧ L1 = L ∧ Q1 = Q) ∧ True ∧ ((f 0 13).toInt ≤ (f1 0 13).toInt) ∧ (6 ≤ (f1 0 16).toInt) ∧ (0 ≤ (f1 0 15).toInt ∨ (f1 0 16).toInt = 6)))) 0 0 (sgA 26 h sz) := by
  refine sg_ofWi (cc := cX12_product) (maxL := 4) RX12 (by decide) rfl rfl (Nat.le_of_ble_eq_true rfl) ?_
  intro p e s m below meth cd Qz ls hx hb hml hown hts hK hZ hP hS hl hret
  have hA := sgY.self (n := 26) (h := h) (sz := s.heap.size)
  have hl : lv_has ls 4 [(0, .ref (h 0))] := hl
  obtain ⟨H, hH⟩ : ∃ z : Heap, z = s.heap := ⟨_, rfl⟩
  obtain ⟨locs, hlo⟩ : ∃ z : List Loc, z = [] := ⟨_, rfl⟩
  have hP : va_P D vwCl (sgw 26 h (eM ca h) f L Q) H := by rw [hH]; exact hP
  have hS : va_S (sgA 26 h s.heap.size) s.heap H locs := by rw [hH, hlo]; exact hS
  suffices hgo : W p l e ({ frames := 2, cells := 0, slots := 0, locals := 44 }) s m ([.ref (h 0)] : List Value).toArray below meth cd H locs 0 0 Qz (F0 m 0 ls []) by rw [hH, hlo] at hgo; exact hgo
  clear hH hlo
  obtain ⟨v_1, ev_1⟩ : ∃ z : Int32, z = f 0 16 := ⟨_, rfl⟩
  have q_2 : 0 ≤ v_1.toInt ∧ v_1.toInt ≤ 6 := by rw [ev_1]; exact hI 0 16
  obtain ⟨v_3, ev_3⟩ : ∃ z : Int32, z = f 0 15 := ⟨_, rfl⟩
  have q_4 : (-1) ≤ v_3.toInt ∧ v_3.toInt ≤ 120 := by rw [ev_3]; exact hI 0 15
  obtain ⟨v_5, ev_5⟩ : ∃ z : Int32, z = f 0 13 := ⟨_, rfl⟩
  have q_6 : 0 ≤ v_5.toInt ∧ v_5.toInt ≤ 120 := by rw [ev_5]; exact hI 0 13
  obtain ⟨v_7, ev_7⟩ : ∃ z : Int32, z = f 0 14 := ⟨_, rfl⟩
  have q_8 : 0 ≤ v_7.toInt ∧ v_7.toInt ≤ 120 := by rw [ev_7]; exact hI 0 14
  have o_9 : (f 0 16).toInt = v_1.toInt := (congrArg Int32.toInt (show f 0 16 = v_1 from ev_1.symm))
  have o_10 : (f 0 15).toInt = v_3.toInt := (congrArg Int32.toInt (show f 0 15 = v_3 from ev_3.symm))
  have o_11 : (f 0 13).toInt = v_5.toInt := (congrArg Int32.toInt (show f 0 13 = v_5 from ev_5.symm))
  have o_12 : (f 0 14).toInt = v_7.toInt := (congrArg Int32.toInt (show f 0 14 = v_7 from ev_7.symm))
  have hF : sgK WkX12_product_6 f f := sgK.rf
  have loop_10 : ∀ (n_10 : Nat) (y1_10 : Int32) (y2_10 : Int32) (fp_10 : sg_F) (H : Heap) (locs : List Loc) (ls : Array Slot), 120 - (fp_10 0 13).toInt < (n_10 : Int) → 0 ≤ y2_10.toInt ∧ y2_10.toInt ≤ 255 → (f 0 13).toInt ≤ (fp_10 0 13).toInt → 6 ≤ (fp_10 0 16).toInt → 0 ≤ (fp_10 0 15).toInt ∨ (fp_10 0 16).toInt = 6 → y2_10.toInt = 0 ∨ (fp_10 0 13).toInt < (fp_10 0 14).toInt → sgI loM hiM fp_10 → sgK WkX12_product_6 f fp_10 → va_P D vwCl (sgw 26 h (eM ca h) fp_10 L Q) H → va_S (sgA 26 h s.heap.size) s.heap H locs → lv_has ls 4 [(0, .ref (h 0)), (1, .int y1_10), (2, .int y2_10)] → W p l e ({ frames := 2, cells := 0, slots := 0, locals := 44 }) s m ([.ref (h 0)] : List Value).toArray below meth cd H locs 0 0 Qz (F0 m 10 ls []) := by
    intro n_10
    induction n_10 with
    | zero => intro y1_10 y2_10 fp_10 H locs ls hm_10 hy0_10 hg0_10 hg1_10 hg2_10 hg3_10 hI hF hP hS hl; have zb := (show 0 ≤ (fp_10 0 13).toInt ∧ (fp_10 0 13).toInt ≤ 120 from hI 0 13); exact absurd hm_10 (by omega)
    | succ n_10 ih_10 =>
      intro y1_10 y2_10 fp_10 H locs ls hm_10 hy0_10 hg0_10 hg1_10 hg2_10 hg3_10 hI hF hP hS hl
      obtain ⟨v_13, ev_13⟩ : ∃ z : Int32, z = fp_10 0 13 := ⟨_, rfl⟩
      have q_14 : 0 ≤ v_13.toInt ∧ v_13.toInt ≤ 120 := by rw [ev_13]; exact hI 0 13
      have q_15 : (fp_10 0 13).toInt = v_13.toInt := by rw [ev_13]
      obtain ⟨v_16, ev_16⟩ : ∃ z : Int32, z = fp_10 0 16 := ⟨_, rfl⟩
      have q_17 : 0 ≤ v_16.toInt ∧ v_16.toInt ≤ 6 := by rw [ev_16]; exact hI 0 16
      have q_18 : (fp_10 0 16).toInt = v_16.toInt := by rw [ev_16]
      obtain ⟨v_19, ev_19⟩ : ∃ z : Int32, z = fp_10 0 15 := ⟨_, rfl⟩
      have q_20 : (-1) ≤ v_19.toInt ∧ v_19.toInt ≤ 120 := by rw [ev_19]; exact hI 0 15
      have q_21 : (fp_10 0 15).toInt = v_19.toInt := by rw [ev_19]
      obtain ⟨v_22, ev_22⟩ : ∃ z : Int32, z = fp_10 0 14 := ⟨_, rfl⟩
      have q_23 : 0 ≤ v_22.toInt ∧ v_22.toInt ≤ 120 := by rw [ev_22]; exact hI 0 14
      have q_24 : (fp_10 0 14).toInt = v_22.toInt := by rw [ev_22]
      refine lv_aload_n hx hb dX12_product_10 rfl (lv_at hl 0 rfl) ?_
      refine sg_get (ci := 12) (v := .int v_19) (C := RX12) (T := TX12) (N := 55) hx hb hts (fun w h => List.mem_cons_of_mem _ (gx_12 w h)) hown hK hP 0 (by decide) rfl rfl 15 (by decide) (hts _ (List.mem_cons_of_mem _ mw_627)) (fun _ h9 => h9) (congrArg (fun z => some (Value.int z)) (show fp_10 0 15 = v_19 from ev_19.symm)) dX12_product_11 ?_
      refine lv_if_ge (tgt := 94) hx hb dX12_product_14 (by decide) (fun c => ?_) (fun c => ?_)
      · skip
        have c_25 : 0 ≤ v_19.toInt := (by have z := bn_le c; have k1 : (0 : Int32).toInt = 0 := (by decide); omega)
        refine lv_iload_n hx hb dX12_product_94 rfl (lv_at hl 1 rfl) ?_
        have q_27 : (fp_10 0 13).toInt = v_13.toInt := (congrArg Int32.toInt (show fp_10 0 13 = v_13 from ev_13.symm))
        have q_28 : (fp_10 0 16).toInt = v_16.toInt := (congrArg Int32.toInt (show fp_10 0 16 = v_16 from ev_16.symm))
        have q_29 : (fp_10 0 15).toInt = v_19.toInt := (congrArg Int32.toInt (show fp_10 0 15 = v_19 from ev_19.symm))
        have q_30 : (fp_10 0 16).toInt = v_16.toInt := (congrArg Int32.toInt (show fp_10 0 16 = v_16 from ev_16.symm))
        exact hret _ _ _ _ (y1_10) fp_10 L Q dX12_product_95 hP hS ⟨⟨hI, hF, rfl, rfl⟩, trivial, (by omega), (by omega), (by omega)⟩
      · skip
        have c_26 : v_19.toInt < 0 := (by have z := bn_nle c; have k1 : (0 : Int32).toInt = 0 := (by decide); omega)
        refine lv_iload_n hx hb dX12_product_17 rfl (lv_at hl 2 rfl) ?_
        refine lv_bipush (v := 42) hx hb dX12_product_18 (by decide) ?_
        refine lv_icmp_eq (tgt := 35) hx hb dX12_product_20 (by decide) (fun c => ?_) (fun c => ?_)
        · skip
          have c_31 : y2_10.toInt = 42 := (by have z := Int32.toInt_inj.mpr c; have k1 : (42 : Int32).toInt = 42 := (by decide); omega)
          refine lv_aload_n hx hb dX12_product_35 rfl (lv_at hl 0 rfl) ?_
          refine lv_dup hx hb dX12_product_36 rfl ?_
          refine sg_get (ci := 12) (v := .int v_13) (C := RX12) (T := TX12) (N := 55) hx hb hts (fun w h => List.mem_cons_of_mem _ (gx_12 w h)) hown hK hP 0 (by decide) rfl rfl 13 (by decide) (hts _ (List.mem_cons_of_mem _ mw_625)) (fun _ h9 => h9) (congrArg (fun z => some (Value.int z)) (show fp_10 0 13 = v_13 from ev_13.symm)) dX12_product_37 ?_
          refine lv_iconst (v := 1) hx hb dX12_product_40 (by decide) ?_
          refine lv_iadd hx hb dX12_product_41 ?_
          refine lv_topi (fun v_33 ev_33 => ?_)
          have q_34 : v_33.toInt = v_13.toInt + 1 := by rw [ev_33]; have k1 : (1 : Int32).toInt = 1 := (by decide); exact (bn_addI (by omega) (by omega)).trans (by omega)
          refine sg_put (ci := 12) (x := v_33) (ty := .int) (C := RX12) (T := TX12) (N := 55) hx hb hts (fun w h => List.mem_cons_of_mem _ (gx_12 w h)) tyX12 tyX12_ok nmX12 hown hh hA hK hP hS 0 (by decide) rfl rfl 13 (by decide) (hts _ (List.mem_cons_of_mem _ mw_625)) (fun _ h9 => h9) rfl rfl (by decide +kernel) rfl rfl (Nat.le_of_ble_eq_true rfl) dX12_product_42 (fun f_35 H locs ef_35 hP hS => ?_)
          have hI : sgI loM hiM f_35 := by rw [ef_35]; exact sgI.put hI 0 13 (show 0 ≤ (v_33 : Int32).toInt ∧ (v_33 : Int32).toInt ≤ 120 from by omega)
          have hF : sgK WkX12_product_6 f f_35 := sgK.put hF ef_35 (by rfl)
          refine lv_aload_n hx hb dX12_product_45 rfl (lv_at hl 0 rfl) ?_
          have q_36 : (f_35 0 16).toInt = v_16.toInt := (congrArg Int32.toInt (show f_35 0 16 = v_16 from (by rw [ef_35, sg_up_s, sgu_n (by decide)]; exact ev_16.symm)))
          have q_37 : (f_35 0 15).toInt = v_19.toInt := (congrArg Int32.toInt (show f_35 0 15 = v_19 from (by rw [ef_35, sg_up_s, sgu_n (by decide)]; exact ev_19.symm)))
          have q_38 : (f_35 0 16).toInt = v_16.toInt := (congrArg Int32.toInt (show f_35 0 16 = v_16 from (by rw [ef_35, sg_up_s, sgu_n (by decide)]; exact ev_16.symm)))
          have q_39 : (f_35 0 13).toInt = v_33.toInt := (congrArg Int32.toInt (show f_35 0 13 = v_33 from (by rw [ef_35, sg_up_s, sgu_s])))
          refine sg_calli (va_runV (As := []) (rest := []) ⟨hx, hb, hml, hown, hts⟩ (kX12_one_6 l D ca za h hh f_35 L Q hI (by omega) (by omega) H.size) (cwV 0 hts (gw_V (fun _ h => List.mem_cons_of_mem _ h) mw_789 mw_790 mw_791 mw_619 mw_788) rfl rfl rfl (by decide +kernel) ⟨Nat.le_of_ble_eq_true rfl, Nat.le_of_ble_eq_true rfl⟩) (sg_preV (ci := 12) (C := RX12) (T := TX12) (N := 55) hA hK hP hS hZ 0 (by decide) rfl rfl) rfl rfl hl.1 rfl (lv_room (Nat.le_of_ble_eq_true rfl)) dX12_product_46 ⟨Nat.le_refl _, Nat.le_refl _⟩) hA hS (fun r_43 f_40 L_41 Q_42 H locs hq hP hS => ?_)
          obtain ⟨⟨hI, hk_f_40, eL9, eQ9⟩, hq, p_44, p_45, p_46⟩ := hq
          rw [eL9, eQ9] at hP; clear eL9 eQ9
          have hF : sgK WkX12_product_6 f f_40 := sgK.tr hF hk_f_40 (by decide)
          obtain ⟨v_47, ev_47⟩ : ∃ z : Int32, z = f_40 0 13 := ⟨_, rfl⟩
          have q_48 : 0 ≤ v_47.toInt ∧ v_47.toInt ≤ 120 := by rw [ev_47]; exact hI 0 13
          have q_49 : (f_40 0 13).toInt = v_47.toInt := (congrArg Int32.toInt (show f_40 0 13 = v_47 from ev_47.symm))
          have q_50 : (f_40 0 16).toInt = v_16.toInt := (congrArg Int32.toInt (show f_40 0 16 = v_16 from ((hk_f_40 0 16 (by decide)).trans (by rw [ef_35, sg_up_s, sgu_n (by decide)]; exact ev_16.symm))))
          obtain ⟨v_51, ev_51⟩ : ∃ z : Int32, z = f_40 0 15 := ⟨_, rfl⟩
          have q_52 : (-1) ≤ v_51.toInt ∧ v_51.toInt ≤ 120 := by rw [ev_51]; exact hI 0 15
          have q_53 : (f_40 0 15).toInt = v_51.toInt := (congrArg Int32.toInt (show f_40 0 15 = v_51 from ev_51.symm))
          have q_54 : (f_40 0 16).toInt = v_16.toInt := (congrArg Int32.toInt (show f_40 0 16 = v_16 from ((hk_f_40 0 16 (by decide)).trans (by rw [ef_35, sg_up_s, sgu_n (by decide)]; exact ev_16.symm))))
          refine lv_istore_n (lv' := [(3, .int r_43), (0, .ref (h 0)), (1, .int y1_10), (2, .int y2_10)]) hx hb dX12_product_49 rfl hl (by decide) rfl (fun ls hl => ?_)
          refine lv_iload_n hx hb dX12_product_50 rfl (lv_at hl 3 rfl) ?_
          refine lv_bipush (v := 42) hx hb dX12_product_51 (by decide) ?_
          refine lv_icmp_ne (tgt := 62) hx hb dX12_product_53 (by decide) (fun c => ?_) (fun c => ?_)
          · skip
            exfalso; have c_55 : y2_10.toInt ≠ 42 := (by have z := bn_ne c; have k1 : (42 : Int32).toInt = 42 := (by decide); omega); omega
          · skip
            have c_56 : y2_10.toInt = 42 := (by have z := Int32.toInt_inj.mpr c; have k1 : (42 : Int32).toInt = 42 := (by decide); omega)
            refine lv_iload_n hx hb dX12_product_56 rfl (lv_at hl 2 rfl) ?_
            refine lv_iload_n hx hb dX12_product_57 rfl (lv_at hl 0 rfl) ?_
            refine lv_imul hx hb dX12_product_58 ?_
            refine lv_topi (fun v_57 ev_57 => ?_)
            refine lv_goto (tgt := 85) hx hb dX12_product_59 (by decide) ?_
            refine lv_istore_n (lv' := [(1, .int v_57), (3, .int r_43), (0, .ref (h 0)), (2, .int y2_10)]) hx hb dX12_product_85 rfl hl (by decide) rfl (fun ls hl => ?_)
            refine lv_aload_n hx hb dX12_product_86 rfl (lv_at hl 2 rfl) ?_
            have q_58 : (f_40 0 13).toInt = v_47.toInt := (congrArg Int32.toInt (show f_40 0 13 = v_47 from ev_47.symm))
            have q_59 : (f_40 0 14).toInt = v_22.toInt := (congrArg Int32.toInt (show f_40 0 14 = v_22 from ((hk_f_40 0 14 (by decide)).trans (by rw [ef_35, sg_up_s, sgu_n (by decide)]; exact ev_22.symm))))
            refine sg_calli (va_runV (As := []) (rest := []) ⟨hx, hb, hml, hown, hts⟩ (kX12_byteAt l D ca za h hh f_40 L Q hI H.size) (cwV 0 hts (gw_V (fun _ h => List.mem_cons_of_mem _ h) mw_840 mw_841 mw_842 mw_619 mw_839) rfl rfl rfl (by decide +kernel) ⟨Nat.le_of_ble_eq_true rfl, Nat.le_of_ble_eq_true rfl⟩) (sg_preV (ci := 12) (C := RX12) (T := TX12) (N := 55) hA hK hP hS hZ 0 (by decide) rfl rfl) rfl rfl hl.1 rfl (lv_room (Nat.le_of_ble_eq_true rfl)) dX12_product_87 ⟨Nat.le_refl _, Nat.le_refl _⟩) hA hS (fun r_63 f_60 L_61 Q_62 H locs hq hP hS => ?_)
            obtain ⟨⟨ef9, eL9, eQ9⟩, hq, p_64⟩ := hq
            rw [ef9, eL9, eQ9] at hP; clear ef9 eL9 eQ9
            refine lv_istore_n (lv' := [(2, .int r_63), (1, .int v_57), (3, .int r_43), (0, .ref (h 0))]) hx hb dX12_product_90 rfl hl (by decide) rfl (fun ls hl => ?_)
            refine lv_goto (tgt := 10) hx hb dX12_product_91 (by decide) ?_
            exact ih_10 v_57 r_63 f_40 _ _ _ (by have zz0_13 : (f_40 0 13).toInt = v_47.toInt := (congrArg Int32.toInt (show f_40 0 13 = v_47 from ev_47.symm)); omega) (by omega) (by have zz0_13 : (f_40 0 13).toInt = v_47.toInt := (congrArg Int32.toInt (show f_40 0 13 = v_47 from ev_47.symm)); omega) (by have zz0_16 : (f_40 0 16).toInt = v_16.toInt := (congrArg Int32.toInt (show f_40 0 16 = v_16 from ((hk_f_40 0 16 (by decide)).trans (by rw [ef_35, sg_up_s, sgu_n (by decide)]; exact ev_16.symm)))); omega) (by have zz0_15 : (f_40 0 15).toInt = v_51.toInt := (congrArg Int32.toInt (show f_40 0 15 = v_51 from ev_51.symm)); have zz0_16 : (f_40 0 16).toInt = v_16.toInt := (congrArg Int32.toInt (show f_40 0 16 = v_16 from ((hk_f_40 0 16 (by decide)).trans (by rw [ef_35, sg_up_s, sgu_n (by decide)]; exact ev_16.symm)))); omega) (by have zz0_13 : (f_40 0 13).toInt = v_47.toInt := (congrArg Int32.toInt (show f_40 0 13 = v_47 from ev_47.symm)); have zz0_14 : (f_40 0 14).toInt = v_22.toInt := (congrArg Int32.toInt (show f_40 0 14 = v_22 from ((hk_f_40 0 14 (by decide)).trans (by rw [ef_35, sg_up_s, sgu_n (by decide)]; exact ev_22.symm)))); omega) hI hF hP hS (lv_sub hl [3, 1, 0] rfl)
        · skip
          have c_32 : y2_10.toInt ≠ 42 := (by have z := bn_ne c; have k1 : (42 : Int32).toInt = 42 := (by decide); omega)
          refine lv_iload_n hx hb dX12_product_23 rfl (lv_at hl 2 rfl) ?_
          refine lv_bipush (v := 47) hx hb dX12_product_24 (by decide) ?_
          refine lv_icmp_eq (tgt := 35) hx hb dX12_product_26 (by decide) (fun c => ?_) (fun c => ?_)
          · skip
            have c_65 : y2_10.toInt = 47 := (by have z := Int32.toInt_inj.mpr c; have k1 : (47 : Int32).toInt = 47 := (by decide); omega)
            refine lv_aload_n hx hb dX12_product_35 rfl (lv_at hl 0 rfl) ?_
            refine lv_dup hx hb dX12_product_36 rfl ?_
            refine sg_get (ci := 12) (v := .int v_13) (C := RX12) (T := TX12) (N := 55) hx hb hts (fun w h => List.mem_cons_of_mem _ (gx_12 w h)) hown hK hP 0 (by decide) rfl rfl 13 (by decide) (hts _ (List.mem_cons_of_mem _ mw_625)) (fun _ h9 => h9) (congrArg (fun z => some (Value.int z)) (show fp_10 0 13 = v_13 from ev_13.symm)) dX12_product_37 ?_
            refine lv_iconst (v := 1) hx hb dX12_product_40 (by decide) ?_
            refine lv_iadd hx hb dX12_product_41 ?_
            refine lv_topi (fun v_67 ev_67 => ?_)
            have q_68 : v_67.toInt = v_13.toInt + 1 := by rw [ev_67]; have k1 : (1 : Int32).toInt = 1 := (by decide); exact (bn_addI (by omega) (by omega)).trans (by omega)
            refine sg_put (ci := 12) (x := v_67) (ty := .int) (C := RX12) (T := TX12) (N := 55) hx hb hts (fun w h => List.mem_cons_of_mem _ (gx_12 w h)) tyX12 tyX12_ok nmX12 hown hh hA hK hP hS 0 (by decide) rfl rfl 13 (by decide) (hts _ (List.mem_cons_of_mem _ mw_625)) (fun _ h9 => h9) rfl rfl (by decide +kernel) rfl rfl (Nat.le_of_ble_eq_true rfl) dX12_product_42 (fun f_69 H locs ef_69 hP hS => ?_)
            have hI : sgI loM hiM f_69 := by rw [ef_69]; exact sgI.put hI 0 13 (show 0 ≤ (v_67 : Int32).toInt ∧ (v_67 : Int32).toInt ≤ 120 from by omega)
            have hF : sgK WkX12_product_6 f f_69 := sgK.put hF ef_69 (by rfl)
            refine lv_aload_n hx hb dX12_product_45 rfl (lv_at hl 0 rfl) ?_
            have q_70 : (f_69 0 16).toInt = v_16.toInt := (congrArg Int32.toInt (show f_69 0 16 = v_16 from (by rw [ef_69, sg_up_s, sgu_n (by decide)]; exact ev_16.symm)))
            have q_71 : (f_69 0 15).toInt = v_19.toInt := (congrArg Int32.toInt (show f_69 0 15 = v_19 from (by rw [ef_69, sg_up_s, sgu_n (by decide)]; exact ev_19.symm)))
            have q_72 : (f_69 0 16).toInt = v_16.toInt := (congrArg Int32.toInt (show f_69 0 16 = v_16 from (by rw [ef_69, sg_up_s, sgu_n (by decide)]; exact ev_16.symm)))
            have q_73 : (f_69 0 13).toInt = v_67.toInt := (congrArg Int32.toInt (show f_69 0 13 = v_67 from (by rw [ef_69, sg_up_s, sgu_s])))
            refine sg_calli (va_runV (As := []) (rest := []) ⟨hx, hb, hml, hown, hts⟩ (kX12_one_6 l D ca za h hh f_69 L Q hI (by omega) (by omega) H.size) (cwV 0 hts (gw_V (fun _ h => List.mem_cons_of_mem _ h) mw_789 mw_790 mw_791 mw_619 mw_788) rfl rfl rfl (by decide +kernel) ⟨Nat.le_of_ble_eq_true rfl, Nat.le_of_ble_eq_true rfl⟩) (sg_preV (ci := 12) (C := RX12) (T := TX12) (N := 55) hA hK hP hS hZ 0 (by decide) rfl rfl) rfl rfl hl.1 rfl (lv_room (Nat.le_of_ble_eq_true rfl)) dX12_product_46 ⟨Nat.le_refl _, Nat.le_refl _⟩) hA hS (fun r_77 f_74 L_75 Q_76 H locs hq hP hS => ?_)
            obtain ⟨⟨hI, hk_f_74, eL9, eQ9⟩, hq, p_78, p_79, p_80⟩ := hq
            rw [eL9, eQ9] at hP; clear eL9 eQ9
            have hF : sgK WkX12_product_6 f f_74 := sgK.tr hF hk_f_74 (by decide)
            obtain ⟨v_81, ev_81⟩ : ∃ z : Int32, z = f_74 0 13 := ⟨_, rfl⟩
            have q_82 : 0 ≤ v_81.toInt ∧ v_81.toInt ≤ 120 := by rw [ev_81]; exact hI 0 13
            have q_83 : (f_74 0 13).toInt = v_81.toInt := (congrArg Int32.toInt (show f_74 0 13 = v_81 from ev_81.symm))
            have q_84 : (f_74 0 16).toInt = v_16.toInt := (congrArg Int32.toInt (show f_74 0 16 = v_16 from ((hk_f_74 0 16 (by decide)).trans (by rw [ef_69, sg_up_s, sgu_n (by decide)]; exact ev_16.symm))))
            obtain ⟨v_85, ev_85⟩ : ∃ z : Int32, z = f_74 0 15 := ⟨_, rfl⟩
            have q_86 : (-1) ≤ v_85.toInt ∧ v_85.toInt ≤ 120 := by rw [ev_85]; exact hI 0 15
            have q_87 : (f_74 0 15).toInt = v_85.toInt := (congrArg Int32.toInt (show f_74 0 15 = v_85 from ev_85.symm))
            have q_88 : (f_74 0 16).toInt = v_16.toInt := (congrArg Int32.toInt (show f_74 0 16 = v_16 from ((hk_f_74 0 16 (by decide)).trans (by rw [ef_69, sg_up_s, sgu_n (by decide)]; exact ev_16.symm))))
            refine lv_istore_n (lv' := [(3, .int r_77), (0, .ref (h 0)), (1, .int y1_10), (2, .int y2_10)]) hx hb dX12_product_49 rfl hl (by decide) rfl (fun ls hl => ?_)
            refine lv_iload_n hx hb dX12_product_50 rfl (lv_at hl 3 rfl) ?_
            refine lv_bipush (v := 42) hx hb dX12_product_51 (by decide) ?_
            refine lv_icmp_ne (tgt := 62) hx hb dX12_product_53 (by decide) (fun c => ?_) (fun c => ?_)
            · skip
              have c_89 : y2_10.toInt ≠ 42 := (by have z := bn_ne c; have k1 : (42 : Int32).toInt = 42 := (by decide); omega)
              refine lv_iload_n hx hb dX12_product_62 rfl (lv_at hl 0 rfl) ?_
              refine lv_if_ne (tgt := 70) hx hb dX12_product_63 (by decide) (fun c => ?_) (fun c => ?_)
              · skip
                have c_91 : r_77.toInt ≠ 0 := (by have z := bn_ne c; have k1 : (0 : Int32).toInt = 0 := (by decide); omega)
                refine lv_iload_n hx hb dX12_product_70 rfl (lv_at hl 3 rfl) ?_
                refine lv_bipush (v := 47) hx hb dX12_product_71 (by decide) ?_
                refine lv_icmp_ne (tgt := 82) hx hb dX12_product_73 (by decide) (fun c => ?_) (fun c => ?_)
                · skip
                  exfalso; have c_93 : y2_10.toInt ≠ 47 := (by have z := bn_ne c; have k1 : (47 : Int32).toInt = 47 := (by decide); omega); omega
                · skip
                  have c_94 : y2_10.toInt = 47 := (by have z := Int32.toInt_inj.mpr c; have k1 : (47 : Int32).toInt = 47 := (by decide); omega)
                  refine lv_iload_n hx hb dX12_product_76 rfl (lv_at hl 2 rfl) ?_
                  refine lv_iload_n hx hb dX12_product_77 rfl (lv_at hl 0 rfl) ?_
                  refine lv_idiv hx hb dX12_product_78 (bn_nz (by omega)) ?_
                  refine lv_topi (fun v_95 ev_95 => ?_)
                  refine lv_goto (tgt := 85) hx hb dX12_product_79 (by decide) ?_
                  refine lv_istore_n (lv' := [(1, .int v_95), (3, .int r_77), (0, .ref (h 0)), (2, .int y2_10)]) hx hb dX12_product_85 rfl hl (by decide) rfl (fun ls hl => ?_)
                  refine lv_aload_n hx hb dX12_product_86 rfl (lv_at hl 2 rfl) ?_
                  have q_96 : (f_74 0 13).toInt = v_81.toInt := (congrArg Int32.toInt (show f_74 0 13 = v_81 from ev_81.symm))
                  have q_97 : (f_74 0 14).toInt = v_22.toInt := (congrArg Int32.toInt (show f_74 0 14 = v_22 from ((hk_f_74 0 14 (by decide)).trans (by rw [ef_69, sg_up_s, sgu_n (by decide)]; exact ev_22.symm))))
                  refine sg_calli (va_runV (As := []) (rest := []) ⟨hx, hb, hml, hown, hts⟩ (kX12_byteAt l D ca za h hh f_74 L Q hI H.size) (cwV 0 hts (gw_V (fun _ h => List.mem_cons_of_mem _ h) mw_840 mw_841 mw_842 mw_619 mw_839) rfl rfl rfl (by decide +kernel) ⟨Nat.le_of_ble_eq_true rfl, Nat.le_of_ble_eq_true rfl⟩) (sg_preV (ci := 12) (C := RX12) (T := TX12) (N := 55) hA hK hP hS hZ 0 (by decide) rfl rfl) rfl rfl hl.1 rfl (lv_room (Nat.le_of_ble_eq_true rfl)) dX12_product_87 ⟨Nat.le_refl _, Nat.le_refl _⟩) hA hS (fun r_101 f_98 L_99 Q_100 H locs hq hP hS => ?_)
                  obtain ⟨⟨ef9, eL9, eQ9⟩, hq, p_102⟩ := hq
                  rw [ef9, eL9, eQ9] at hP; clear ef9 eL9 eQ9
                  refine lv_istore_n (lv' := [(2, .int r_101), (1, .int v_95), (3, .int r_77), (0, .ref (h 0))]) hx hb dX12_product_90 rfl hl (by decide) rfl (fun ls hl => ?_)
                  refine lv_goto (tgt := 10) hx hb dX12_product_91 (by decide) ?_
                  exact ih_10 v_95 r_101 f_74 _ _ _ (by have zz0_13 : (f_74 0 13).toInt = v_81.toInt := (congrArg Int32.toInt (show f_74 0 13 = v_81 from ev_81.symm)); omega) (by omega) (by have zz0_13 : (f_74 0 13).toInt = v_81.toInt := (congrArg Int32.toInt (show f_74 0 13 = v_81 from ev_81.symm)); omega) (by have zz0_16 : (f_74 0 16).toInt = v_16.toInt := (congrArg Int32.toInt (show f_74 0 16 = v_16 from ((hk_f_74 0 16 (by decide)).trans (by rw [ef_69, sg_up_s, sgu_n (by decide)]; exact ev_16.symm)))); omega) (by have zz0_15 : (f_74 0 15).toInt = v_85.toInt := (congrArg Int32.toInt (show f_74 0 15 = v_85 from ev_85.symm)); have zz0_16 : (f_74 0 16).toInt = v_16.toInt := (congrArg Int32.toInt (show f_74 0 16 = v_16 from ((hk_f_74 0 16 (by decide)).trans (by rw [ef_69, sg_up_s, sgu_n (by decide)]; exact ev_16.symm)))); omega) (by have zz0_13 : (f_74 0 13).toInt = v_81.toInt := (congrArg Int32.toInt (show f_74 0 13 = v_81 from ev_81.symm)); have zz0_14 : (f_74 0 14).toInt = v_22.toInt := (congrArg Int32.toInt (show f_74 0 14 = v_22 from ((hk_f_74 0 14 (by decide)).trans (by rw [ef_69, sg_up_s, sgu_n (by decide)]; exact ev_22.symm)))); omega) hI hF hP hS (lv_sub hl [3, 1, 0] rfl)
              · skip
                have c_92 : r_77.toInt = 0 := (by have z := Int32.toInt_inj.mpr c; have k1 : (0 : Int32).toInt = 0 := (by decide); omega)
                refine lv_iconst (v := 0) hx hb dX12_product_66 (by decide) ?_
                refine lv_goto (tgt := 85) hx hb dX12_product_67 (by decide) ?_
                refine lv_istore_n (lv' := [(1, .int 0), (3, .int r_77), (0, .ref (h 0)), (2, .int y2_10)]) hx hb dX12_product_85 rfl hl (by decide) rfl (fun ls hl => ?_)
                refine lv_aload_n hx hb dX12_product_86 rfl (lv_at hl 2 rfl) ?_
                have q_103 : (f_74 0 13).toInt = v_81.toInt := (congrArg Int32.toInt (show f_74 0 13 = v_81 from ev_81.symm))
                have q_104 : (f_74 0 14).toInt = v_22.toInt := (congrArg Int32.toInt (show f_74 0 14 = v_22 from ((hk_f_74 0 14 (by decide)).trans (by rw [ef_69, sg_up_s, sgu_n (by decide)]; exact ev_22.symm))))
                refine sg_calli (va_runV (As := []) (rest := []) ⟨hx, hb, hml, hown, hts⟩ (kX12_byteAt l D ca za h hh f_74 L Q hI H.size) (cwV 0 hts (gw_V (fun _ h => List.mem_cons_of_mem _ h) mw_840 mw_841 mw_842 mw_619 mw_839) rfl rfl rfl (by decide +kernel) ⟨Nat.le_of_ble_eq_true rfl, Nat.le_of_ble_eq_true rfl⟩) (sg_preV (ci := 12) (C := RX12) (T := TX12) (N := 55) hA hK hP hS hZ 0 (by decide) rfl rfl) rfl rfl hl.1 rfl (lv_room (Nat.le_of_ble_eq_true rfl)) dX12_product_87 ⟨Nat.le_refl _, Nat.le_refl _⟩) hA hS (fun r_108 f_105 L_106 Q_107 H locs hq hP hS => ?_)
                obtain ⟨⟨ef9, eL9, eQ9⟩, hq, p_109⟩ := hq
                rw [ef9, eL9, eQ9] at hP; clear ef9 eL9 eQ9
                refine lv_istore_n (lv' := [(2, .int r_108), (1, .int 0), (3, .int r_77), (0, .ref (h 0))]) hx hb dX12_product_90 rfl hl (by decide) rfl (fun ls hl => ?_)
                refine lv_goto (tgt := 10) hx hb dX12_product_91 (by decide) ?_
                exact ih_10 0 r_108 f_74 _ _ _ (by have kc0 : (0 : Int32).toInt = 0 := (by decide); have zz0_13 : (f_74 0 13).toInt = v_81.toInt := (congrArg Int32.toInt (show f_74 0 13 = v_81 from ev_81.symm)); omega) (by omega) (by have kc0 : (0 : Int32).toInt = 0 := (by decide); have zz0_13 : (f_74 0 13).toInt = v_81.toInt := (congrArg Int32.toInt (show f_74 0 13 = v_81 from ev_81.symm)); omega) (by have kc0 : (0 : Int32).toInt = 0 := (by decide); have zz0_16 : (f_74 0 16).toInt = v_16.toInt := (congrArg Int32.toInt (show f_74 0 16 = v_16 from ((hk_f_74 0 16 (by decide)).trans (by rw [ef_69, sg_up_s, sgu_n (by decide)]; exact ev_16.symm)))); omega) (by have kc0 : (0 : Int32).toInt = 0 := (by decide); have zz0_15 : (f_74 0 15).toInt = v_85.toInt := (congrArg Int32.toInt (show f_74 0 15 = v_85 from ev_85.symm)); have zz0_16 : (f_74 0 16).toInt = v_16.toInt := (congrArg Int32.toInt (show f_74 0 16 = v_16 from ((hk_f_74 0 16 (by decide)).trans (by rw [ef_69, sg_up_s, sgu_n (by decide)]; exact ev_16.symm)))); omega) (by have kc0 : (0 : Int32).toInt = 0 := (by decide); have zz0_13 : (f_74 0 13).toInt = v_81.toInt := (congrArg Int32.toInt (show f_74 0 13 = v_81 from ev_81.symm)); have zz0_14 : (f_74 0 14).toInt = v_22.toInt := (congrArg Int32.toInt (show f_74 0 14 = v_22 from ((hk_f_74 0 14 (by decide)).trans (by rw [ef_69, sg_up_s, sgu_n (by decide)]; exact ev_22.symm)))); omega) hI hF hP hS (lv_sub hl [3, 1, 0] rfl)
            · skip
              exfalso; have c_90 : y2_10.toInt = 42 := (by have z := Int32.toInt_inj.mpr c; have k1 : (42 : Int32).toInt = 42 := (by decide); omega); omega
          · skip
            have c_66 : y2_10.toInt ≠ 47 := (by have z := bn_ne c; have k1 : (47 : Int32).toInt = 47 := (by decide); omega)
            refine lv_iload_n hx hb dX12_product_29 rfl (lv_at hl 2 rfl) ?_
            refine lv_bipush (v := 37) hx hb dX12_product_30 (by decide) ?_
            refine lv_icmp_ne (tgt := 94) hx hb dX12_product_32 (by decide) (fun c => ?_) (fun c => ?_)
            · skip
              have c_110 : y2_10.toInt ≠ 37 := (by have z := bn_ne c; have k1 : (37 : Int32).toInt = 37 := (by decide); omega)
              refine lv_iload_n hx hb dX12_product_94 rfl (lv_at hl 1 rfl) ?_
              have q_112 : (fp_10 0 13).toInt = v_13.toInt := (congrArg Int32.toInt (show fp_10 0 13 = v_13 from ev_13.symm))
              have q_113 : (fp_10 0 16).toInt = v_16.toInt := (congrArg Int32.toInt (show fp_10 0 16 = v_16 from ev_16.symm))
              have q_114 : (fp_10 0 15).toInt = v_19.toInt := (congrArg Int32.toInt (show fp_10 0 15 = v_19 from ev_19.symm))
              have q_115 : (fp_10 0 16).toInt = v_16.toInt := (congrArg Int32.toInt (show fp_10 0 16 = v_16 from ev_16.symm))
              exact hret _ _ _ _ (y1_10) fp_10 L Q dX12_product_95 hP hS ⟨⟨hI, hF, rfl, rfl⟩, trivial, (by omega), (by omega), (by omega)⟩
            · skip
              have c_111 : y2_10.toInt = 37 := (by have z := Int32.toInt_inj.mpr c; have k1 : (37 : Int32).toInt = 37 := (by decide); omega)
              refine lv_aload_n hx hb dX12_product_35 rfl (lv_at hl 0 rfl) ?_
              refine lv_dup hx hb dX12_product_36 rfl ?_
              refine sg_get (ci := 12) (v := .int v_13) (C := RX12) (T := TX12) (N := 55) hx hb hts (fun w h => List.mem_cons_of_mem _ (gx_12 w h)) hown hK hP 0 (by decide) rfl rfl 13 (by decide) (hts _ (List.mem_cons_of_mem _ mw_625)) (fun _ h9 => h9) (congrArg (fun z => some (Value.int z)) (show fp_10 0 13 = v_13 from ev_13.symm)) dX12_product_37 ?_
              refine lv_iconst (v := 1) hx hb dX12_product_40 (by decide) ?_
              refine lv_iadd hx hb dX12_product_41 ?_
              refine lv_topi (fun v_116 ev_116 => ?_)
              have q_117 : v_116.toInt = v_13.toInt + 1 := by rw [ev_116]; have k1 : (1 : Int32).toInt = 1 := (by decide); exact (bn_addI (by omega) (by omega)).trans (by omega)
              refine sg_put (ci := 12) (x := v_116) (ty := .int) (C := RX12) (T := TX12) (N := 55) hx hb hts (fun w h => List.mem_cons_of_mem _ (gx_12 w h)) tyX12 tyX12_ok nmX12 hown hh hA hK hP hS 0 (by decide) rfl rfl 13 (by decide) (hts _ (List.mem_cons_of_mem _ mw_625)) (fun _ h9 => h9) rfl rfl (by decide +kernel) rfl rfl (Nat.le_of_ble_eq_true rfl) dX12_product_42 (fun f_118 H locs ef_118 hP hS => ?_)
              have hI : sgI loM hiM f_118 := by rw [ef_118]; exact sgI.put hI 0 13 (show 0 ≤ (v_116 : Int32).toInt ∧ (v_116 : Int32).toInt ≤ 120 from by omega)
              have hF : sgK WkX12_product_6 f f_118 := sgK.put hF ef_118 (by rfl)
              refine lv_aload_n hx hb dX12_product_45 rfl (lv_at hl 0 rfl) ?_
              have q_119 : (f_118 0 16).toInt = v_16.toInt := (congrArg Int32.toInt (show f_118 0 16 = v_16 from (by rw [ef_118, sg_up_s, sgu_n (by decide)]; exact ev_16.symm)))
              have q_120 : (f_118 0 15).toInt = v_19.toInt := (congrArg Int32.toInt (show f_118 0 15 = v_19 from (by rw [ef_118, sg_up_s, sgu_n (by decide)]; exact ev_19.symm)))
              have q_121 : (f_118 0 16).toInt = v_16.toInt := (congrArg Int32.toInt (show f_118 0 16 = v_16 from (by rw [ef_118, sg_up_s, sgu_n (by decide)]; exact ev_16.symm)))
              have q_122 : (f_118 0 13).toInt = v_116.toInt := (congrArg Int32.toInt (show f_118 0 13 = v_116 from (by rw [ef_118, sg_up_s, sgu_s])))
              refine sg_calli (va_runV (As := []) (rest := []) ⟨hx, hb, hml, hown, hts⟩ (kX12_one_6 l D ca za h hh f_118 L Q hI (by omega) (by omega) H.size) (cwV 0 hts (gw_V (fun _ h => List.mem_cons_of_mem _ h) mw_789 mw_790 mw_791 mw_619 mw_788) rfl rfl rfl (by decide +kernel) ⟨Nat.le_of_ble_eq_true rfl, Nat.le_of_ble_eq_true rfl⟩) (sg_preV (ci := 12) (C := RX12) (T := TX12) (N := 55) hA hK hP hS hZ 0 (by decide) rfl rfl) rfl rfl hl.1 rfl (lv_room (Nat.le_of_ble_eq_true rfl)) dX12_product_46 ⟨Nat.le_refl _, Nat.le_refl _⟩) hA hS (fun r_126 f_123 L_124 Q_125 H locs hq hP hS => ?_)
              obtain ⟨⟨hI, hk_f_123, eL9, eQ9⟩, hq, p_127, p_128, p_129⟩ := hq
              rw [eL9, eQ9] at hP; clear eL9 eQ9
              have hF : sgK WkX12_product_6 f f_123 := sgK.tr hF hk_f_123 (by decide)
              obtain ⟨v_130, ev_130⟩ : ∃ z : Int32, z = f_123 0 13 := ⟨_, rfl⟩
              have q_131 : 0 ≤ v_130.toInt ∧ v_130.toInt ≤ 120 := by rw [ev_130]; exact hI 0 13
              have q_132 : (f_123 0 13).toInt = v_130.toInt := (congrArg Int32.toInt (show f_123 0 13 = v_130 from ev_130.symm))
              have q_133 : (f_123 0 16).toInt = v_16.toInt := (congrArg Int32.toInt (show f_123 0 16 = v_16 from ((hk_f_123 0 16 (by decide)).trans (by rw [ef_118, sg_up_s, sgu_n (by decide)]; exact ev_16.symm))))
              obtain ⟨v_134, ev_134⟩ : ∃ z : Int32, z = f_123 0 15 := ⟨_, rfl⟩
              have q_135 : (-1) ≤ v_134.toInt ∧ v_134.toInt ≤ 120 := by rw [ev_134]; exact hI 0 15
              have q_136 : (f_123 0 15).toInt = v_134.toInt := (congrArg Int32.toInt (show f_123 0 15 = v_134 from ev_134.symm))
              have q_137 : (f_123 0 16).toInt = v_16.toInt := (congrArg Int32.toInt (show f_123 0 16 = v_16 from ((hk_f_123 0 16 (by decide)).trans (by rw [ef_118, sg_up_s, sgu_n (by decide)]; exact ev_16.symm))))
              refine lv_istore_n (lv' := [(3, .int r_126), (0, .ref (h 0)), (1, .int y1_10), (2, .int y2_10)]) hx hb dX12_product_49 rfl hl (by decide) rfl (fun ls hl => ?_)
              refine lv_iload_n hx hb dX12_product_50 rfl (lv_at hl 3 rfl) ?_
              refine lv_bipush (v := 42) hx hb dX12_product_51 (by decide) ?_
              refine lv_icmp_ne (tgt := 62) hx hb dX12_product_53 (by decide) (fun c => ?_) (fun c => ?_)
              · skip
                have c_138 : y2_10.toInt ≠ 42 := (by have z := bn_ne c; have k1 : (42 : Int32).toInt = 42 := (by decide); omega)
                refine lv_iload_n hx hb dX12_product_62 rfl (lv_at hl 0 rfl) ?_
                refine lv_if_ne (tgt := 70) hx hb dX12_product_63 (by decide) (fun c => ?_) (fun c => ?_)
                · skip
                  have c_140 : r_126.toInt ≠ 0 := (by have z := bn_ne c; have k1 : (0 : Int32).toInt = 0 := (by decide); omega)
                  refine lv_iload_n hx hb dX12_product_70 rfl (lv_at hl 3 rfl) ?_
                  refine lv_bipush (v := 47) hx hb dX12_product_71 (by decide) ?_
                  refine lv_icmp_ne (tgt := 82) hx hb dX12_product_73 (by decide) (fun c => ?_) (fun c => ?_)
                  · skip
                    have c_142 : y2_10.toInt ≠ 47 := (by have z := bn_ne c; have k1 : (47 : Int32).toInt = 47 := (by decide); omega)
                    refine lv_iload_n hx hb dX12_product_82 rfl (lv_at hl 2 rfl) ?_
                    refine lv_iload_n hx hb dX12_product_83 rfl (lv_at hl 0 rfl) ?_
                    refine lv_irem hx hb dX12_product_84 (bn_nz (by omega)) ?_
                    refine lv_topi (fun v_144 ev_144 => ?_)
                    refine lv_istore_n (lv' := [(1, .int v_144), (3, .int r_126), (0, .ref (h 0)), (2, .int y2_10)]) hx hb dX12_product_85 rfl hl (by decide) rfl (fun ls hl => ?_)
                    refine lv_aload_n hx hb dX12_product_86 rfl (lv_at hl 2 rfl) ?_
                    have q_145 : (f_123 0 13).toInt = v_130.toInt := (congrArg Int32.toInt (show f_123 0 13 = v_130 from ev_130.symm))
                    have q_146 : (f_123 0 14).toInt = v_22.toInt := (congrArg Int32.toInt (show f_123 0 14 = v_22 from ((hk_f_123 0 14 (by decide)).trans (by rw [ef_118, sg_up_s, sgu_n (by decide)]; exact ev_22.symm))))
                    refine sg_calli (va_runV (As := []) (rest := []) ⟨hx, hb, hml, hown, hts⟩ (kX12_byteAt l D ca za h hh f_123 L Q hI H.size) (cwV 0 hts (gw_V (fun _ h => List.mem_cons_of_mem _ h) mw_840 mw_841 mw_842 mw_619 mw_839) rfl rfl rfl (by decide +kernel) ⟨Nat.le_of_ble_eq_true rfl, Nat.le_of_ble_eq_true rfl⟩) (sg_preV (ci := 12) (C := RX12) (T := TX12) (N := 55) hA hK hP hS hZ 0 (by decide) rfl rfl) rfl rfl hl.1 rfl (lv_room (Nat.le_of_ble_eq_true rfl)) dX12_product_87 ⟨Nat.le_refl _, Nat.le_refl _⟩) hA hS (fun r_150 f_147 L_148 Q_149 H locs hq hP hS => ?_)
                    obtain ⟨⟨ef9, eL9, eQ9⟩, hq, p_151⟩ := hq
                    rw [ef9, eL9, eQ9] at hP; clear ef9 eL9 eQ9
                    refine lv_istore_n (lv' := [(2, .int r_150), (1, .int v_144), (3, .int r_126), (0, .ref (h 0))]) hx hb dX12_product_90 rfl hl (by decide) rfl (fun ls hl => ?_)
                    refine lv_goto (tgt := 10) hx hb dX12_product_91 (by decide) ?_
                    exact ih_10 v_144 r_150 f_123 _ _ _ (by have zz0_13 : (f_123 0 13).toInt = v_130.toInt := (congrArg Int32.toInt (show f_123 0 13 = v_130 from ev_130.symm)); omega) (by omega) (by have zz0_13 : (f_123 0 13).toInt = v_130.toInt := (congrArg Int32.toInt (show f_123 0 13 = v_130 from ev_130.symm)); omega) (by have zz0_16 : (f_123 0 16).toInt = v_16.toInt := (congrArg Int32.toInt (show f_123 0 16 = v_16 from ((hk_f_123 0 16 (by decide)).trans (by rw [ef_118, sg_up_s, sgu_n (by decide)]; exact ev_16.symm)))); omega) (by have zz0_15 : (f_123 0 15).toInt = v_134.toInt := (congrArg Int32.toInt (show f_123 0 15 = v_134 from ev_134.symm)); have zz0_16 : (f_123 0 16).toInt = v_16.toInt := (congrArg Int32.toInt (show f_123 0 16 = v_16 from ((hk_f_123 0 16 (by decide)).trans (by rw [ef_118, sg_up_s, sgu_n (by decide)]; exact ev_16.symm)))); omega) (by have zz0_13 : (f_123 0 13).toInt = v_130.toInt := (congrArg Int32.toInt (show f_123 0 13 = v_130 from ev_130.symm)); have zz0_14 : (f_123 0 14).toInt = v_22.toInt := (congrArg Int32.toInt (show f_123 0 14 = v_22 from ((hk_f_123 0 14 (by decide)).trans (by rw [ef_118, sg_up_s, sgu_n (by decide)]; exact ev_22.symm)))); omega) hI hF hP hS (lv_sub hl [3, 1, 0] rfl)
                  · skip
                    exfalso; have c_143 : y2_10.toInt = 47 := (by have z := Int32.toInt_inj.mpr c; have k1 : (47 : Int32).toInt = 47 := (by decide); omega); omega
                · skip
                  have c_141 : r_126.toInt = 0 := (by have z := Int32.toInt_inj.mpr c; have k1 : (0 : Int32).toInt = 0 := (by decide); omega)
                  refine lv_iconst (v := 0) hx hb dX12_product_66 (by decide) ?_
                  refine lv_goto (tgt := 85) hx hb dX12_product_67 (by decide) ?_
                  refine lv_istore_n (lv' := [(1, .int 0), (3, .int r_126), (0, .ref (h 0)), (2, .int y2_10)]) hx hb dX12_product_85 rfl hl (by decide) rfl (fun ls hl => ?_)
                  refine lv_aload_n hx hb dX12_product_86 rfl (lv_at hl 2 rfl) ?_
                  have q_152 : (f_123 0 13).toInt = v_130.toInt := (congrArg Int32.toInt (show f_123 0 13 = v_130 from ev_130.symm))
                  have q_153 : (f_123 0 14).toInt = v_22.toInt := (congrArg Int32.toInt (show f_123 0 14 = v_22 from ((hk_f_123 0 14 (by decide)).trans (by rw [ef_118, sg_up_s, sgu_n (by decide)]; exact ev_22.symm))))
                  refine sg_calli (va_runV (As := []) (rest := []) ⟨hx, hb, hml, hown, hts⟩ (kX12_byteAt l D ca za h hh f_123 L Q hI H.size) (cwV 0 hts (gw_V (fun _ h => List.mem_cons_of_mem _ h) mw_840 mw_841 mw_842 mw_619 mw_839) rfl rfl rfl (by decide +kernel) ⟨Nat.le_of_ble_eq_true rfl, Nat.le_of_ble_eq_true rfl⟩) (sg_preV (ci := 12) (C := RX12) (T := TX12) (N := 55) hA hK hP hS hZ 0 (by decide) rfl rfl) rfl rfl hl.1 rfl (lv_room (Nat.le_of_ble_eq_true rfl)) dX12_product_87 ⟨Nat.le_refl _, Nat.le_refl _⟩) hA hS (fun r_157 f_154 L_155 Q_156 H locs hq hP hS => ?_)
                  obtain ⟨⟨ef9, eL9, eQ9⟩, hq, p_158⟩ := hq
                  rw [ef9, eL9, eQ9] at hP; clear ef9 eL9 eQ9
                  refine lv_istore_n (lv' := [(2, .int r_157), (1, .int 0), (3, .int r_126), (0, .ref (h 0))]) hx hb dX12_product_90 rfl hl (by decide) rfl (fun ls hl => ?_)
                  refine lv_goto (tgt := 10) hx hb dX12_product_91 (by decide) ?_
                  exact ih_10 0 r_157 f_123 _ _ _ (by have kc0 : (0 : Int32).toInt = 0 := (by decide); have zz0_13 : (f_123 0 13).toInt = v_130.toInt := (congrArg Int32.toInt (show f_123 0 13 = v_130 from ev_130.symm)); omega) (by omega) (by have kc0 : (0 : Int32).toInt = 0 := (by decide); have zz0_13 : (f_123 0 13).toInt = v_130.toInt := (congrArg Int32.toInt (show f_123 0 13 = v_130 from ev_130.symm)); omega) (by have kc0 : (0 : Int32).toInt = 0 := (by decide); have zz0_16 : (f_123 0 16).toInt = v_16.toInt := (congrArg Int32.toInt (show f_123 0 16 = v_16 from ((hk_f_123 0 16 (by decide)).trans (by rw [ef_118, sg_up_s, sgu_n (by decide)]; exact ev_16.symm)))); omega) (by have kc0 : (0 : Int32).toInt = 0 := (by decide); have zz0_15 : (f_123 0 15).toInt = v_134.toInt := (congrArg Int32.toInt (show f_123 0 15 = v_134 from ev_134.symm)); have zz0_16 : (f_123 0 16).toInt = v_16.toInt := (congrArg Int32.toInt (show f_123 0 16 = v_16 from ((hk_f_123 0 16 (by decide)).trans (by rw [ef_118, sg_up_s, sgu_n (by decide)]; exact ev_16.symm)))); omega) (by have kc0 : (0 : Int32).toInt = 0 := (by decide); have zz0_13 : (f_123 0 13).toInt = v_130.toInt := (congrArg Int32.toInt (show f_123 0 13 = v_130 from ev_130.symm)); have zz0_14 : (f_123 0 14).toInt = v_22.toInt := (congrArg Int32.toInt (show f_123 0 14 = v_22 from ((hk_f_123 0 14 (by decide)).trans (by rw [ef_118, sg_up_s, sgu_n (by decide)]; exact ev_22.symm)))); omega) hI hF hP hS (lv_sub hl [3, 1, 0] rfl)
              · skip
                exfalso; have c_139 : y2_10.toInt = 42 := (by have z := Int32.toInt_inj.mpr c; have k1 : (42 : Int32).toInt = 42 := (by decide); omega); omega
  refine lv_aload_n hx hb dX12_product_0 rfl (lv_at hl 0 rfl) ?_
  have q_159 : (f 0 16).toInt = v_1.toInt := (congrArg Int32.toInt (show f 0 16 = v_1 from ev_1.symm))
  have q_160 : (f 0 15).toInt = v_3.toInt := (congrArg Int32.toInt (show f 0 15 = v_3 from ev_3.symm))
  have q_161 : (f 0 16).toInt = v_1.toInt := (congrArg Int32.toInt (show f 0 16 = v_1 from ev_1.symm))
  have q_162 : (f 0 13).toInt = v_5.toInt := (congrArg Int32.toInt (show f 0 13 = v_5 from ev_5.symm))
  refine sg_calli (va_runV (As := []) (rest := []) ⟨hx, hb, hml, hown, hts⟩ (kX12_one_6 l D ca za h hh f L Q hI (by omega) (by omega) H.size) (cwV 0 hts (gw_V (fun _ h => List.mem_cons_of_mem _ h) mw_789 mw_790 mw_791 mw_619 mw_788) rfl rfl rfl (by decide +kernel) ⟨Nat.le_of_ble_eq_true rfl, Nat.le_of_ble_eq_true rfl⟩) (sg_preV (ci := 12) (C := RX12) (T := TX12) (N := 55) hA hK hP hS hZ 0 (by decide) rfl rfl) rfl rfl hl.1 rfl (lv_room (Nat.le_of_ble_eq_true rfl)) dX12_product_1 ⟨Nat.le_refl _, Nat.le_refl _⟩) hA hS (fun r_166 f_163 L_164 Q_165 H locs hq hP hS => ?_)
  obtain ⟨⟨hI, hk_f_163, eL9, eQ9⟩, hq, p_167, p_168, p_169⟩ := hq
  rw [eL9, eQ9] at hP; clear eL9 eQ9
  have hF : sgK WkX12_product_6 f f_163 := sgK.tr hF hk_f_163 (by decide)
  obtain ⟨v_170, ev_170⟩ : ∃ z : Int32, z = f_163 0 13 := ⟨_, rfl⟩
  have q_171 : 0 ≤ v_170.toInt ∧ v_170.toInt ≤ 120 := by rw [ev_170]; exact hI 0 13
  have q_172 : (f_163 0 13).toInt = v_170.toInt := (congrArg Int32.toInt (show f_163 0 13 = v_170 from ev_170.symm))
  have q_173 : (f_163 0 16).toInt = v_1.toInt := (congrArg Int32.toInt (show f_163 0 16 = v_1 from ((hk_f_163 0 16 (by decide)).trans ev_1.symm)))
  obtain ⟨v_174, ev_174⟩ : ∃ z : Int32, z = f_163 0 15 := ⟨_, rfl⟩
  have q_175 : (-1) ≤ v_174.toInt ∧ v_174.toInt ≤ 120 := by rw [ev_174]; exact hI 0 15
  have q_176 : (f_163 0 15).toInt = v_174.toInt := (congrArg Int32.toInt (show f_163 0 15 = v_174 from ev_174.symm))
  have q_177 : (f_163 0 16).toInt = v_1.toInt := (congrArg Int32.toInt (show f_163 0 16 = v_1 from ((hk_f_163 0 16 (by decide)).trans ev_1.symm)))
  refine lv_istore_n (lv' := [(1, .int r_166), (0, .ref (h 0))]) hx hb dX12_product_4 rfl hl (by decide) rfl (fun ls hl => ?_)
  refine lv_aload_n hx hb dX12_product_5 rfl (lv_at hl 1 rfl) ?_
  have q_178 : (f_163 0 13).toInt = v_170.toInt := (congrArg Int32.toInt (show f_163 0 13 = v_170 from ev_170.symm))
  have q_179 : (f_163 0 14).toInt = v_7.toInt := (congrArg Int32.toInt (show f_163 0 14 = v_7 from ((hk_f_163 0 14 (by decide)).trans ev_7.symm)))
  refine sg_calli (va_runV (As := []) (rest := []) ⟨hx, hb, hml, hown, hts⟩ (kX12_byteAt l D ca za h hh f_163 L Q hI H.size) (cwV 0 hts (gw_V (fun _ h => List.mem_cons_of_mem _ h) mw_840 mw_841 mw_842 mw_619 mw_839) rfl rfl rfl (by decide +kernel) ⟨Nat.le_of_ble_eq_true rfl, Nat.le_of_ble_eq_true rfl⟩) (sg_preV (ci := 12) (C := RX12) (T := TX12) (N := 55) hA hK hP hS hZ 0 (by decide) rfl rfl) rfl rfl hl.1 rfl (lv_room (Nat.le_of_ble_eq_true rfl)) dX12_product_6 ⟨Nat.le_refl _, Nat.le_refl _⟩) hA hS (fun r_183 f_180 L_181 Q_182 H locs hq hP hS => ?_)
  obtain ⟨⟨ef9, eL9, eQ9⟩, hq, p_184⟩ := hq
  rw [ef9, eL9, eQ9] at hP; clear ef9 eL9 eQ9
  refine lv_istore_n (lv' := [(2, .int r_183), (1, .int r_166), (0, .ref (h 0))]) hx hb dX12_product_9 rfl hl (by decide) rfl (fun ls hl => ?_)
  exact loop_10 121 r_166 r_183 f_163 _ _ _ (by have zz0_13 : (f_163 0 13).toInt = v_170.toInt := (congrArg Int32.toInt (show f_163 0 13 = v_170 from ev_170.symm)); omega) (by omega) (by have zz0_13 : (f_163 0 13).toInt = v_170.toInt := (congrArg Int32.toInt (show f_163 0 13 = v_170 from ev_170.symm)); omega) (by have zz0_16 : (f_163 0 16).toInt = v_1.toInt := (congrArg Int32.toInt (show f_163 0 16 = v_1 from ((hk_f_163 0 16 (by decide)).trans ev_1.symm))); omega) (by have zz0_15 : (f_163 0 15).toInt = v_174.toInt := (congrArg Int32.toInt (show f_163 0 15 = v_174 from ev_174.symm)); have zz0_16 : (f_163 0 16).toInt = v_1.toInt := (congrArg Int32.toInt (show f_163 0 16 = v_1 from ((hk_f_163 0 16 (by decide)).trans ev_1.symm))); omega) (by have zz0_13 : (f_163 0 13).toInt = v_170.toInt := (congrArg Int32.toInt (show f_163 0 13 = v_170 from ev_170.symm)); have zz0_14 : (f_163 0 14).toInt = v_7.toInt := (congrArg Int32.toInt (show f_163 0 14 = v_7 from ((hk_f_163 0 14 (by decide)).trans ev_7.symm))); omega) hI hF hP hS (lv_sub hl [2, 1, 0] rfl)

abbrev WkX12_sums_6 : List (Nat × Nat × Option Nat) := [(0, 0, some 13), (0, 0, some 15)]
set_option maxHeartbeats 4000000 in
set_option maxRecDepth 100000 in
theorem kX12_sums_6 (l : Launch) (D : va_G) (ca : Nat → ClassId) (za h : Nat → Nat) (hh : sgH 26 h) (f : sg_F) (L : sg_L) (Q : sg_Q) (hI : sgI loM hiM f) (p0 : 6 ≤ (f 0 16).toInt) (p1 : 0 ≤ (f 0 15).toInt ∨ (f 0 16).toInt = 6) (sz : Nat) : Met l yX12_sums gwX12_sums { frames := 3, cells := 0, slots := 0, locals := 67 } (sgP D vwCl (tyX ca) 26 h (eM ca h) zcM za f L Q sz [.ref (h 0)]) (sgQi D vwCl 26 h (eM ca h) sz (fun r f1 L1 Q1 => ((sgI loM hiM f1 ∧ sgK WkX12_sums_6 f f1 ∧ L1 = L ∧ Q1 = Q) ∧ True ∧ ((f 0 13).toInt ≤ (f1 0 13).toInt) ∧ (6 ≤ (f1 0 16).toInt) ∧ (0 ≤ (f1 0 15).toInt ∨ (f1 0 16).toInt = 6)))) 0 0 (sgA 26 h sz) := by
  refine sg_ofWi (cc := cX12_sums) (maxL := 4) RX12 (by decide) rfl rfl (Nat.le_of_ble_eq_true rfl) ?_
  intro p e s m below meth cd Qz ls hx hb hml hown hts hK hZ hP hS hl hret
  have hA := sgY.self (n := 26) (h := h) (sz := s.heap.size)
  have hl : lv_has ls 4 [(0, .ref (h 0))] := hl
  obtain ⟨H, hH⟩ : ∃ z : Heap, z = s.heap := ⟨_, rfl⟩
  obtain ⟨locs, hlo⟩ : ∃ z : List Loc, z = [] := ⟨_, rfl⟩
  have hP : va_P D vwCl (sgw 26 h (eM ca h) f L Q) H := by rw [hH]; exact hP
  have hS : va_S (sgA 26 h s.heap.size) s.heap H locs := by rw [hH, hlo]; exact hS
  suffices hgo : W p l e ({ frames := 3, cells := 0, slots := 0, locals := 67 }) s m ([.ref (h 0)] : List Value).toArray below meth cd H locs 0 0 Qz (F0 m 0 ls []) by rw [hH, hlo] at hgo; exact hgo
  clear hH hlo
  obtain ⟨v_1, ev_1⟩ : ∃ z : Int32, z = f 0 16 := ⟨_, rfl⟩
  have q_2 : 0 ≤ v_1.toInt ∧ v_1.toInt ≤ 6 := by rw [ev_1]; exact hI 0 16
  obtain ⟨v_3, ev_3⟩ : ∃ z : Int32, z = f 0 15 := ⟨_, rfl⟩
  have q_4 : (-1) ≤ v_3.toInt ∧ v_3.toInt ≤ 120 := by rw [ev_3]; exact hI 0 15
  obtain ⟨v_5, ev_5⟩ : ∃ z : Int32, z = f 0 13 := ⟨_, rfl⟩
  have q_6 : 0 ≤ v_5.toInt ∧ v_5.toInt ≤ 120 := by rw [ev_5]; exact hI 0 13
  have o_7 : (f 0 16).toInt = v_1.toInt := (congrArg Int32.toInt (show f 0 16 = v_1 from ev_1.symm))
  have o_8 : (f 0 15).toInt = v_3.toInt := (congrArg Int32.toInt (show f 0 15 = v_3 from ev_3.symm))
  have o_9 : (f 0 13).toInt = v_5.toInt := (congrArg Int32.toInt (show f 0 13 = v_5 from ev_5.symm))
  have hF : sgK WkX12_sums_6 f f := sgK.rf
  have loop_5 : ∀ (n_5 : Nat) (y1_5 : Int32) (fp_5 : sg_F) (H : Heap) (locs : List Loc) (ls : Array Slot), 120 - (fp_5 0 13).toInt < (n_5 : Int) → (f 0 13).toInt ≤ (fp_5 0 13).toInt → 6 ≤ (fp_5 0 16).toInt → 0 ≤ (fp_5 0 15).toInt ∨ (fp_5 0 16).toInt = 6 → sgI loM hiM fp_5 → sgK WkX12_sums_6 f fp_5 → va_P D vwCl (sgw 26 h (eM ca h) fp_5 L Q) H → va_S (sgA 26 h s.heap.size) s.heap H locs → lv_has ls 4 [(0, .ref (h 0)), (1, .int y1_5)] → W p l e ({ frames := 3, cells := 0, slots := 0, locals := 67 }) s m ([.ref (h 0)] : List Value).toArray below meth cd H locs 0 0 Qz (F0 m 5 ls []) := by
    intro n_5
    induction n_5 with
    | zero => intro y1_5 fp_5 H locs ls hm_5 hg0_5 hg1_5 hg2_5 hI hF hP hS hl; have zb := (show 0 ≤ (fp_5 0 13).toInt ∧ (fp_5 0 13).toInt ≤ 120 from hI 0 13); exact absurd hm_5 (by omega)
    | succ n_5 ih_5 =>
      intro y1_5 fp_5 H locs ls hm_5 hg0_5 hg1_5 hg2_5 hI hF hP hS hl
      obtain ⟨v_10, ev_10⟩ : ∃ z : Int32, z = fp_5 0 13 := ⟨_, rfl⟩
      have q_11 : 0 ≤ v_10.toInt ∧ v_10.toInt ≤ 120 := by rw [ev_10]; exact hI 0 13
      have q_12 : (fp_5 0 13).toInt = v_10.toInt := by rw [ev_10]
      obtain ⟨v_13, ev_13⟩ : ∃ z : Int32, z = fp_5 0 16 := ⟨_, rfl⟩
      have q_14 : 0 ≤ v_13.toInt ∧ v_13.toInt ≤ 6 := by rw [ev_13]; exact hI 0 16
      have q_15 : (fp_5 0 16).toInt = v_13.toInt := by rw [ev_13]
      obtain ⟨v_16, ev_16⟩ : ∃ z : Int32, z = fp_5 0 15 := ⟨_, rfl⟩
      have q_17 : (-1) ≤ v_16.toInt ∧ v_16.toInt ≤ 120 := by rw [ev_16]; exact hI 0 15
      have q_18 : (fp_5 0 15).toInt = v_16.toInt := by rw [ev_16]
      refine lv_aload_n hx hb dX12_sums_5 rfl (lv_at hl 0 rfl) ?_
      refine sg_get (ci := 12) (v := .int v_16) (C := RX12) (T := TX12) (N := 55) hx hb hts (fun w h => List.mem_cons_of_mem _ (gx_12 w h)) hown hK hP 0 (by decide) rfl rfl 15 (by decide) (hts _ (List.mem_cons_of_mem _ mw_627)) (fun _ h9 => h9) (congrArg (fun z => some (Value.int z)) (show fp_5 0 15 = v_16 from ev_16.symm)) dX12_sums_6 ?_
      refine lv_if_ge (tgt := 77) hx hb dX12_sums_9 (by decide) (fun c => ?_) (fun c => ?_)
      · skip
        have c_19 : 0 ≤ v_16.toInt := (by have z := bn_le c; have k1 : (0 : Int32).toInt = 0 := (by decide); omega)
        refine lv_iload_n hx hb dX12_sums_77 rfl (lv_at hl 1 rfl) ?_
        have q_21 : (fp_5 0 13).toInt = v_10.toInt := (congrArg Int32.toInt (show fp_5 0 13 = v_10 from ev_10.symm))
        have q_22 : (fp_5 0 16).toInt = v_13.toInt := (congrArg Int32.toInt (show fp_5 0 16 = v_13 from ev_13.symm))
        have q_23 : (fp_5 0 15).toInt = v_16.toInt := (congrArg Int32.toInt (show fp_5 0 15 = v_16 from ev_16.symm))
        have q_24 : (fp_5 0 16).toInt = v_13.toInt := (congrArg Int32.toInt (show fp_5 0 16 = v_13 from ev_13.symm))
        exact hret _ _ _ _ (y1_5) fp_5 L Q dX12_sums_78 hP hS ⟨⟨hI, hF, rfl, rfl⟩, trivial, (by omega), (by omega), (by omega)⟩
      · skip
        have c_20 : v_16.toInt < 0 := (by have z := bn_nle c; have k1 : (0 : Int32).toInt = 0 := (by decide); omega)
        refine lv_aload_n hx hb dX12_sums_12 rfl (lv_at hl 0 rfl) ?_
        have q_25 : (fp_5 0 13).toInt = v_10.toInt := (congrArg Int32.toInt (show fp_5 0 13 = v_10 from ev_10.symm))
        obtain ⟨v_26, ev_26⟩ : ∃ z : Int32, z = fp_5 0 14 := ⟨_, rfl⟩
        have q_27 : 0 ≤ v_26.toInt ∧ v_26.toInt ≤ 120 := by rw [ev_26]; exact hI 0 14
        have q_28 : (fp_5 0 14).toInt = v_26.toInt := (congrArg Int32.toInt (show fp_5 0 14 = v_26 from ev_26.symm))
        refine sg_calli (va_runV (As := []) (rest := []) ⟨hx, hb, hml, hown, hts⟩ (kX12_byteAt l D ca za h hh fp_5 L Q hI H.size) (cwV 0 hts (gw_V (fun _ h => List.mem_cons_of_mem _ h) mw_840 mw_841 mw_842 mw_619 mw_839) rfl rfl rfl (by decide +kernel) ⟨Nat.le_of_ble_eq_true rfl, Nat.le_of_ble_eq_true rfl⟩) (sg_preV (ci := 12) (C := RX12) (T := TX12) (N := 55) hA hK hP hS hZ 0 (by decide) rfl rfl) rfl rfl hl.1 rfl (lv_room (Nat.le_of_ble_eq_true rfl)) dX12_sums_13 ⟨Nat.le_refl _, Nat.le_refl _⟩) hA hS (fun r_32 f_29 L_30 Q_31 H locs hq hP hS => ?_)
        obtain ⟨⟨ef9, eL9, eQ9⟩, hq, p_33⟩ := hq
        rw [ef9, eL9, eQ9] at hP; clear ef9 eL9 eQ9
        refine lv_bipush (v := 43) hx hb dX12_sums_16 (by decide) ?_
        refine lv_icmp_eq (tgt := 30) hx hb dX12_sums_18 (by decide) (fun c => ?_) (fun c => ?_)
        · skip
          have c_34 : r_32.toInt = 43 := (by have z := Int32.toInt_inj.mpr c; have k1 : (43 : Int32).toInt = 43 := (by decide); omega)
          refine lv_aload_n hx hb dX12_sums_30 rfl (lv_at hl 0 rfl) ?_
          have q_36 : (fp_5 0 13).toInt = v_10.toInt := (congrArg Int32.toInt (show fp_5 0 13 = v_10 from ev_10.symm))
          have q_37 : (fp_5 0 14).toInt = v_26.toInt := (congrArg Int32.toInt (show fp_5 0 14 = v_26 from ev_26.symm))
          refine sg_calli (va_runV (As := []) (rest := []) ⟨hx, hb, hml, hown, hts⟩ (kX12_byteAt l D ca za h hh fp_5 L Q hI H.size) (cwV 0 hts (gw_V (fun _ h => List.mem_cons_of_mem _ h) mw_840 mw_841 mw_842 mw_619 mw_839) rfl rfl rfl (by decide +kernel) ⟨Nat.le_of_ble_eq_true rfl, Nat.le_of_ble_eq_true rfl⟩) (sg_preV (ci := 12) (C := RX12) (T := TX12) (N := 55) hA hK hP hS hZ 0 (by decide) rfl rfl) rfl rfl hl.1 rfl (lv_room (Nat.le_of_ble_eq_true rfl)) dX12_sums_31 ⟨Nat.le_refl _, Nat.le_refl _⟩) hA hS (fun r_41 f_38 L_39 Q_40 H locs hq hP hS => ?_)
          obtain ⟨⟨ef9, eL9, eQ9⟩, hq, p_42⟩ := hq
          rw [ef9, eL9, eQ9] at hP; clear ef9 eL9 eQ9
          refine lv_bipush (v := 43) hx hb dX12_sums_34 (by decide) ?_
          refine lv_icmp_ne (tgt := 43) hx hb dX12_sums_36 (by decide) (fun c => ?_) (fun c => ?_)
          · skip
            have c_43 : r_41.toInt ≠ 43 := (by have z := bn_ne c; have k1 : (43 : Int32).toInt = 43 := (by decide); omega)
            refine lv_iconst (v := 0) hx hb dX12_sums_43 (by decide) ?_
            refine lv_istore_n (lv' := [(2, .int 0), (0, .ref (h 0)), (1, .int y1_5)]) hx hb dX12_sums_44 rfl hl (by decide) rfl (fun ls hl => ?_)
            refine lv_aload_n hx hb dX12_sums_45 rfl (lv_at hl 1 rfl) ?_
            refine lv_dup hx hb dX12_sums_46 rfl ?_
            refine sg_get (ci := 12) (v := .int v_10) (C := RX12) (T := TX12) (N := 55) hx hb hts (fun w h => List.mem_cons_of_mem _ (gx_12 w h)) hown hK hP 0 (by decide) rfl rfl 13 (by decide) (hts _ (List.mem_cons_of_mem _ mw_625)) (fun _ h9 => h9) (congrArg (fun z => some (Value.int z)) (show fp_5 0 13 = v_10 from ev_10.symm)) dX12_sums_47 ?_
            refine lv_iconst (v := 1) hx hb dX12_sums_50 (by decide) ?_
            refine lv_iadd hx hb dX12_sums_51 ?_
            refine lv_topi (fun v_45 ev_45 => ?_)
            have q_46 : v_45.toInt = v_10.toInt + 1 := by rw [ev_45]; have k1 : (1 : Int32).toInt = 1 := (by decide); exact (bn_addI (by omega) (by omega)).trans (by omega)
            refine sg_put (ci := 12) (x := v_45) (ty := .int) (C := RX12) (T := TX12) (N := 55) hx hb hts (fun w h => List.mem_cons_of_mem _ (gx_12 w h)) tyX12 tyX12_ok nmX12 hown hh hA hK hP hS 0 (by decide) rfl rfl 13 (by decide) (hts _ (List.mem_cons_of_mem _ mw_625)) (fun _ h9 => h9) rfl rfl (by decide +kernel) rfl rfl (Nat.le_of_ble_eq_true rfl) dX12_sums_52 (fun f_47 H locs ef_47 hP hS => ?_)
            have hI : sgI loM hiM f_47 := by rw [ef_47]; exact sgI.put hI 0 13 (show 0 ≤ (v_45 : Int32).toInt ∧ (v_45 : Int32).toInt ≤ 120 from by omega)
            have hF : sgK WkX12_sums_6 f f_47 := sgK.put hF ef_47 (by rfl)
            refine lv_aload_n hx hb dX12_sums_55 rfl (lv_at hl 1 rfl) ?_
            have q_48 : (f_47 0 16).toInt = v_13.toInt := (congrArg Int32.toInt (show f_47 0 16 = v_13 from (by rw [ef_47, sg_up_s, sgu_n (by decide)]; exact ev_13.symm)))
            have q_49 : (f_47 0 15).toInt = v_16.toInt := (congrArg Int32.toInt (show f_47 0 15 = v_16 from (by rw [ef_47, sg_up_s, sgu_n (by decide)]; exact ev_16.symm)))
            have q_50 : (f_47 0 16).toInt = v_13.toInt := (congrArg Int32.toInt (show f_47 0 16 = v_13 from (by rw [ef_47, sg_up_s, sgu_n (by decide)]; exact ev_13.symm)))
            have q_51 : (f_47 0 13).toInt = v_45.toInt := (congrArg Int32.toInt (show f_47 0 13 = v_45 from (by rw [ef_47, sg_up_s, sgu_s])))
            refine sg_calli (va_runV (As := []) (rest := []) ⟨hx, hb, hml, hown, hts⟩ (kX12_product_6 l D ca za h hh f_47 L Q hI (by omega) (by omega) H.size) (cwV 0 hts (gw_V (fun _ h => List.mem_cons_of_mem _ h) mw_848 mw_849 mw_850 mw_619 mw_847) rfl rfl rfl (by decide +kernel) ⟨Nat.le_of_ble_eq_true rfl, Nat.le_of_ble_eq_true rfl⟩) (sg_preV (ci := 12) (C := RX12) (T := TX12) (N := 55) hA hK hP hS hZ 0 (by decide) rfl rfl) rfl rfl hl.1 rfl (lv_room (Nat.le_of_ble_eq_true rfl)) dX12_sums_56 ⟨Nat.le_refl _, Nat.le_refl _⟩) hA hS (fun r_55 f_52 L_53 Q_54 H locs hq hP hS => ?_)
            obtain ⟨⟨hI, hk_f_52, eL9, eQ9⟩, hq, p_56, p_57, p_58⟩ := hq
            rw [eL9, eQ9] at hP; clear eL9 eQ9
            have hF : sgK WkX12_sums_6 f f_52 := sgK.tr hF hk_f_52 (by decide)
            obtain ⟨v_59, ev_59⟩ : ∃ z : Int32, z = f_52 0 13 := ⟨_, rfl⟩
            have q_60 : 0 ≤ v_59.toInt ∧ v_59.toInt ≤ 120 := by rw [ev_59]; exact hI 0 13
            have q_61 : (f_52 0 13).toInt = v_59.toInt := (congrArg Int32.toInt (show f_52 0 13 = v_59 from ev_59.symm))
            have q_62 : (f_52 0 16).toInt = v_13.toInt := (congrArg Int32.toInt (show f_52 0 16 = v_13 from ((hk_f_52 0 16 (by decide)).trans (by rw [ef_47, sg_up_s, sgu_n (by decide)]; exact ev_13.symm))))
            obtain ⟨v_63, ev_63⟩ : ∃ z : Int32, z = f_52 0 15 := ⟨_, rfl⟩
            have q_64 : (-1) ≤ v_63.toInt ∧ v_63.toInt ≤ 120 := by rw [ev_63]; exact hI 0 15
            have q_65 : (f_52 0 15).toInt = v_63.toInt := (congrArg Int32.toInt (show f_52 0 15 = v_63 from ev_63.symm))
            have q_66 : (f_52 0 16).toInt = v_13.toInt := (congrArg Int32.toInt (show f_52 0 16 = v_13 from ((hk_f_52 0 16 (by decide)).trans (by rw [ef_47, sg_up_s, sgu_n (by decide)]; exact ev_13.symm))))
            refine lv_istore_n (lv' := [(3, .int r_55), (2, .int 0), (0, .ref (h 0)), (1, .int y1_5)]) hx hb dX12_sums_59 rfl hl (by decide) rfl (fun ls hl => ?_)
            refine lv_iload_n hx hb dX12_sums_60 rfl (lv_at hl 1 rfl) ?_
            refine lv_if_eq (tgt := 70) hx hb dX12_sums_61 (by decide) (fun c => ?_) (fun c => absurd c (by decide))
            refine lv_iload_n hx hb dX12_sums_70 rfl (lv_at hl 3 rfl) ?_
            refine lv_iload_n hx hb dX12_sums_71 rfl (lv_at hl 0 rfl) ?_
            refine lv_isub hx hb dX12_sums_72 ?_
            refine lv_topi (fun v_67 ev_67 => ?_)
            refine lv_istore_n (lv' := [(1, .int v_67), (3, .int r_55), (2, .int 0), (0, .ref (h 0))]) hx hb dX12_sums_73 rfl hl (by decide) rfl (fun ls hl => ?_)
            refine lv_goto (tgt := 5) hx hb dX12_sums_74 (by decide) ?_
            exact ih_5 v_67 f_52 _ _ _ (by have zz0_13 : (f_52 0 13).toInt = v_59.toInt := (congrArg Int32.toInt (show f_52 0 13 = v_59 from ev_59.symm)); omega) (by have zz0_13 : (f_52 0 13).toInt = v_59.toInt := (congrArg Int32.toInt (show f_52 0 13 = v_59 from ev_59.symm)); omega) (by have zz0_16 : (f_52 0 16).toInt = v_13.toInt := (congrArg Int32.toInt (show f_52 0 16 = v_13 from ((hk_f_52 0 16 (by decide)).trans (by rw [ef_47, sg_up_s, sgu_n (by decide)]; exact ev_13.symm)))); omega) (by have zz0_15 : (f_52 0 15).toInt = v_63.toInt := (congrArg Int32.toInt (show f_52 0 15 = v_63 from ev_63.symm)); have zz0_16 : (f_52 0 16).toInt = v_13.toInt := (congrArg Int32.toInt (show f_52 0 16 = v_13 from ((hk_f_52 0 16 (by decide)).trans (by rw [ef_47, sg_up_s, sgu_n (by decide)]; exact ev_13.symm)))); omega) hI hF hP hS (lv_sub hl [3, 0] rfl)
          · skip
            have c_44 : r_41.toInt = 43 := (by have z := Int32.toInt_inj.mpr c; have k1 : (43 : Int32).toInt = 43 := (by decide); omega)
            refine lv_iconst (v := 1) hx hb dX12_sums_39 (by decide) ?_
            refine lv_goto (tgt := 44) hx hb dX12_sums_40 (by decide) ?_
            refine lv_istore_n (lv' := [(2, .int 1), (0, .ref (h 0)), (1, .int y1_5)]) hx hb dX12_sums_44 rfl hl (by decide) rfl (fun ls hl => ?_)
            refine lv_aload_n hx hb dX12_sums_45 rfl (lv_at hl 1 rfl) ?_
            refine lv_dup hx hb dX12_sums_46 rfl ?_
            refine sg_get (ci := 12) (v := .int v_10) (C := RX12) (T := TX12) (N := 55) hx hb hts (fun w h => List.mem_cons_of_mem _ (gx_12 w h)) hown hK hP 0 (by decide) rfl rfl 13 (by decide) (hts _ (List.mem_cons_of_mem _ mw_625)) (fun _ h9 => h9) (congrArg (fun z => some (Value.int z)) (show fp_5 0 13 = v_10 from ev_10.symm)) dX12_sums_47 ?_
            refine lv_iconst (v := 1) hx hb dX12_sums_50 (by decide) ?_
            refine lv_iadd hx hb dX12_sums_51 ?_
            refine lv_topi (fun v_68 ev_68 => ?_)
            have q_69 : v_68.toInt = v_10.toInt + 1 := by rw [ev_68]; have k1 : (1 : Int32).toInt = 1 := (by decide); exact (bn_addI (by omega) (by omega)).trans (by omega)
            refine sg_put (ci := 12) (x := v_68) (ty := .int) (C := RX12) (T := TX12) (N := 55) hx hb hts (fun w h => List.mem_cons_of_mem _ (gx_12 w h)) tyX12 tyX12_ok nmX12 hown hh hA hK hP hS 0 (by decide) rfl rfl 13 (by decide) (hts _ (List.mem_cons_of_mem _ mw_625)) (fun _ h9 => h9) rfl rfl (by decide +kernel) rfl rfl (Nat.le_of_ble_eq_true rfl) dX12_sums_52 (fun f_70 H locs ef_70 hP hS => ?_)
            have hI : sgI loM hiM f_70 := by rw [ef_70]; exact sgI.put hI 0 13 (show 0 ≤ (v_68 : Int32).toInt ∧ (v_68 : Int32).toInt ≤ 120 from by omega)
            have hF : sgK WkX12_sums_6 f f_70 := sgK.put hF ef_70 (by rfl)
            refine lv_aload_n hx hb dX12_sums_55 rfl (lv_at hl 1 rfl) ?_
            have q_71 : (f_70 0 16).toInt = v_13.toInt := (congrArg Int32.toInt (show f_70 0 16 = v_13 from (by rw [ef_70, sg_up_s, sgu_n (by decide)]; exact ev_13.symm)))
            have q_72 : (f_70 0 15).toInt = v_16.toInt := (congrArg Int32.toInt (show f_70 0 15 = v_16 from (by rw [ef_70, sg_up_s, sgu_n (by decide)]; exact ev_16.symm)))
            have q_73 : (f_70 0 16).toInt = v_13.toInt := (congrArg Int32.toInt (show f_70 0 16 = v_13 from (by rw [ef_70, sg_up_s, sgu_n (by decide)]; exact ev_13.symm)))
            have q_74 : (f_70 0 13).toInt = v_68.toInt := (congrArg Int32.toInt (show f_70 0 13 = v_68 from (by rw [ef_70, sg_up_s, sgu_s])))
            refine sg_calli (va_runV (As := []) (rest := []) ⟨hx, hb, hml, hown, hts⟩ (kX12_product_6 l D ca za h hh f_70 L Q hI (by omega) (by omega) H.size) (cwV 0 hts (gw_V (fun _ h => List.mem_cons_of_mem _ h) mw_848 mw_849 mw_850 mw_619 mw_847) rfl rfl rfl (by decide +kernel) ⟨Nat.le_of_ble_eq_true rfl, Nat.le_of_ble_eq_true rfl⟩) (sg_preV (ci := 12) (C := RX12) (T := TX12) (N := 55) hA hK hP hS hZ 0 (by decide) rfl rfl) rfl rfl hl.1 rfl (lv_room (Nat.le_of_ble_eq_true rfl)) dX12_sums_56 ⟨Nat.le_refl _, Nat.le_refl _⟩) hA hS (fun r_78 f_75 L_76 Q_77 H locs hq hP hS => ?_)
            obtain ⟨⟨hI, hk_f_75, eL9, eQ9⟩, hq, p_79, p_80, p_81⟩ := hq
            rw [eL9, eQ9] at hP; clear eL9 eQ9
            have hF : sgK WkX12_sums_6 f f_75 := sgK.tr hF hk_f_75 (by decide)
            obtain ⟨v_82, ev_82⟩ : ∃ z : Int32, z = f_75 0 13 := ⟨_, rfl⟩
            have q_83 : 0 ≤ v_82.toInt ∧ v_82.toInt ≤ 120 := by rw [ev_82]; exact hI 0 13
            have q_84 : (f_75 0 13).toInt = v_82.toInt := (congrArg Int32.toInt (show f_75 0 13 = v_82 from ev_82.symm))
            have q_85 : (f_75 0 16).toInt = v_13.toInt := (congrArg Int32.toInt (show f_75 0 16 = v_13 from ((hk_f_75 0 16 (by decide)).trans (by rw [ef_70, sg_up_s, sgu_n (by decide)]; exact ev_13.symm))))
            obtain ⟨v_86, ev_86⟩ : ∃ z : Int32, z = f_75 0 15 := ⟨_, rfl⟩
            have q_87 : (-1) ≤ v_86.toInt ∧ v_86.toInt ≤ 120 := by rw [ev_86]; exact hI 0 15
            have q_88 : (f_75 0 15).toInt = v_86.toInt := (congrArg Int32.toInt (show f_75 0 15 = v_86 from ev_86.symm))
            have q_89 : (f_75 0 16).toInt = v_13.toInt := (congrArg Int32.toInt (show f_75 0 16 = v_13 from ((hk_f_75 0 16 (by decide)).trans (by rw [ef_70, sg_up_s, sgu_n (by decide)]; exact ev_13.symm))))
            refine lv_istore_n (lv' := [(3, .int r_78), (2, .int 1), (0, .ref (h 0)), (1, .int y1_5)]) hx hb dX12_sums_59 rfl hl (by decide) rfl (fun ls hl => ?_)
            refine lv_iload_n hx hb dX12_sums_60 rfl (lv_at hl 1 rfl) ?_
            refine lv_if_eq (tgt := 70) hx hb dX12_sums_61 (by decide) (fun c => absurd c (by decide)) (fun c => ?_)
            refine lv_iload_n hx hb dX12_sums_64 rfl (lv_at hl 3 rfl) ?_
            refine lv_iload_n hx hb dX12_sums_65 rfl (lv_at hl 0 rfl) ?_
            refine lv_iadd hx hb dX12_sums_66 ?_
            refine lv_topi (fun v_90 ev_90 => ?_)
            refine lv_goto (tgt := 73) hx hb dX12_sums_67 (by decide) ?_
            refine lv_istore_n (lv' := [(1, .int v_90), (3, .int r_78), (2, .int 1), (0, .ref (h 0))]) hx hb dX12_sums_73 rfl hl (by decide) rfl (fun ls hl => ?_)
            refine lv_goto (tgt := 5) hx hb dX12_sums_74 (by decide) ?_
            exact ih_5 v_90 f_75 _ _ _ (by have zz0_13 : (f_75 0 13).toInt = v_82.toInt := (congrArg Int32.toInt (show f_75 0 13 = v_82 from ev_82.symm)); omega) (by have zz0_13 : (f_75 0 13).toInt = v_82.toInt := (congrArg Int32.toInt (show f_75 0 13 = v_82 from ev_82.symm)); omega) (by have zz0_16 : (f_75 0 16).toInt = v_13.toInt := (congrArg Int32.toInt (show f_75 0 16 = v_13 from ((hk_f_75 0 16 (by decide)).trans (by rw [ef_70, sg_up_s, sgu_n (by decide)]; exact ev_13.symm)))); omega) (by have zz0_15 : (f_75 0 15).toInt = v_86.toInt := (congrArg Int32.toInt (show f_75 0 15 = v_86 from ev_86.symm)); have zz0_16 : (f_75 0 16).toInt = v_13.toInt := (congrArg Int32.toInt (show f_75 0 16 = v_13 from ((hk_f_75 0 16 (by decide)).trans (by rw [ef_70, sg_up_s, sgu_n (by decide)]; exact ev_13.symm)))); omega) hI hF hP hS (lv_sub hl [3, 0] rfl)
        · skip
          have c_35 : r_32.toInt ≠ 43 := (by have z := bn_ne c; have k1 : (43 : Int32).toInt = 43 := (by decide); omega)
          refine lv_aload_n hx hb dX12_sums_21 rfl (lv_at hl 0 rfl) ?_
          have q_91 : (fp_5 0 13).toInt = v_10.toInt := (congrArg Int32.toInt (show fp_5 0 13 = v_10 from ev_10.symm))
          have q_92 : (fp_5 0 14).toInt = v_26.toInt := (congrArg Int32.toInt (show fp_5 0 14 = v_26 from ev_26.symm))
          refine sg_calli (va_runV (As := []) (rest := []) ⟨hx, hb, hml, hown, hts⟩ (kX12_byteAt l D ca za h hh fp_5 L Q hI H.size) (cwV 0 hts (gw_V (fun _ h => List.mem_cons_of_mem _ h) mw_840 mw_841 mw_842 mw_619 mw_839) rfl rfl rfl (by decide +kernel) ⟨Nat.le_of_ble_eq_true rfl, Nat.le_of_ble_eq_true rfl⟩) (sg_preV (ci := 12) (C := RX12) (T := TX12) (N := 55) hA hK hP hS hZ 0 (by decide) rfl rfl) rfl rfl hl.1 rfl (lv_room (Nat.le_of_ble_eq_true rfl)) dX12_sums_22 ⟨Nat.le_refl _, Nat.le_refl _⟩) hA hS (fun r_96 f_93 L_94 Q_95 H locs hq hP hS => ?_)
          obtain ⟨⟨ef9, eL9, eQ9⟩, hq, p_97⟩ := hq
          rw [ef9, eL9, eQ9] at hP; clear ef9 eL9 eQ9
          refine lv_bipush (v := 45) hx hb dX12_sums_25 (by decide) ?_
          refine lv_icmp_ne (tgt := 77) hx hb dX12_sums_27 (by decide) (fun c => ?_) (fun c => ?_)
          · skip
            have c_98 : r_96.toInt ≠ 45 := (by have z := bn_ne c; have k1 : (45 : Int32).toInt = 45 := (by decide); omega)
            refine lv_iload_n hx hb dX12_sums_77 rfl (lv_at hl 1 rfl) ?_
            have q_100 : (fp_5 0 13).toInt = v_10.toInt := (congrArg Int32.toInt (show fp_5 0 13 = v_10 from ev_10.symm))
            have q_101 : (fp_5 0 16).toInt = v_13.toInt := (congrArg Int32.toInt (show fp_5 0 16 = v_13 from ev_13.symm))
            have q_102 : (fp_5 0 15).toInt = v_16.toInt := (congrArg Int32.toInt (show fp_5 0 15 = v_16 from ev_16.symm))
            have q_103 : (fp_5 0 16).toInt = v_13.toInt := (congrArg Int32.toInt (show fp_5 0 16 = v_13 from ev_13.symm))
            exact hret _ _ _ _ (y1_5) fp_5 L Q dX12_sums_78 hP hS ⟨⟨hI, hF, rfl, rfl⟩, trivial, (by omega), (by omega), (by omega)⟩
          · skip
            have c_99 : r_96.toInt = 45 := (by have z := Int32.toInt_inj.mpr c; have k1 : (45 : Int32).toInt = 45 := (by decide); omega)
            refine lv_aload_n hx hb dX12_sums_30 rfl (lv_at hl 0 rfl) ?_
            have q_104 : (fp_5 0 13).toInt = v_10.toInt := (congrArg Int32.toInt (show fp_5 0 13 = v_10 from ev_10.symm))
            have q_105 : (fp_5 0 14).toInt = v_26.toInt := (congrArg Int32.toInt (show fp_5 0 14 = v_26 from ev_26.symm))
            refine sg_calli (va_runV (As := []) (rest := []) ⟨hx, hb, hml, hown, hts⟩ (kX12_byteAt l D ca za h hh fp_5 L Q hI H.size) (cwV 0 hts (gw_V (fun _ h => List.mem_cons_of_mem _ h) mw_840 mw_841 mw_842 mw_619 mw_839) rfl rfl rfl (by decide +kernel) ⟨Nat.le_of_ble_eq_true rfl, Nat.le_of_ble_eq_true rfl⟩) (sg_preV (ci := 12) (C := RX12) (T := TX12) (N := 55) hA hK hP hS hZ 0 (by decide) rfl rfl) rfl rfl hl.1 rfl (lv_room (Nat.le_of_ble_eq_true rfl)) dX12_sums_31 ⟨Nat.le_refl _, Nat.le_refl _⟩) hA hS (fun r_109 f_106 L_107 Q_108 H locs hq hP hS => ?_)
            obtain ⟨⟨ef9, eL9, eQ9⟩, hq, p_110⟩ := hq
            rw [ef9, eL9, eQ9] at hP; clear ef9 eL9 eQ9
            refine lv_bipush (v := 43) hx hb dX12_sums_34 (by decide) ?_
            refine lv_icmp_ne (tgt := 43) hx hb dX12_sums_36 (by decide) (fun c => ?_) (fun c => ?_)
            · skip
              have c_111 : r_109.toInt ≠ 43 := (by have z := bn_ne c; have k1 : (43 : Int32).toInt = 43 := (by decide); omega)
              refine lv_iconst (v := 0) hx hb dX12_sums_43 (by decide) ?_
              refine lv_istore_n (lv' := [(2, .int 0), (0, .ref (h 0)), (1, .int y1_5)]) hx hb dX12_sums_44 rfl hl (by decide) rfl (fun ls hl => ?_)
              refine lv_aload_n hx hb dX12_sums_45 rfl (lv_at hl 1 rfl) ?_
              refine lv_dup hx hb dX12_sums_46 rfl ?_
              refine sg_get (ci := 12) (v := .int v_10) (C := RX12) (T := TX12) (N := 55) hx hb hts (fun w h => List.mem_cons_of_mem _ (gx_12 w h)) hown hK hP 0 (by decide) rfl rfl 13 (by decide) (hts _ (List.mem_cons_of_mem _ mw_625)) (fun _ h9 => h9) (congrArg (fun z => some (Value.int z)) (show fp_5 0 13 = v_10 from ev_10.symm)) dX12_sums_47 ?_
              refine lv_iconst (v := 1) hx hb dX12_sums_50 (by decide) ?_
              refine lv_iadd hx hb dX12_sums_51 ?_
              refine lv_topi (fun v_113 ev_113 => ?_)
              have q_114 : v_113.toInt = v_10.toInt + 1 := by rw [ev_113]; have k1 : (1 : Int32).toInt = 1 := (by decide); exact (bn_addI (by omega) (by omega)).trans (by omega)
              refine sg_put (ci := 12) (x := v_113) (ty := .int) (C := RX12) (T := TX12) (N := 55) hx hb hts (fun w h => List.mem_cons_of_mem _ (gx_12 w h)) tyX12 tyX12_ok nmX12 hown hh hA hK hP hS 0 (by decide) rfl rfl 13 (by decide) (hts _ (List.mem_cons_of_mem _ mw_625)) (fun _ h9 => h9) rfl rfl (by decide +kernel) rfl rfl (Nat.le_of_ble_eq_true rfl) dX12_sums_52 (fun f_115 H locs ef_115 hP hS => ?_)
              have hI : sgI loM hiM f_115 := by rw [ef_115]; exact sgI.put hI 0 13 (show 0 ≤ (v_113 : Int32).toInt ∧ (v_113 : Int32).toInt ≤ 120 from by omega)
              have hF : sgK WkX12_sums_6 f f_115 := sgK.put hF ef_115 (by rfl)
              refine lv_aload_n hx hb dX12_sums_55 rfl (lv_at hl 1 rfl) ?_
              have q_116 : (f_115 0 16).toInt = v_13.toInt := (congrArg Int32.toInt (show f_115 0 16 = v_13 from (by rw [ef_115, sg_up_s, sgu_n (by decide)]; exact ev_13.symm)))
              have q_117 : (f_115 0 15).toInt = v_16.toInt := (congrArg Int32.toInt (show f_115 0 15 = v_16 from (by rw [ef_115, sg_up_s, sgu_n (by decide)]; exact ev_16.symm)))
              have q_118 : (f_115 0 16).toInt = v_13.toInt := (congrArg Int32.toInt (show f_115 0 16 = v_13 from (by rw [ef_115, sg_up_s, sgu_n (by decide)]; exact ev_13.symm)))
              have q_119 : (f_115 0 13).toInt = v_113.toInt := (congrArg Int32.toInt (show f_115 0 13 = v_113 from (by rw [ef_115, sg_up_s, sgu_s])))
              refine sg_calli (va_runV (As := []) (rest := []) ⟨hx, hb, hml, hown, hts⟩ (kX12_product_6 l D ca za h hh f_115 L Q hI (by omega) (by omega) H.size) (cwV 0 hts (gw_V (fun _ h => List.mem_cons_of_mem _ h) mw_848 mw_849 mw_850 mw_619 mw_847) rfl rfl rfl (by decide +kernel) ⟨Nat.le_of_ble_eq_true rfl, Nat.le_of_ble_eq_true rfl⟩) (sg_preV (ci := 12) (C := RX12) (T := TX12) (N := 55) hA hK hP hS hZ 0 (by decide) rfl rfl) rfl rfl hl.1 rfl (lv_room (Nat.le_of_ble_eq_true rfl)) dX12_sums_56 ⟨Nat.le_refl _, Nat.le_refl _⟩) hA hS (fun r_123 f_120 L_121 Q_122 H locs hq hP hS => ?_)
              obtain ⟨⟨hI, hk_f_120, eL9, eQ9⟩, hq, p_124, p_125, p_126⟩ := hq
              rw [eL9, eQ9] at hP; clear eL9 eQ9
              have hF : sgK WkX12_sums_6 f f_120 := sgK.tr hF hk_f_120 (by decide)
              obtain ⟨v_127, ev_127⟩ : ∃ z : Int32, z = f_120 0 13 := ⟨_, rfl⟩
              have q_128 : 0 ≤ v_127.toInt ∧ v_127.toInt ≤ 120 := by rw [ev_127]; exact hI 0 13
              have q_129 : (f_120 0 13).toInt = v_127.toInt := (congrArg Int32.toInt (show f_120 0 13 = v_127 from ev_127.symm))
              have q_130 : (f_120 0 16).toInt = v_13.toInt := (congrArg Int32.toInt (show f_120 0 16 = v_13 from ((hk_f_120 0 16 (by decide)).trans (by rw [ef_115, sg_up_s, sgu_n (by decide)]; exact ev_13.symm))))
              obtain ⟨v_131, ev_131⟩ : ∃ z : Int32, z = f_120 0 15 := ⟨_, rfl⟩
              have q_132 : (-1) ≤ v_131.toInt ∧ v_131.toInt ≤ 120 := by rw [ev_131]; exact hI 0 15
              have q_133 : (f_120 0 15).toInt = v_131.toInt := (congrArg Int32.toInt (show f_120 0 15 = v_131 from ev_131.symm))
              have q_134 : (f_120 0 16).toInt = v_13.toInt := (congrArg Int32.toInt (show f_120 0 16 = v_13 from ((hk_f_120 0 16 (by decide)).trans (by rw [ef_115, sg_up_s, sgu_n (by decide)]; exact ev_13.symm))))
              refine lv_istore_n (lv' := [(3, .int r_123), (2, .int 0), (0, .ref (h 0)), (1, .int y1_5)]) hx hb dX12_sums_59 rfl hl (by decide) rfl (fun ls hl => ?_)
              refine lv_iload_n hx hb dX12_sums_60 rfl (lv_at hl 1 rfl) ?_
              refine lv_if_eq (tgt := 70) hx hb dX12_sums_61 (by decide) (fun c => ?_) (fun c => absurd c (by decide))
              refine lv_iload_n hx hb dX12_sums_70 rfl (lv_at hl 3 rfl) ?_
              refine lv_iload_n hx hb dX12_sums_71 rfl (lv_at hl 0 rfl) ?_
              refine lv_isub hx hb dX12_sums_72 ?_
              refine lv_topi (fun v_135 ev_135 => ?_)
              refine lv_istore_n (lv' := [(1, .int v_135), (3, .int r_123), (2, .int 0), (0, .ref (h 0))]) hx hb dX12_sums_73 rfl hl (by decide) rfl (fun ls hl => ?_)
              refine lv_goto (tgt := 5) hx hb dX12_sums_74 (by decide) ?_
              exact ih_5 v_135 f_120 _ _ _ (by have zz0_13 : (f_120 0 13).toInt = v_127.toInt := (congrArg Int32.toInt (show f_120 0 13 = v_127 from ev_127.symm)); omega) (by have zz0_13 : (f_120 0 13).toInt = v_127.toInt := (congrArg Int32.toInt (show f_120 0 13 = v_127 from ev_127.symm)); omega) (by have zz0_16 : (f_120 0 16).toInt = v_13.toInt := (congrArg Int32.toInt (show f_120 0 16 = v_13 from ((hk_f_120 0 16 (by decide)).trans (by rw [ef_115, sg_up_s, sgu_n (by decide)]; exact ev_13.symm)))); omega) (by have zz0_15 : (f_120 0 15).toInt = v_131.toInt := (congrArg Int32.toInt (show f_120 0 15 = v_131 from ev_131.symm)); have zz0_16 : (f_120 0 16).toInt = v_13.toInt := (congrArg Int32.toInt (show f_120 0 16 = v_13 from ((hk_f_120 0 16 (by decide)).trans (by rw [ef_115, sg_up_s, sgu_n (by decide)]; exact ev_13.symm)))); omega) hI hF hP hS (lv_sub hl [3, 0] rfl)
            · skip
              have c_112 : r_109.toInt = 43 := (by have z := Int32.toInt_inj.mpr c; have k1 : (43 : Int32).toInt = 43 := (by decide); omega)
              refine lv_iconst (v := 1) hx hb dX12_sums_39 (by decide) ?_
              refine lv_goto (tgt := 44) hx hb dX12_sums_40 (by decide) ?_
              refine lv_istore_n (lv' := [(2, .int 1), (0, .ref (h 0)), (1, .int y1_5)]) hx hb dX12_sums_44 rfl hl (by decide) rfl (fun ls hl => ?_)
              refine lv_aload_n hx hb dX12_sums_45 rfl (lv_at hl 1 rfl) ?_
              refine lv_dup hx hb dX12_sums_46 rfl ?_
              refine sg_get (ci := 12) (v := .int v_10) (C := RX12) (T := TX12) (N := 55) hx hb hts (fun w h => List.mem_cons_of_mem _ (gx_12 w h)) hown hK hP 0 (by decide) rfl rfl 13 (by decide) (hts _ (List.mem_cons_of_mem _ mw_625)) (fun _ h9 => h9) (congrArg (fun z => some (Value.int z)) (show fp_5 0 13 = v_10 from ev_10.symm)) dX12_sums_47 ?_
              refine lv_iconst (v := 1) hx hb dX12_sums_50 (by decide) ?_
              refine lv_iadd hx hb dX12_sums_51 ?_
              refine lv_topi (fun v_136 ev_136 => ?_)
              have q_137 : v_136.toInt = v_10.toInt + 1 := by rw [ev_136]; have k1 : (1 : Int32).toInt = 1 := (by decide); exact (bn_addI (by omega) (by omega)).trans (by omega)
              refine sg_put (ci := 12) (x := v_136) (ty := .int) (C := RX12) (T := TX12) (N := 55) hx hb hts (fun w h => List.mem_cons_of_mem _ (gx_12 w h)) tyX12 tyX12_ok nmX12 hown hh hA hK hP hS 0 (by decide) rfl rfl 13 (by decide) (hts _ (List.mem_cons_of_mem _ mw_625)) (fun _ h9 => h9) rfl rfl (by decide +kernel) rfl rfl (Nat.le_of_ble_eq_true rfl) dX12_sums_52 (fun f_138 H locs ef_138 hP hS => ?_)
              have hI : sgI loM hiM f_138 := by rw [ef_138]; exact sgI.put hI 0 13 (show 0 ≤ (v_136 : Int32).toInt ∧ (v_136 : Int32).toInt ≤ 120 from by omega)
              have hF : sgK WkX12_sums_6 f f_138 := sgK.put hF ef_138 (by rfl)
              refine lv_aload_n hx hb dX12_sums_55 rfl (lv_at hl 1 rfl) ?_
              have q_139 : (f_138 0 16).toInt = v_13.toInt := (congrArg Int32.toInt (show f_138 0 16 = v_13 from (by rw [ef_138, sg_up_s, sgu_n (by decide)]; exact ev_13.symm)))
              have q_140 : (f_138 0 15).toInt = v_16.toInt := (congrArg Int32.toInt (show f_138 0 15 = v_16 from (by rw [ef_138, sg_up_s, sgu_n (by decide)]; exact ev_16.symm)))
              have q_141 : (f_138 0 16).toInt = v_13.toInt := (congrArg Int32.toInt (show f_138 0 16 = v_13 from (by rw [ef_138, sg_up_s, sgu_n (by decide)]; exact ev_13.symm)))
              have q_142 : (f_138 0 13).toInt = v_136.toInt := (congrArg Int32.toInt (show f_138 0 13 = v_136 from (by rw [ef_138, sg_up_s, sgu_s])))
              refine sg_calli (va_runV (As := []) (rest := []) ⟨hx, hb, hml, hown, hts⟩ (kX12_product_6 l D ca za h hh f_138 L Q hI (by omega) (by omega) H.size) (cwV 0 hts (gw_V (fun _ h => List.mem_cons_of_mem _ h) mw_848 mw_849 mw_850 mw_619 mw_847) rfl rfl rfl (by decide +kernel) ⟨Nat.le_of_ble_eq_true rfl, Nat.le_of_ble_eq_true rfl⟩) (sg_preV (ci := 12) (C := RX12) (T := TX12) (N := 55) hA hK hP hS hZ 0 (by decide) rfl rfl) rfl rfl hl.1 rfl (lv_room (Nat.le_of_ble_eq_true rfl)) dX12_sums_56 ⟨Nat.le_refl _, Nat.le_refl _⟩) hA hS (fun r_146 f_143 L_144 Q_145 H locs hq hP hS => ?_)
              obtain ⟨⟨hI, hk_f_143, eL9, eQ9⟩, hq, p_147, p_148, p_149⟩ := hq
              rw [eL9, eQ9] at hP; clear eL9 eQ9
              have hF : sgK WkX12_sums_6 f f_143 := sgK.tr hF hk_f_143 (by decide)
              obtain ⟨v_150, ev_150⟩ : ∃ z : Int32, z = f_143 0 13 := ⟨_, rfl⟩
              have q_151 : 0 ≤ v_150.toInt ∧ v_150.toInt ≤ 120 := by rw [ev_150]; exact hI 0 13
              have q_152 : (f_143 0 13).toInt = v_150.toInt := (congrArg Int32.toInt (show f_143 0 13 = v_150 from ev_150.symm))
              have q_153 : (f_143 0 16).toInt = v_13.toInt := (congrArg Int32.toInt (show f_143 0 16 = v_13 from ((hk_f_143 0 16 (by decide)).trans (by rw [ef_138, sg_up_s, sgu_n (by decide)]; exact ev_13.symm))))
              obtain ⟨v_154, ev_154⟩ : ∃ z : Int32, z = f_143 0 15 := ⟨_, rfl⟩
              have q_155 : (-1) ≤ v_154.toInt ∧ v_154.toInt ≤ 120 := by rw [ev_154]; exact hI 0 15
              have q_156 : (f_143 0 15).toInt = v_154.toInt := (congrArg Int32.toInt (show f_143 0 15 = v_154 from ev_154.symm))
              have q_157 : (f_143 0 16).toInt = v_13.toInt := (congrArg Int32.toInt (show f_143 0 16 = v_13 from ((hk_f_143 0 16 (by decide)).trans (by rw [ef_138, sg_up_s, sgu_n (by decide)]; exact ev_13.symm))))
              refine lv_istore_n (lv' := [(3, .int r_146), (2, .int 1), (0, .ref (h 0)), (1, .int y1_5)]) hx hb dX12_sums_59 rfl hl (by decide) rfl (fun ls hl => ?_)
              refine lv_iload_n hx hb dX12_sums_60 rfl (lv_at hl 1 rfl) ?_
              refine lv_if_eq (tgt := 70) hx hb dX12_sums_61 (by decide) (fun c => absurd c (by decide)) (fun c => ?_)
              refine lv_iload_n hx hb dX12_sums_64 rfl (lv_at hl 3 rfl) ?_
              refine lv_iload_n hx hb dX12_sums_65 rfl (lv_at hl 0 rfl) ?_
              refine lv_iadd hx hb dX12_sums_66 ?_
              refine lv_topi (fun v_158 ev_158 => ?_)
              refine lv_goto (tgt := 73) hx hb dX12_sums_67 (by decide) ?_
              refine lv_istore_n (lv' := [(1, .int v_158), (3, .int r_146), (2, .int 1), (0, .ref (h 0))]) hx hb dX12_sums_73 rfl hl (by decide) rfl (fun ls hl => ?_)
              refine lv_goto (tgt := 5) hx hb dX12_sums_74 (by decide) ?_
              exact ih_5 v_158 f_143 _ _ _ (by have zz0_13 : (f_143 0 13).toInt = v_150.toInt := (congrArg Int32.toInt (show f_143 0 13 = v_150 from ev_150.symm)); omega) (by have zz0_13 : (f_143 0 13).toInt = v_150.toInt := (congrArg Int32.toInt (show f_143 0 13 = v_150 from ev_150.symm)); omega) (by have zz0_16 : (f_143 0 16).toInt = v_13.toInt := (congrArg Int32.toInt (show f_143 0 16 = v_13 from ((hk_f_143 0 16 (by decide)).trans (by rw [ef_138, sg_up_s, sgu_n (by decide)]; exact ev_13.symm)))); omega) (by have zz0_15 : (f_143 0 15).toInt = v_154.toInt := (congrArg Int32.toInt (show f_143 0 15 = v_154 from ev_154.symm)); have zz0_16 : (f_143 0 16).toInt = v_13.toInt := (congrArg Int32.toInt (show f_143 0 16 = v_13 from ((hk_f_143 0 16 (by decide)).trans (by rw [ef_138, sg_up_s, sgu_n (by decide)]; exact ev_13.symm)))); omega) hI hF hP hS (lv_sub hl [3, 0] rfl)
  refine lv_aload_n hx hb dX12_sums_0 rfl (lv_at hl 0 rfl) ?_
  have q_159 : (f 0 16).toInt = v_1.toInt := (congrArg Int32.toInt (show f 0 16 = v_1 from ev_1.symm))
  have q_160 : (f 0 15).toInt = v_3.toInt := (congrArg Int32.toInt (show f 0 15 = v_3 from ev_3.symm))
  have q_161 : (f 0 16).toInt = v_1.toInt := (congrArg Int32.toInt (show f 0 16 = v_1 from ev_1.symm))
  have q_162 : (f 0 13).toInt = v_5.toInt := (congrArg Int32.toInt (show f 0 13 = v_5 from ev_5.symm))
  refine sg_calli (va_runV (As := []) (rest := []) ⟨hx, hb, hml, hown, hts⟩ (kX12_product_6 l D ca za h hh f L Q hI (by omega) (by omega) H.size) (cwV 0 hts (gw_V (fun _ h => List.mem_cons_of_mem _ h) mw_848 mw_849 mw_850 mw_619 mw_847) rfl rfl rfl (by decide +kernel) ⟨Nat.le_of_ble_eq_true rfl, Nat.le_of_ble_eq_true rfl⟩) (sg_preV (ci := 12) (C := RX12) (T := TX12) (N := 55) hA hK hP hS hZ 0 (by decide) rfl rfl) rfl rfl hl.1 rfl (lv_room (Nat.le_of_ble_eq_true rfl)) dX12_sums_1 ⟨Nat.le_refl _, Nat.le_refl _⟩) hA hS (fun r_166 f_163 L_164 Q_165 H locs hq hP hS => ?_)
  obtain ⟨⟨hI, hk_f_163, eL9, eQ9⟩, hq, p_167, p_168, p_169⟩ := hq
  rw [eL9, eQ9] at hP; clear eL9 eQ9
  have hF : sgK WkX12_sums_6 f f_163 := sgK.tr hF hk_f_163 (by decide)
  obtain ⟨v_170, ev_170⟩ : ∃ z : Int32, z = f_163 0 13 := ⟨_, rfl⟩
  have q_171 : 0 ≤ v_170.toInt ∧ v_170.toInt ≤ 120 := by rw [ev_170]; exact hI 0 13
  have q_172 : (f_163 0 13).toInt = v_170.toInt := (congrArg Int32.toInt (show f_163 0 13 = v_170 from ev_170.symm))
  have q_173 : (f_163 0 16).toInt = v_1.toInt := (congrArg Int32.toInt (show f_163 0 16 = v_1 from ((hk_f_163 0 16 (by decide)).trans ev_1.symm)))
  obtain ⟨v_174, ev_174⟩ : ∃ z : Int32, z = f_163 0 15 := ⟨_, rfl⟩
  have q_175 : (-1) ≤ v_174.toInt ∧ v_174.toInt ≤ 120 := by rw [ev_174]; exact hI 0 15
  have q_176 : (f_163 0 15).toInt = v_174.toInt := (congrArg Int32.toInt (show f_163 0 15 = v_174 from ev_174.symm))
  have q_177 : (f_163 0 16).toInt = v_1.toInt := (congrArg Int32.toInt (show f_163 0 16 = v_1 from ((hk_f_163 0 16 (by decide)).trans ev_1.symm)))
  refine lv_istore_n (lv' := [(1, .int r_166), (0, .ref (h 0))]) hx hb dX12_sums_4 rfl hl (by decide) rfl (fun ls hl => ?_)
  exact loop_5 121 r_166 f_163 _ _ _ (by have zz0_13 : (f_163 0 13).toInt = v_170.toInt := (congrArg Int32.toInt (show f_163 0 13 = v_170 from ev_170.symm)); omega) (by have zz0_13 : (f_163 0 13).toInt = v_170.toInt := (congrArg Int32.toInt (show f_163 0 13 = v_170 from ev_170.symm)); omega) (by have zz0_16 : (f_163 0 16).toInt = v_1.toInt := (congrArg Int32.toInt (show f_163 0 16 = v_1 from ((hk_f_163 0 16 (by decide)).trans ev_1.symm))); omega) (by have zz0_15 : (f_163 0 15).toInt = v_174.toInt := (congrArg Int32.toInt (show f_163 0 15 = v_174 from ev_174.symm)); have zz0_16 : (f_163 0 16).toInt = v_1.toInt := (congrArg Int32.toInt (show f_163 0 16 = v_1 from ((hk_f_163 0 16 (by decide)).trans ev_1.symm))); omega) hI hF hP hS (lv_sub hl [1, 0] rfl)

abbrev WkX12_compared_6 : List (Nat × Nat × Option Nat) := [(0, 0, some 13), (0, 0, some 15)]
set_option maxHeartbeats 4000000 in
set_option maxRecDepth 100000 in
theorem kX12_compared_6 (l : Launch) (D : va_G) (ca : Nat → ClassId) (za h : Nat → Nat) (hh : sgH 26 h) (f : sg_F) (L : sg_L) (Q : sg_Q) (hI : sgI loM hiM f) (p0 : 6 ≤ (f 0 16).toInt) (p1 : 0 ≤ (f 0 15).toInt ∨ (f 0 16).toInt = 6) (sz : Nat) : Met l yX12_compared gwX12_compared { frames := 4, cells := 0, slots := 0, locals := 90 } (sgP D vwCl (tyX ca) 26 h (eM ca h) zcM za f L Q sz [.ref (h 0)]) (sgQi D vwCl 26 h (eM ca h) sz (fun r f1 L1 Q1 => ((sgI loM hiM f1 ∧ sgK WkX12_compared_6 f f1 ∧ L1 = L ∧ Q1 = Q) ∧ True ∧ ((f 0 13).toInt ≤ (f1 0 13).toInt) ∧ (6 ≤ (f1 0 16).toInt) ∧ (0 ≤ (f1 0 15).toInt ∨ (f1 0 16).toInt = 6)))) 0 0 (sgA 26 h sz) := by
  refine sg_ofWi (cc := cX12_compared) (maxL := 4) RX12 (by decide) rfl rfl (Nat.le_of_ble_eq_true rfl) ?_
  intro p e s m below meth cd Qz ls hx hb hml hown hts hK hZ hP hS hl hret
  have hA := sgY.self (n := 26) (h := h) (sz := s.heap.size)
  have hl : lv_has ls 4 [(0, .ref (h 0))] := hl
  obtain ⟨H, hH⟩ : ∃ z : Heap, z = s.heap := ⟨_, rfl⟩
  obtain ⟨locs, hlo⟩ : ∃ z : List Loc, z = [] := ⟨_, rfl⟩
  have hP : va_P D vwCl (sgw 26 h (eM ca h) f L Q) H := by rw [hH]; exact hP
  have hS : va_S (sgA 26 h s.heap.size) s.heap H locs := by rw [hH, hlo]; exact hS
  suffices hgo : W p l e ({ frames := 4, cells := 0, slots := 0, locals := 90 }) s m ([.ref (h 0)] : List Value).toArray below meth cd H locs 0 0 Qz (F0 m 0 ls []) by rw [hH, hlo] at hgo; exact hgo
  clear hH hlo
  obtain ⟨v_1, ev_1⟩ : ∃ z : Int32, z = f 0 16 := ⟨_, rfl⟩
  have q_2 : 0 ≤ v_1.toInt ∧ v_1.toInt ≤ 6 := by rw [ev_1]; exact hI 0 16
  obtain ⟨v_3, ev_3⟩ : ∃ z : Int32, z = f 0 15 := ⟨_, rfl⟩
  have q_4 : (-1) ≤ v_3.toInt ∧ v_3.toInt ≤ 120 := by rw [ev_3]; exact hI 0 15
  obtain ⟨v_5, ev_5⟩ : ∃ z : Int32, z = f 0 13 := ⟨_, rfl⟩
  have q_6 : 0 ≤ v_5.toInt ∧ v_5.toInt ≤ 120 := by rw [ev_5]; exact hI 0 13
  have o_7 : (f 0 16).toInt = v_1.toInt := (congrArg Int32.toInt (show f 0 16 = v_1 from ev_1.symm))
  have o_8 : (f 0 15).toInt = v_3.toInt := (congrArg Int32.toInt (show f 0 15 = v_3 from ev_3.symm))
  have o_9 : (f 0 13).toInt = v_5.toInt := (congrArg Int32.toInt (show f 0 13 = v_5 from ev_5.symm))
  have hF : sgK WkX12_compared_6 f f := sgK.rf
  refine lv_aload_n hx hb dX12_compared_0 rfl (lv_at hl 0 rfl) ?_
  have q_10 : (f 0 16).toInt = v_1.toInt := (congrArg Int32.toInt (show f 0 16 = v_1 from ev_1.symm))
  have q_11 : (f 0 15).toInt = v_3.toInt := (congrArg Int32.toInt (show f 0 15 = v_3 from ev_3.symm))
  have q_12 : (f 0 16).toInt = v_1.toInt := (congrArg Int32.toInt (show f 0 16 = v_1 from ev_1.symm))
  have q_13 : (f 0 13).toInt = v_5.toInt := (congrArg Int32.toInt (show f 0 13 = v_5 from ev_5.symm))
  refine sg_calli (va_runV (As := []) (rest := []) ⟨hx, hb, hml, hown, hts⟩ (kX12_sums_6 l D ca za h hh f L Q hI (by omega) (by omega) H.size) (cwV 0 hts (gw_V (fun _ h => List.mem_cons_of_mem _ h) mw_852 mw_853 mw_854 mw_619 mw_851) rfl rfl rfl (by decide +kernel) ⟨Nat.le_of_ble_eq_true rfl, Nat.le_of_ble_eq_true rfl⟩) (sg_preV (ci := 12) (C := RX12) (T := TX12) (N := 55) hA hK hP hS hZ 0 (by decide) rfl rfl) rfl rfl hl.1 rfl (lv_room (Nat.le_of_ble_eq_true rfl)) dX12_compared_1 ⟨Nat.le_refl _, Nat.le_refl _⟩) hA hS (fun r_17 f_14 L_15 Q_16 H locs hq hP hS => ?_)
  obtain ⟨⟨hI, hk_f_14, eL9, eQ9⟩, hq, p_18, p_19, p_20⟩ := hq
  rw [eL9, eQ9] at hP; clear eL9 eQ9
  have hF : sgK WkX12_compared_6 f f_14 := sgK.tr hF hk_f_14 (by decide)
  obtain ⟨v_21, ev_21⟩ : ∃ z : Int32, z = f_14 0 13 := ⟨_, rfl⟩
  have q_22 : 0 ≤ v_21.toInt ∧ v_21.toInt ≤ 120 := by rw [ev_21]; exact hI 0 13
  have q_23 : (f_14 0 13).toInt = v_21.toInt := (congrArg Int32.toInt (show f_14 0 13 = v_21 from ev_21.symm))
  have q_24 : (f_14 0 16).toInt = v_1.toInt := (congrArg Int32.toInt (show f_14 0 16 = v_1 from ((hk_f_14 0 16 (by decide)).trans ev_1.symm)))
  obtain ⟨v_25, ev_25⟩ : ∃ z : Int32, z = f_14 0 15 := ⟨_, rfl⟩
  have q_26 : (-1) ≤ v_25.toInt ∧ v_25.toInt ≤ 120 := by rw [ev_25]; exact hI 0 15
  have q_27 : (f_14 0 15).toInt = v_25.toInt := (congrArg Int32.toInt (show f_14 0 15 = v_25 from ev_25.symm))
  have q_28 : (f_14 0 16).toInt = v_1.toInt := (congrArg Int32.toInt (show f_14 0 16 = v_1 from ((hk_f_14 0 16 (by decide)).trans ev_1.symm)))
  refine lv_istore_n (lv' := [(1, .int r_17), (0, .ref (h 0))]) hx hb dX12_compared_4 rfl hl (by decide) rfl (fun ls hl => ?_)
  refine lv_aload_n hx hb dX12_compared_5 rfl (lv_at hl 1 rfl) ?_
  have q_29 : (f_14 0 13).toInt = v_21.toInt := (congrArg Int32.toInt (show f_14 0 13 = v_21 from ev_21.symm))
  obtain ⟨v_30, ev_30⟩ : ∃ z : Int32, z = f_14 0 14 := ⟨_, rfl⟩
  have q_31 : 0 ≤ v_30.toInt ∧ v_30.toInt ≤ 120 := by rw [ev_30]; exact hI 0 14
  have q_32 : (f_14 0 14).toInt = v_30.toInt := (congrArg Int32.toInt (show f_14 0 14 = v_30 from ev_30.symm))
  refine sg_calli (va_runV (As := []) (rest := []) ⟨hx, hb, hml, hown, hts⟩ (kX12_byteAt l D ca za h hh f_14 L Q hI H.size) (cwV 0 hts (gw_V (fun _ h => List.mem_cons_of_mem _ h) mw_840 mw_841 mw_842 mw_619 mw_839) rfl rfl rfl (by decide +kernel) ⟨Nat.le_of_ble_eq_true rfl, Nat.le_of_ble_eq_true rfl⟩) (sg_preV (ci := 12) (C := RX12) (T := TX12) (N := 55) hA hK hP hS hZ 0 (by decide) rfl rfl) rfl rfl hl.1 rfl (lv_room (Nat.le_of_ble_eq_true rfl)) dX12_compared_6 ⟨Nat.le_refl _, Nat.le_refl _⟩) hA hS (fun r_36 f_33 L_34 Q_35 H locs hq hP hS => ?_)
  obtain ⟨⟨ef9, eL9, eQ9⟩, hq, p_37⟩ := hq
  rw [ef9, eL9, eQ9] at hP; clear ef9 eL9 eQ9
  refine lv_istore_n (lv' := [(2, .int r_36), (1, .int r_17), (0, .ref (h 0))]) hx hb dX12_compared_9 rfl hl (by decide) rfl (fun ls hl => ?_)
  refine lv_aload_n hx hb dX12_compared_10 rfl (lv_at hl 2 rfl) ?_
  refine sg_get (ci := 12) (v := .int v_25) (C := RX12) (T := TX12) (N := 55) hx hb hts (fun w h => List.mem_cons_of_mem _ (gx_12 w h)) hown hK hP 0 (by decide) rfl rfl 15 (by decide) (hts _ (List.mem_cons_of_mem _ mw_627)) (fun _ h9 => h9) (congrArg (fun z => some (Value.int z)) (show f_14 0 15 = v_25 from ev_25.symm)) dX12_compared_11 ?_
  refine lv_if_ge (tgt := 35) hx hb dX12_compared_14 (by decide) (fun c => ?_) (fun c => ?_)
  · skip
    have c_38 : 0 ≤ v_25.toInt := (by have z := bn_le c; have k1 : (0 : Int32).toInt = 0 := (by decide); omega)
    refine lv_iload_n hx hb dX12_compared_35 rfl (lv_at hl 1 rfl) ?_
    have q_40 : (f_14 0 13).toInt = v_21.toInt := (congrArg Int32.toInt (show f_14 0 13 = v_21 from ev_21.symm))
    have q_41 : (f_14 0 16).toInt = v_1.toInt := (congrArg Int32.toInt (show f_14 0 16 = v_1 from ((hk_f_14 0 16 (by decide)).trans ev_1.symm)))
    have q_42 : (f_14 0 15).toInt = v_25.toInt := (congrArg Int32.toInt (show f_14 0 15 = v_25 from ev_25.symm))
    have q_43 : (f_14 0 16).toInt = v_1.toInt := (congrArg Int32.toInt (show f_14 0 16 = v_1 from ((hk_f_14 0 16 (by decide)).trans ev_1.symm)))
    exact hret _ _ _ _ (r_17) f_14 L Q dX12_compared_36 hP hS ⟨⟨hI, hF, rfl, rfl⟩, trivial, (by omega), (by omega), (by omega)⟩
  · skip
    have c_39 : v_25.toInt < 0 := (by have z := bn_nle c; have k1 : (0 : Int32).toInt = 0 := (by decide); omega)
    refine lv_iload_n hx hb dX12_compared_17 rfl (lv_at hl 0 rfl) ?_
    refine lv_bipush (v := 60) hx hb dX12_compared_18 (by decide) ?_
    refine lv_icmp_eq (tgt := 37) hx hb dX12_compared_20 (by decide) (fun c => ?_) (fun c => ?_)
    · skip
      have c_44 : r_36.toInt = 60 := (by have z := Int32.toInt_inj.mpr c; have k1 : (60 : Int32).toInt = 60 := (by decide); omega)
      refine lv_aload_n hx hb dX12_compared_37 rfl (lv_at hl 2 rfl) ?_
      refine lv_dup hx hb dX12_compared_38 rfl ?_
      refine sg_get (ci := 12) (v := .int v_21) (C := RX12) (T := TX12) (N := 55) hx hb hts (fun w h => List.mem_cons_of_mem _ (gx_12 w h)) hown hK hP 0 (by decide) rfl rfl 13 (by decide) (hts _ (List.mem_cons_of_mem _ mw_625)) (fun _ h9 => h9) (congrArg (fun z => some (Value.int z)) (show f_14 0 13 = v_21 from ev_21.symm)) dX12_compared_39 ?_
      refine lv_iconst (v := 1) hx hb dX12_compared_42 (by decide) ?_
      refine lv_iadd hx hb dX12_compared_43 ?_
      refine lv_topi (fun v_46 ev_46 => ?_)
      have q_47 : v_46.toInt = v_21.toInt + 1 := by rw [ev_46]; have k1 : (1 : Int32).toInt = 1 := (by decide); exact (bn_addI (by omega) (by omega)).trans (by omega)
      refine sg_put (ci := 12) (x := v_46) (ty := .int) (C := RX12) (T := TX12) (N := 55) hx hb hts (fun w h => List.mem_cons_of_mem _ (gx_12 w h)) tyX12 tyX12_ok nmX12 hown hh hA hK hP hS 0 (by decide) rfl rfl 13 (by decide) (hts _ (List.mem_cons_of_mem _ mw_625)) (fun _ h9 => h9) rfl rfl (by decide +kernel) rfl rfl (Nat.le_of_ble_eq_true rfl) dX12_compared_44 (fun f_48 H locs ef_48 hP hS => ?_)
      have hI : sgI loM hiM f_48 := by rw [ef_48]; exact sgI.put hI 0 13 (show 0 ≤ (v_46 : Int32).toInt ∧ (v_46 : Int32).toInt ≤ 120 from by omega)
      have hF : sgK WkX12_compared_6 f f_48 := sgK.put hF ef_48 (by rfl)
      refine lv_aload_n hx hb dX12_compared_47 rfl (lv_at hl 2 rfl) ?_
      have q_49 : (f_48 0 16).toInt = v_1.toInt := (congrArg Int32.toInt (show f_48 0 16 = v_1 from (by rw [ef_48, sg_up_s, sgu_n (by decide)]; exact ((hk_f_14 0 16 (by decide)).trans ev_1.symm))))
      have q_50 : (f_48 0 15).toInt = v_25.toInt := (congrArg Int32.toInt (show f_48 0 15 = v_25 from (by rw [ef_48, sg_up_s, sgu_n (by decide)]; exact ev_25.symm)))
      have q_51 : (f_48 0 16).toInt = v_1.toInt := (congrArg Int32.toInt (show f_48 0 16 = v_1 from (by rw [ef_48, sg_up_s, sgu_n (by decide)]; exact ((hk_f_14 0 16 (by decide)).trans ev_1.symm))))
      have q_52 : (f_48 0 13).toInt = v_46.toInt := (congrArg Int32.toInt (show f_48 0 13 = v_46 from (by rw [ef_48, sg_up_s, sgu_s])))
      refine sg_calli (va_runV (As := []) (rest := []) ⟨hx, hb, hml, hown, hts⟩ (kX12_sums_6 l D ca za h hh f_48 L Q hI (by omega) (by omega) H.size) (cwV 0 hts (gw_V (fun _ h => List.mem_cons_of_mem _ h) mw_852 mw_853 mw_854 mw_619 mw_851) rfl rfl rfl (by decide +kernel) ⟨Nat.le_of_ble_eq_true rfl, Nat.le_of_ble_eq_true rfl⟩) (sg_preV (ci := 12) (C := RX12) (T := TX12) (N := 55) hA hK hP hS hZ 0 (by decide) rfl rfl) rfl rfl hl.1 rfl (lv_room (Nat.le_of_ble_eq_true rfl)) dX12_compared_48 ⟨Nat.le_refl _, Nat.le_refl _⟩) hA hS (fun r_56 f_53 L_54 Q_55 H locs hq hP hS => ?_)
      obtain ⟨⟨hI, hk_f_53, eL9, eQ9⟩, hq, p_57, p_58, p_59⟩ := hq
      rw [eL9, eQ9] at hP; clear eL9 eQ9
      have hF : sgK WkX12_compared_6 f f_53 := sgK.tr hF hk_f_53 (by decide)
      obtain ⟨v_60, ev_60⟩ : ∃ z : Int32, z = f_53 0 13 := ⟨_, rfl⟩
      have q_61 : 0 ≤ v_60.toInt ∧ v_60.toInt ≤ 120 := by rw [ev_60]; exact hI 0 13
      have q_62 : (f_53 0 13).toInt = v_60.toInt := (congrArg Int32.toInt (show f_53 0 13 = v_60 from ev_60.symm))
      have q_63 : (f_53 0 16).toInt = v_1.toInt := (congrArg Int32.toInt (show f_53 0 16 = v_1 from ((hk_f_53 0 16 (by decide)).trans (by rw [ef_48, sg_up_s, sgu_n (by decide)]; exact ((hk_f_14 0 16 (by decide)).trans ev_1.symm)))))
      obtain ⟨v_64, ev_64⟩ : ∃ z : Int32, z = f_53 0 15 := ⟨_, rfl⟩
      have q_65 : (-1) ≤ v_64.toInt ∧ v_64.toInt ≤ 120 := by rw [ev_64]; exact hI 0 15
      have q_66 : (f_53 0 15).toInt = v_64.toInt := (congrArg Int32.toInt (show f_53 0 15 = v_64 from ev_64.symm))
      have q_67 : (f_53 0 16).toInt = v_1.toInt := (congrArg Int32.toInt (show f_53 0 16 = v_1 from ((hk_f_53 0 16 (by decide)).trans (by rw [ef_48, sg_up_s, sgu_n (by decide)]; exact ((hk_f_14 0 16 (by decide)).trans ev_1.symm)))))
      refine lv_istore_n (lv' := [(3, .int r_56), (2, .int r_36), (1, .int r_17), (0, .ref (h 0))]) hx hb dX12_compared_51 rfl hl (by decide) rfl (fun ls hl => ?_)
      refine lv_iload_n hx hb dX12_compared_52 rfl (lv_at hl 1 rfl) ?_
      refine lv_bipush (v := 60) hx hb dX12_compared_53 (by decide) ?_
      refine lv_icmp_ne (tgt := 66) hx hb dX12_compared_55 (by decide) (fun c => ?_) (fun c => ?_)
      · skip
        exfalso; have c_68 : r_36.toInt ≠ 60 := (by have z := bn_ne c; have k1 : (60 : Int32).toInt = 60 := (by decide); omega); omega
      · skip
        have c_69 : r_36.toInt = 60 := (by have z := Int32.toInt_inj.mpr c; have k1 : (60 : Int32).toInt = 60 := (by decide); omega)
        refine lv_iload_n hx hb dX12_compared_58 rfl (lv_at hl 2 rfl) ?_
        refine lv_iload_n hx hb dX12_compared_59 rfl (lv_at hl 0 rfl) ?_
        refine lv_icmp_ge (tgt := 89) hx hb dX12_compared_60 (by decide) (fun c => ?_) (fun c => ?_)
        · skip
          have c_70 : r_56.toInt ≤ r_17.toInt := (by have z := bn_le c; omega)
          refine lv_iconst (v := 0) hx hb dX12_compared_89 (by decide) ?_
          have q_72 : (f_53 0 13).toInt = v_60.toInt := (congrArg Int32.toInt (show f_53 0 13 = v_60 from ev_60.symm))
          have q_73 : (f_53 0 16).toInt = v_1.toInt := (congrArg Int32.toInt (show f_53 0 16 = v_1 from ((hk_f_53 0 16 (by decide)).trans (by rw [ef_48, sg_up_s, sgu_n (by decide)]; exact ((hk_f_14 0 16 (by decide)).trans ev_1.symm)))))
          have q_74 : (f_53 0 15).toInt = v_64.toInt := (congrArg Int32.toInt (show f_53 0 15 = v_64 from ev_64.symm))
          have q_75 : (f_53 0 16).toInt = v_1.toInt := (congrArg Int32.toInt (show f_53 0 16 = v_1 from ((hk_f_53 0 16 (by decide)).trans (by rw [ef_48, sg_up_s, sgu_n (by decide)]; exact ((hk_f_14 0 16 (by decide)).trans ev_1.symm)))))
          have k99 : (0 : Int32).toInt = 0 := (by decide)
          exact hret _ _ _ _ (0) f_53 L Q dX12_compared_90 hP hS ⟨⟨hI, hF, rfl, rfl⟩, trivial, (by omega), (by omega), (by omega)⟩
        · skip
          have c_71 : r_17.toInt < r_56.toInt := (by have z := bn_nle c; omega)
          refine lv_goto (tgt := 85) hx hb dX12_compared_63 (by decide) ?_
          refine lv_iconst (v := 1) hx hb dX12_compared_85 (by decide) ?_
          refine lv_goto (tgt := 90) hx hb dX12_compared_86 (by decide) ?_
          have q_76 : (f_53 0 13).toInt = v_60.toInt := (congrArg Int32.toInt (show f_53 0 13 = v_60 from ev_60.symm))
          have q_77 : (f_53 0 16).toInt = v_1.toInt := (congrArg Int32.toInt (show f_53 0 16 = v_1 from ((hk_f_53 0 16 (by decide)).trans (by rw [ef_48, sg_up_s, sgu_n (by decide)]; exact ((hk_f_14 0 16 (by decide)).trans ev_1.symm)))))
          have q_78 : (f_53 0 15).toInt = v_64.toInt := (congrArg Int32.toInt (show f_53 0 15 = v_64 from ev_64.symm))
          have q_79 : (f_53 0 16).toInt = v_1.toInt := (congrArg Int32.toInt (show f_53 0 16 = v_1 from ((hk_f_53 0 16 (by decide)).trans (by rw [ef_48, sg_up_s, sgu_n (by decide)]; exact ((hk_f_14 0 16 (by decide)).trans ev_1.symm)))))
          have k99 : (1 : Int32).toInt = 1 := (by decide)
          exact hret _ _ _ _ (1) f_53 L Q dX12_compared_90 hP hS ⟨⟨hI, hF, rfl, rfl⟩, trivial, (by omega), (by omega), (by omega)⟩
    · skip
      have c_45 : r_36.toInt ≠ 60 := (by have z := bn_ne c; have k1 : (60 : Int32).toInt = 60 := (by decide); omega)
      refine lv_iload_n hx hb dX12_compared_23 rfl (lv_at hl 0 rfl) ?_
      refine lv_bipush (v := 61) hx hb dX12_compared_24 (by decide) ?_
      refine lv_icmp_eq (tgt := 37) hx hb dX12_compared_26 (by decide) (fun c => ?_) (fun c => ?_)
      · skip
        have c_80 : r_36.toInt = 61 := (by have z := Int32.toInt_inj.mpr c; have k1 : (61 : Int32).toInt = 61 := (by decide); omega)
        refine lv_aload_n hx hb dX12_compared_37 rfl (lv_at hl 2 rfl) ?_
        refine lv_dup hx hb dX12_compared_38 rfl ?_
        refine sg_get (ci := 12) (v := .int v_21) (C := RX12) (T := TX12) (N := 55) hx hb hts (fun w h => List.mem_cons_of_mem _ (gx_12 w h)) hown hK hP 0 (by decide) rfl rfl 13 (by decide) (hts _ (List.mem_cons_of_mem _ mw_625)) (fun _ h9 => h9) (congrArg (fun z => some (Value.int z)) (show f_14 0 13 = v_21 from ev_21.symm)) dX12_compared_39 ?_
        refine lv_iconst (v := 1) hx hb dX12_compared_42 (by decide) ?_
        refine lv_iadd hx hb dX12_compared_43 ?_
        refine lv_topi (fun v_82 ev_82 => ?_)
        have q_83 : v_82.toInt = v_21.toInt + 1 := by rw [ev_82]; have k1 : (1 : Int32).toInt = 1 := (by decide); exact (bn_addI (by omega) (by omega)).trans (by omega)
        refine sg_put (ci := 12) (x := v_82) (ty := .int) (C := RX12) (T := TX12) (N := 55) hx hb hts (fun w h => List.mem_cons_of_mem _ (gx_12 w h)) tyX12 tyX12_ok nmX12 hown hh hA hK hP hS 0 (by decide) rfl rfl 13 (by decide) (hts _ (List.mem_cons_of_mem _ mw_625)) (fun _ h9 => h9) rfl rfl (by decide +kernel) rfl rfl (Nat.le_of_ble_eq_true rfl) dX12_compared_44 (fun f_84 H locs ef_84 hP hS => ?_)
        have hI : sgI loM hiM f_84 := by rw [ef_84]; exact sgI.put hI 0 13 (show 0 ≤ (v_82 : Int32).toInt ∧ (v_82 : Int32).toInt ≤ 120 from by omega)
        have hF : sgK WkX12_compared_6 f f_84 := sgK.put hF ef_84 (by rfl)
        refine lv_aload_n hx hb dX12_compared_47 rfl (lv_at hl 2 rfl) ?_
        have q_85 : (f_84 0 16).toInt = v_1.toInt := (congrArg Int32.toInt (show f_84 0 16 = v_1 from (by rw [ef_84, sg_up_s, sgu_n (by decide)]; exact ((hk_f_14 0 16 (by decide)).trans ev_1.symm))))
        have q_86 : (f_84 0 15).toInt = v_25.toInt := (congrArg Int32.toInt (show f_84 0 15 = v_25 from (by rw [ef_84, sg_up_s, sgu_n (by decide)]; exact ev_25.symm)))
        have q_87 : (f_84 0 16).toInt = v_1.toInt := (congrArg Int32.toInt (show f_84 0 16 = v_1 from (by rw [ef_84, sg_up_s, sgu_n (by decide)]; exact ((hk_f_14 0 16 (by decide)).trans ev_1.symm))))
        have q_88 : (f_84 0 13).toInt = v_82.toInt := (congrArg Int32.toInt (show f_84 0 13 = v_82 from (by rw [ef_84, sg_up_s, sgu_s])))
        refine sg_calli (va_runV (As := []) (rest := []) ⟨hx, hb, hml, hown, hts⟩ (kX12_sums_6 l D ca za h hh f_84 L Q hI (by omega) (by omega) H.size) (cwV 0 hts (gw_V (fun _ h => List.mem_cons_of_mem _ h) mw_852 mw_853 mw_854 mw_619 mw_851) rfl rfl rfl (by decide +kernel) ⟨Nat.le_of_ble_eq_true rfl, Nat.le_of_ble_eq_true rfl⟩) (sg_preV (ci := 12) (C := RX12) (T := TX12) (N := 55) hA hK hP hS hZ 0 (by decide) rfl rfl) rfl rfl hl.1 rfl (lv_room (Nat.le_of_ble_eq_true rfl)) dX12_compared_48 ⟨Nat.le_refl _, Nat.le_refl _⟩) hA hS (fun r_92 f_89 L_90 Q_91 H locs hq hP hS => ?_)
        obtain ⟨⟨hI, hk_f_89, eL9, eQ9⟩, hq, p_93, p_94, p_95⟩ := hq
        rw [eL9, eQ9] at hP; clear eL9 eQ9
        have hF : sgK WkX12_compared_6 f f_89 := sgK.tr hF hk_f_89 (by decide)
        obtain ⟨v_96, ev_96⟩ : ∃ z : Int32, z = f_89 0 13 := ⟨_, rfl⟩
        have q_97 : 0 ≤ v_96.toInt ∧ v_96.toInt ≤ 120 := by rw [ev_96]; exact hI 0 13
        have q_98 : (f_89 0 13).toInt = v_96.toInt := (congrArg Int32.toInt (show f_89 0 13 = v_96 from ev_96.symm))
        have q_99 : (f_89 0 16).toInt = v_1.toInt := (congrArg Int32.toInt (show f_89 0 16 = v_1 from ((hk_f_89 0 16 (by decide)).trans (by rw [ef_84, sg_up_s, sgu_n (by decide)]; exact ((hk_f_14 0 16 (by decide)).trans ev_1.symm)))))
        obtain ⟨v_100, ev_100⟩ : ∃ z : Int32, z = f_89 0 15 := ⟨_, rfl⟩
        have q_101 : (-1) ≤ v_100.toInt ∧ v_100.toInt ≤ 120 := by rw [ev_100]; exact hI 0 15
        have q_102 : (f_89 0 15).toInt = v_100.toInt := (congrArg Int32.toInt (show f_89 0 15 = v_100 from ev_100.symm))
        have q_103 : (f_89 0 16).toInt = v_1.toInt := (congrArg Int32.toInt (show f_89 0 16 = v_1 from ((hk_f_89 0 16 (by decide)).trans (by rw [ef_84, sg_up_s, sgu_n (by decide)]; exact ((hk_f_14 0 16 (by decide)).trans ev_1.symm)))))
        refine lv_istore_n (lv' := [(3, .int r_92), (2, .int r_36), (1, .int r_17), (0, .ref (h 0))]) hx hb dX12_compared_51 rfl hl (by decide) rfl (fun ls hl => ?_)
        refine lv_iload_n hx hb dX12_compared_52 rfl (lv_at hl 1 rfl) ?_
        refine lv_bipush (v := 60) hx hb dX12_compared_53 (by decide) ?_
        refine lv_icmp_ne (tgt := 66) hx hb dX12_compared_55 (by decide) (fun c => ?_) (fun c => ?_)
        · skip
          have c_104 : r_36.toInt ≠ 60 := (by have z := bn_ne c; have k1 : (60 : Int32).toInt = 60 := (by decide); omega)
          refine lv_iload_n hx hb dX12_compared_66 rfl (lv_at hl 1 rfl) ?_
          refine lv_bipush (v := 61) hx hb dX12_compared_67 (by decide) ?_
          refine lv_icmp_ne (tgt := 80) hx hb dX12_compared_69 (by decide) (fun c => ?_) (fun c => ?_)
          · skip
            exfalso; have c_106 : r_36.toInt ≠ 61 := (by have z := bn_ne c; have k1 : (61 : Int32).toInt = 61 := (by decide); omega); omega
          · skip
            have c_107 : r_36.toInt = 61 := (by have z := Int32.toInt_inj.mpr c; have k1 : (61 : Int32).toInt = 61 := (by decide); omega)
            refine lv_iload_n hx hb dX12_compared_72 rfl (lv_at hl 2 rfl) ?_
            refine lv_iload_n hx hb dX12_compared_73 rfl (lv_at hl 0 rfl) ?_
            refine lv_icmp_ne (tgt := 89) hx hb dX12_compared_74 (by decide) (fun c => ?_) (fun c => ?_)
            · skip
              have c_108 : r_17.toInt ≠ r_92.toInt := (by have z := bn_ne c; omega)
              refine lv_iconst (v := 0) hx hb dX12_compared_89 (by decide) ?_
              have q_110 : (f_89 0 13).toInt = v_96.toInt := (congrArg Int32.toInt (show f_89 0 13 = v_96 from ev_96.symm))
              have q_111 : (f_89 0 16).toInt = v_1.toInt := (congrArg Int32.toInt (show f_89 0 16 = v_1 from ((hk_f_89 0 16 (by decide)).trans (by rw [ef_84, sg_up_s, sgu_n (by decide)]; exact ((hk_f_14 0 16 (by decide)).trans ev_1.symm)))))
              have q_112 : (f_89 0 15).toInt = v_100.toInt := (congrArg Int32.toInt (show f_89 0 15 = v_100 from ev_100.symm))
              have q_113 : (f_89 0 16).toInt = v_1.toInt := (congrArg Int32.toInt (show f_89 0 16 = v_1 from ((hk_f_89 0 16 (by decide)).trans (by rw [ef_84, sg_up_s, sgu_n (by decide)]; exact ((hk_f_14 0 16 (by decide)).trans ev_1.symm)))))
              have k99 : (0 : Int32).toInt = 0 := (by decide)
              exact hret _ _ _ _ (0) f_89 L Q dX12_compared_90 hP hS ⟨⟨hI, hF, rfl, rfl⟩, trivial, (by omega), (by omega), (by omega)⟩
            · skip
              have c_109 : r_17.toInt = r_92.toInt := (by have z := Int32.toInt_inj.mpr c; omega)
              refine lv_goto (tgt := 85) hx hb dX12_compared_77 (by decide) ?_
              refine lv_iconst (v := 1) hx hb dX12_compared_85 (by decide) ?_
              refine lv_goto (tgt := 90) hx hb dX12_compared_86 (by decide) ?_
              have q_114 : (f_89 0 13).toInt = v_96.toInt := (congrArg Int32.toInt (show f_89 0 13 = v_96 from ev_96.symm))
              have q_115 : (f_89 0 16).toInt = v_1.toInt := (congrArg Int32.toInt (show f_89 0 16 = v_1 from ((hk_f_89 0 16 (by decide)).trans (by rw [ef_84, sg_up_s, sgu_n (by decide)]; exact ((hk_f_14 0 16 (by decide)).trans ev_1.symm)))))
              have q_116 : (f_89 0 15).toInt = v_100.toInt := (congrArg Int32.toInt (show f_89 0 15 = v_100 from ev_100.symm))
              have q_117 : (f_89 0 16).toInt = v_1.toInt := (congrArg Int32.toInt (show f_89 0 16 = v_1 from ((hk_f_89 0 16 (by decide)).trans (by rw [ef_84, sg_up_s, sgu_n (by decide)]; exact ((hk_f_14 0 16 (by decide)).trans ev_1.symm)))))
              have k99 : (1 : Int32).toInt = 1 := (by decide)
              exact hret _ _ _ _ (1) f_89 L Q dX12_compared_90 hP hS ⟨⟨hI, hF, rfl, rfl⟩, trivial, (by omega), (by omega), (by omega)⟩
        · skip
          exfalso; have c_105 : r_36.toInt = 60 := (by have z := Int32.toInt_inj.mpr c; have k1 : (60 : Int32).toInt = 60 := (by decide); omega); omega
      · skip
        have c_81 : r_36.toInt ≠ 61 := (by have z := bn_ne c; have k1 : (61 : Int32).toInt = 61 := (by decide); omega)
        refine lv_iload_n hx hb dX12_compared_29 rfl (lv_at hl 0 rfl) ?_
        refine lv_bipush (v := 62) hx hb dX12_compared_30 (by decide) ?_
        refine lv_icmp_eq (tgt := 37) hx hb dX12_compared_32 (by decide) (fun c => ?_) (fun c => ?_)
        · skip
          have c_118 : r_36.toInt = 62 := (by have z := Int32.toInt_inj.mpr c; have k1 : (62 : Int32).toInt = 62 := (by decide); omega)
          refine lv_aload_n hx hb dX12_compared_37 rfl (lv_at hl 2 rfl) ?_
          refine lv_dup hx hb dX12_compared_38 rfl ?_
          refine sg_get (ci := 12) (v := .int v_21) (C := RX12) (T := TX12) (N := 55) hx hb hts (fun w h => List.mem_cons_of_mem _ (gx_12 w h)) hown hK hP 0 (by decide) rfl rfl 13 (by decide) (hts _ (List.mem_cons_of_mem _ mw_625)) (fun _ h9 => h9) (congrArg (fun z => some (Value.int z)) (show f_14 0 13 = v_21 from ev_21.symm)) dX12_compared_39 ?_
          refine lv_iconst (v := 1) hx hb dX12_compared_42 (by decide) ?_
          refine lv_iadd hx hb dX12_compared_43 ?_
          refine lv_topi (fun v_120 ev_120 => ?_)
          have q_121 : v_120.toInt = v_21.toInt + 1 := by rw [ev_120]; have k1 : (1 : Int32).toInt = 1 := (by decide); exact (bn_addI (by omega) (by omega)).trans (by omega)
          refine sg_put (ci := 12) (x := v_120) (ty := .int) (C := RX12) (T := TX12) (N := 55) hx hb hts (fun w h => List.mem_cons_of_mem _ (gx_12 w h)) tyX12 tyX12_ok nmX12 hown hh hA hK hP hS 0 (by decide) rfl rfl 13 (by decide) (hts _ (List.mem_cons_of_mem _ mw_625)) (fun _ h9 => h9) rfl rfl (by decide +kernel) rfl rfl (Nat.le_of_ble_eq_true rfl) dX12_compared_44 (fun f_122 H locs ef_122 hP hS => ?_)
          have hI : sgI loM hiM f_122 := by rw [ef_122]; exact sgI.put hI 0 13 (show 0 ≤ (v_120 : Int32).toInt ∧ (v_120 : Int32).toInt ≤ 120 from by omega)
          have hF : sgK WkX12_compared_6 f f_122 := sgK.put hF ef_122 (by rfl)
          refine lv_aload_n hx hb dX12_compared_47 rfl (lv_at hl 2 rfl) ?_
          have q_123 : (f_122 0 16).toInt = v_1.toInt := (congrArg Int32.toInt (show f_122 0 16 = v_1 from (by rw [ef_122, sg_up_s, sgu_n (by decide)]; exact ((hk_f_14 0 16 (by decide)).trans ev_1.symm))))
          have q_124 : (f_122 0 15).toInt = v_25.toInt := (congrArg Int32.toInt (show f_122 0 15 = v_25 from (by rw [ef_122, sg_up_s, sgu_n (by decide)]; exact ev_25.symm)))
          have q_125 : (f_122 0 16).toInt = v_1.toInt := (congrArg Int32.toInt (show f_122 0 16 = v_1 from (by rw [ef_122, sg_up_s, sgu_n (by decide)]; exact ((hk_f_14 0 16 (by decide)).trans ev_1.symm))))
          have q_126 : (f_122 0 13).toInt = v_120.toInt := (congrArg Int32.toInt (show f_122 0 13 = v_120 from (by rw [ef_122, sg_up_s, sgu_s])))
          refine sg_calli (va_runV (As := []) (rest := []) ⟨hx, hb, hml, hown, hts⟩ (kX12_sums_6 l D ca za h hh f_122 L Q hI (by omega) (by omega) H.size) (cwV 0 hts (gw_V (fun _ h => List.mem_cons_of_mem _ h) mw_852 mw_853 mw_854 mw_619 mw_851) rfl rfl rfl (by decide +kernel) ⟨Nat.le_of_ble_eq_true rfl, Nat.le_of_ble_eq_true rfl⟩) (sg_preV (ci := 12) (C := RX12) (T := TX12) (N := 55) hA hK hP hS hZ 0 (by decide) rfl rfl) rfl rfl hl.1 rfl (lv_room (Nat.le_of_ble_eq_true rfl)) dX12_compared_48 ⟨Nat.le_refl _, Nat.le_refl _⟩) hA hS (fun r_130 f_127 L_128 Q_129 H locs hq hP hS => ?_)
          obtain ⟨⟨hI, hk_f_127, eL9, eQ9⟩, hq, p_131, p_132, p_133⟩ := hq
          rw [eL9, eQ9] at hP; clear eL9 eQ9
          have hF : sgK WkX12_compared_6 f f_127 := sgK.tr hF hk_f_127 (by decide)
          obtain ⟨v_134, ev_134⟩ : ∃ z : Int32, z = f_127 0 13 := ⟨_, rfl⟩
          have q_135 : 0 ≤ v_134.toInt ∧ v_134.toInt ≤ 120 := by rw [ev_134]; exact hI 0 13
          have q_136 : (f_127 0 13).toInt = v_134.toInt := (congrArg Int32.toInt (show f_127 0 13 = v_134 from ev_134.symm))
          have q_137 : (f_127 0 16).toInt = v_1.toInt := (congrArg Int32.toInt (show f_127 0 16 = v_1 from ((hk_f_127 0 16 (by decide)).trans (by rw [ef_122, sg_up_s, sgu_n (by decide)]; exact ((hk_f_14 0 16 (by decide)).trans ev_1.symm)))))
          obtain ⟨v_138, ev_138⟩ : ∃ z : Int32, z = f_127 0 15 := ⟨_, rfl⟩
          have q_139 : (-1) ≤ v_138.toInt ∧ v_138.toInt ≤ 120 := by rw [ev_138]; exact hI 0 15
          have q_140 : (f_127 0 15).toInt = v_138.toInt := (congrArg Int32.toInt (show f_127 0 15 = v_138 from ev_138.symm))
          have q_141 : (f_127 0 16).toInt = v_1.toInt := (congrArg Int32.toInt (show f_127 0 16 = v_1 from ((hk_f_127 0 16 (by decide)).trans (by rw [ef_122, sg_up_s, sgu_n (by decide)]; exact ((hk_f_14 0 16 (by decide)).trans ev_1.symm)))))
          refine lv_istore_n (lv' := [(3, .int r_130), (2, .int r_36), (1, .int r_17), (0, .ref (h 0))]) hx hb dX12_compared_51 rfl hl (by decide) rfl (fun ls hl => ?_)
          refine lv_iload_n hx hb dX12_compared_52 rfl (lv_at hl 1 rfl) ?_
          refine lv_bipush (v := 60) hx hb dX12_compared_53 (by decide) ?_
          refine lv_icmp_ne (tgt := 66) hx hb dX12_compared_55 (by decide) (fun c => ?_) (fun c => ?_)
          · skip
            have c_142 : r_36.toInt ≠ 60 := (by have z := bn_ne c; have k1 : (60 : Int32).toInt = 60 := (by decide); omega)
            refine lv_iload_n hx hb dX12_compared_66 rfl (lv_at hl 1 rfl) ?_
            refine lv_bipush (v := 61) hx hb dX12_compared_67 (by decide) ?_
            refine lv_icmp_ne (tgt := 80) hx hb dX12_compared_69 (by decide) (fun c => ?_) (fun c => ?_)
            · skip
              have c_144 : r_36.toInt ≠ 61 := (by have z := bn_ne c; have k1 : (61 : Int32).toInt = 61 := (by decide); omega)
              refine lv_iload_n hx hb dX12_compared_80 rfl (lv_at hl 2 rfl) ?_
              refine lv_iload_n hx hb dX12_compared_81 rfl (lv_at hl 0 rfl) ?_
              refine lv_icmp_le (tgt := 89) hx hb dX12_compared_82 (by decide) (fun c => ?_) (fun c => ?_)
              · skip
                have c_146 : r_17.toInt ≤ r_130.toInt := (by have z := bn_le c; omega)
                refine lv_iconst (v := 0) hx hb dX12_compared_89 (by decide) ?_
                have q_148 : (f_127 0 13).toInt = v_134.toInt := (congrArg Int32.toInt (show f_127 0 13 = v_134 from ev_134.symm))
                have q_149 : (f_127 0 16).toInt = v_1.toInt := (congrArg Int32.toInt (show f_127 0 16 = v_1 from ((hk_f_127 0 16 (by decide)).trans (by rw [ef_122, sg_up_s, sgu_n (by decide)]; exact ((hk_f_14 0 16 (by decide)).trans ev_1.symm)))))
                have q_150 : (f_127 0 15).toInt = v_138.toInt := (congrArg Int32.toInt (show f_127 0 15 = v_138 from ev_138.symm))
                have q_151 : (f_127 0 16).toInt = v_1.toInt := (congrArg Int32.toInt (show f_127 0 16 = v_1 from ((hk_f_127 0 16 (by decide)).trans (by rw [ef_122, sg_up_s, sgu_n (by decide)]; exact ((hk_f_14 0 16 (by decide)).trans ev_1.symm)))))
                have k99 : (0 : Int32).toInt = 0 := (by decide)
                exact hret _ _ _ _ (0) f_127 L Q dX12_compared_90 hP hS ⟨⟨hI, hF, rfl, rfl⟩, trivial, (by omega), (by omega), (by omega)⟩
              · skip
                have c_147 : r_130.toInt < r_17.toInt := (by have z := bn_nle c; omega)
                refine lv_iconst (v := 1) hx hb dX12_compared_85 (by decide) ?_
                refine lv_goto (tgt := 90) hx hb dX12_compared_86 (by decide) ?_
                have q_152 : (f_127 0 13).toInt = v_134.toInt := (congrArg Int32.toInt (show f_127 0 13 = v_134 from ev_134.symm))
                have q_153 : (f_127 0 16).toInt = v_1.toInt := (congrArg Int32.toInt (show f_127 0 16 = v_1 from ((hk_f_127 0 16 (by decide)).trans (by rw [ef_122, sg_up_s, sgu_n (by decide)]; exact ((hk_f_14 0 16 (by decide)).trans ev_1.symm)))))
                have q_154 : (f_127 0 15).toInt = v_138.toInt := (congrArg Int32.toInt (show f_127 0 15 = v_138 from ev_138.symm))
                have q_155 : (f_127 0 16).toInt = v_1.toInt := (congrArg Int32.toInt (show f_127 0 16 = v_1 from ((hk_f_127 0 16 (by decide)).trans (by rw [ef_122, sg_up_s, sgu_n (by decide)]; exact ((hk_f_14 0 16 (by decide)).trans ev_1.symm)))))
                have k99 : (1 : Int32).toInt = 1 := (by decide)
                exact hret _ _ _ _ (1) f_127 L Q dX12_compared_90 hP hS ⟨⟨hI, hF, rfl, rfl⟩, trivial, (by omega), (by omega), (by omega)⟩
            · skip
              exfalso; have c_145 : r_36.toInt = 61 := (by have z := Int32.toInt_inj.mpr c; have k1 : (61 : Int32).toInt = 61 := (by decide); omega); omega
          · skip
            exfalso; have c_143 : r_36.toInt = 60 := (by have z := Int32.toInt_inj.mpr c; have k1 : (60 : Int32).toInt = 60 := (by decide); omega); omega
        · skip
          have c_119 : r_36.toInt ≠ 62 := (by have z := bn_ne c; have k1 : (62 : Int32).toInt = 62 := (by decide); omega)
          refine lv_iload_n hx hb dX12_compared_35 rfl (lv_at hl 1 rfl) ?_
          have q_156 : (f_14 0 13).toInt = v_21.toInt := (congrArg Int32.toInt (show f_14 0 13 = v_21 from ev_21.symm))
          have q_157 : (f_14 0 16).toInt = v_1.toInt := (congrArg Int32.toInt (show f_14 0 16 = v_1 from ((hk_f_14 0 16 (by decide)).trans ev_1.symm)))
          have q_158 : (f_14 0 15).toInt = v_25.toInt := (congrArg Int32.toInt (show f_14 0 15 = v_25 from ev_25.symm))
          have q_159 : (f_14 0 16).toInt = v_1.toInt := (congrArg Int32.toInt (show f_14 0 16 = v_1 from ((hk_f_14 0 16 (by decide)).trans ev_1.symm)))
          exact hret _ _ _ _ (r_17) f_14 L Q dX12_compared_36 hP hS ⟨⟨hI, hF, rfl, rfl⟩, trivial, (by omega), (by omega), (by omega)⟩

abbrev WkX12_takes_38 : List (Nat × Nat × Option Nat) := [(0, 0, some 13)]
set_option maxHeartbeats 4000000 in
set_option maxRecDepth 100000 in
theorem kX12_takes_38 (l : Launch) (D : va_G) (ca : Nat → ClassId) (za h : Nat → Nat) (hh : sgH 26 h) (f : sg_F) (L : sg_L) (Q : sg_Q) (hI : sgI loM hiM f) (sz : Nat) : Met l yX12_takes gwX12_takes { frames := 1, cells := 0, slots := 0, locals := 20 } (sgP D vwCl (tyX ca) 26 h (eM ca h) zcM za f L Q sz [.ref (h 0), .int 38]) (sgQi D vwCl 26 h (eM ca h) sz (fun r f1 L1 Q1 => ((sgI loM hiM f1 ∧ sgK WkX12_takes_38 f f1 ∧ L1 = L ∧ Q1 = Q) ∧ ((r = 1 ∧ ((f 0 15).toInt < 0 ∧ (f 0 13).toInt < (f 0 14).toInt ∧ (f1 0 13).toInt = (f 0 13).toInt + 1)) ∨ (r = 0 ∧ ((f1 0 13).toInt = (f 0 13).toInt)))))) 0 0 (sgA 26 h sz) := by
  refine sg_ofWz (cc := cX12_takes) (maxL := 2) RX12 (by decide) rfl rfl (Nat.le_of_ble_eq_true rfl) ?_
  intro p e s m below meth cd Qz ls hx hb hml hown hts hK hZ hP hS hl hret
  have hA := sgY.self (n := 26) (h := h) (sz := s.heap.size)
  have hl : lv_has ls 2 [(0, .ref (h 0)), (1, .int 38)] := hl
  obtain ⟨H, hH⟩ : ∃ z : Heap, z = s.heap := ⟨_, rfl⟩
  obtain ⟨locs, hlo⟩ : ∃ z : List Loc, z = [] := ⟨_, rfl⟩
  have hP : va_P D vwCl (sgw 26 h (eM ca h) f L Q) H := by rw [hH]; exact hP
  have hS : va_S (sgA 26 h s.heap.size) s.heap H locs := by rw [hH, hlo]; exact hS
  suffices hgo : W p l e ({ frames := 1, cells := 0, slots := 0, locals := 20 }) s m ([.ref (h 0), .int 38] : List Value).toArray below meth cd H locs 0 0 Qz (F0 m 0 ls []) by rw [hH, hlo] at hgo; exact hgo
  clear hH hlo
  obtain ⟨v_1, ev_1⟩ : ∃ z : Int32, z = f 0 15 := ⟨_, rfl⟩
  have q_2 : (-1) ≤ v_1.toInt ∧ v_1.toInt ≤ 120 := by rw [ev_1]; exact hI 0 15
  obtain ⟨v_3, ev_3⟩ : ∃ z : Int32, z = f 0 13 := ⟨_, rfl⟩
  have q_4 : 0 ≤ v_3.toInt ∧ v_3.toInt ≤ 120 := by rw [ev_3]; exact hI 0 13
  obtain ⟨v_5, ev_5⟩ : ∃ z : Int32, z = f 0 14 := ⟨_, rfl⟩
  have q_6 : 0 ≤ v_5.toInt ∧ v_5.toInt ≤ 120 := by rw [ev_5]; exact hI 0 14
  have o_7 : (f 0 15).toInt = v_1.toInt := (congrArg Int32.toInt (show f 0 15 = v_1 from ev_1.symm))
  have o_8 : (f 0 13).toInt = v_3.toInt := (congrArg Int32.toInt (show f 0 13 = v_3 from ev_3.symm))
  have o_9 : (f 0 14).toInt = v_5.toInt := (congrArg Int32.toInt (show f 0 14 = v_5 from ev_5.symm))
  have hF : sgK WkX12_takes_38 f f := sgK.rf
  refine lv_aload_n hx hb dX12_takes_0 rfl (lv_at hl 0 rfl) ?_
  refine sg_get (ci := 12) (v := .int v_1) (C := RX12) (T := TX12) (N := 55) hx hb hts (fun w h => List.mem_cons_of_mem _ (gx_12 w h)) hown hK hP 0 (by decide) rfl rfl 15 (by decide) (hts _ (List.mem_cons_of_mem _ mw_627)) (fun _ h9 => h9) (congrArg (fun z => some (Value.int z)) (show f 0 15 = v_1 from ev_1.symm)) dX12_takes_1 ?_
  refine lv_if_ge (tgt := 15) hx hb dX12_takes_4 (by decide) (fun c => ?_) (fun c => ?_)
  · skip
    have c_10 : 0 ≤ v_1.toInt := (by have z := bn_le c; have k1 : (0 : Int32).toInt = 0 := (by decide); omega)
    refine lv_iconst (v := 0) hx hb dX12_takes_15 (by decide) ?_
    have q_12 : (f 0 13).toInt = v_3.toInt := (congrArg Int32.toInt (show f 0 13 = v_3 from ev_3.symm))
    have q_13 : (f 0 13).toInt = v_3.toInt := (congrArg Int32.toInt (show f 0 13 = v_3 from ev_3.symm))
    have k99 : (0 : Int32).toInt = 0 := (by decide)
    exact hret _ _ _ _ (0) f L Q dX12_takes_16 (by decide) hP hS ⟨⟨hI, hF, rfl, rfl⟩, Or.inr (⟨rfl, by omega⟩)⟩
  · skip
    have c_11 : v_1.toInt < 0 := (by have z := bn_nle c; have k1 : (0 : Int32).toInt = 0 := (by decide); omega)
    refine lv_aload_n hx hb dX12_takes_7 rfl (lv_at hl 0 rfl) ?_
    have q_14 : (f 0 13).toInt = v_3.toInt := (congrArg Int32.toInt (show f 0 13 = v_3 from ev_3.symm))
    have q_15 : (f 0 14).toInt = v_5.toInt := (congrArg Int32.toInt (show f 0 14 = v_5 from ev_5.symm))
    refine sg_calli (va_runV (As := []) (rest := []) ⟨hx, hb, hml, hown, hts⟩ (kX12_byteAt l D ca za h hh f L Q hI H.size) (cwV 0 hts (gw_V (fun _ h => List.mem_cons_of_mem _ h) mw_840 mw_841 mw_842 mw_619 mw_839) rfl rfl rfl (by decide +kernel) ⟨Nat.le_of_ble_eq_true rfl, Nat.le_of_ble_eq_true rfl⟩) (sg_preV (ci := 12) (C := RX12) (T := TX12) (N := 55) hA hK hP hS hZ 0 (by decide) rfl rfl) rfl rfl hl.1 rfl (lv_room (Nat.le_of_ble_eq_true rfl)) dX12_takes_8 ⟨Nat.le_refl _, Nat.le_refl _⟩) hA hS (fun r_19 f_16 L_17 Q_18 H locs hq hP hS => ?_)
    obtain ⟨⟨ef9, eL9, eQ9⟩, hq, p_20⟩ := hq
    rw [ef9, eL9, eQ9] at hP; clear ef9 eL9 eQ9
    refine lv_iload_n hx hb dX12_takes_11 rfl (lv_at hl 1 rfl) ?_
    refine lv_icmp_eq (tgt := 17) hx hb dX12_takes_12 (by decide) (fun c => ?_) (fun c => ?_)
    · skip
      have c_21 : r_19.toInt = 38 := (by have z := Int32.toInt_inj.mpr c; have k1 : (38 : Int32).toInt = 38 := (by decide); omega)
      refine lv_aload_n hx hb dX12_takes_17 rfl (lv_at hl 0 rfl) ?_
      refine lv_dup hx hb dX12_takes_18 rfl ?_
      refine sg_get (ci := 12) (v := .int v_3) (C := RX12) (T := TX12) (N := 55) hx hb hts (fun w h => List.mem_cons_of_mem _ (gx_12 w h)) hown hK hP 0 (by decide) rfl rfl 13 (by decide) (hts _ (List.mem_cons_of_mem _ mw_625)) (fun _ h9 => h9) (congrArg (fun z => some (Value.int z)) (show f 0 13 = v_3 from ev_3.symm)) dX12_takes_19 ?_
      refine lv_iconst (v := 1) hx hb dX12_takes_22 (by decide) ?_
      refine lv_iadd hx hb dX12_takes_23 ?_
      refine lv_topi (fun v_23 ev_23 => ?_)
      have q_24 : v_23.toInt = v_3.toInt + 1 := by rw [ev_23]; have k1 : (1 : Int32).toInt = 1 := (by decide); exact (bn_addI (by omega) (by omega)).trans (by omega)
      refine sg_put (ci := 12) (x := v_23) (ty := .int) (C := RX12) (T := TX12) (N := 55) hx hb hts (fun w h => List.mem_cons_of_mem _ (gx_12 w h)) tyX12 tyX12_ok nmX12 hown hh hA hK hP hS 0 (by decide) rfl rfl 13 (by decide) (hts _ (List.mem_cons_of_mem _ mw_625)) (fun _ h9 => h9) rfl rfl (by decide +kernel) rfl rfl (Nat.le_of_ble_eq_true rfl) dX12_takes_24 (fun f_25 H locs ef_25 hP hS => ?_)
      have hI : sgI loM hiM f_25 := by rw [ef_25]; exact sgI.put hI 0 13 (show 0 ≤ (v_23 : Int32).toInt ∧ (v_23 : Int32).toInt ≤ 120 from by omega)
      have hF : sgK WkX12_takes_38 f f_25 := sgK.put hF ef_25 (by rfl)
      refine lv_iconst (v := 1) hx hb dX12_takes_27 (by decide) ?_
      have q_26 : (f_25 0 13).toInt = v_23.toInt := (congrArg Int32.toInt (show f_25 0 13 = v_23 from (by rw [ef_25, sg_up_s, sgu_s])))
      have q_27 : (f_25 0 13).toInt = v_23.toInt := (congrArg Int32.toInt (show f_25 0 13 = v_23 from (by rw [ef_25, sg_up_s, sgu_s])))
      have k99 : (1 : Int32).toInt = 1 := (by decide)
      exact hret _ _ _ _ (1) f_25 L Q dX12_takes_28 (by decide) hP hS ⟨⟨hI, hF, rfl, rfl⟩, Or.inl ⟨rfl, by omega⟩⟩
    · skip
      have c_22 : r_19.toInt ≠ 38 := (by have z := bn_ne c; have k1 : (38 : Int32).toInt = 38 := (by decide); omega)
      refine lv_iconst (v := 0) hx hb dX12_takes_15 (by decide) ?_
      have q_28 : (f 0 13).toInt = v_3.toInt := (congrArg Int32.toInt (show f 0 13 = v_3 from ev_3.symm))
      have q_29 : (f 0 13).toInt = v_3.toInt := (congrArg Int32.toInt (show f 0 13 = v_3 from ev_3.symm))
      have k99 : (0 : Int32).toInt = 0 := (by decide)
      exact hret _ _ _ _ (0) f L Q dX12_takes_16 (by decide) hP hS ⟨⟨hI, hF, rfl, rfl⟩, Or.inr (⟨rfl, by omega⟩)⟩

abbrev WkX12_both_6 : List (Nat × Nat × Option Nat) := [(0, 0, some 13), (0, 0, some 15)]
set_option maxHeartbeats 4000000 in
set_option maxRecDepth 100000 in
theorem kX12_both_6 (l : Launch) (D : va_G) (ca : Nat → ClassId) (za h : Nat → Nat) (hh : sgH 26 h) (f : sg_F) (L : sg_L) (Q : sg_Q) (hI : sgI loM hiM f) (p0 : 6 ≤ (f 0 16).toInt) (p1 : 0 ≤ (f 0 15).toInt ∨ (f 0 16).toInt = 6) (sz : Nat) : Met l yX12_both gwX12_both { frames := 5, cells := 0, slots := 0, locals := 113 } (sgP D vwCl (tyX ca) 26 h (eM ca h) zcM za f L Q sz [.ref (h 0)]) (sgQi D vwCl 26 h (eM ca h) sz (fun r f1 L1 Q1 => ((sgI loM hiM f1 ∧ sgK WkX12_both_6 f f1 ∧ L1 = L ∧ Q1 = Q) ∧ True ∧ ((f 0 13).toInt ≤ (f1 0 13).toInt) ∧ (6 ≤ (f1 0 16).toInt) ∧ (0 ≤ (f1 0 15).toInt ∨ (f1 0 16).toInt = 6)))) 0 0 (sgA 26 h sz) := by
  refine sg_ofWi (cc := cX12_both) (maxL := 3) RX12 (by decide) rfl rfl (Nat.le_of_ble_eq_true rfl) ?_
  intro p e s m below meth cd Qz ls hx hb hml hown hts hK hZ hP hS hl hret
  have hA := sgY.self (n := 26) (h := h) (sz := s.heap.size)
  have hl : lv_has ls 3 [(0, .ref (h 0))] := hl
  obtain ⟨H, hH⟩ : ∃ z : Heap, z = s.heap := ⟨_, rfl⟩
  obtain ⟨locs, hlo⟩ : ∃ z : List Loc, z = [] := ⟨_, rfl⟩
  have hP : va_P D vwCl (sgw 26 h (eM ca h) f L Q) H := by rw [hH]; exact hP
  have hS : va_S (sgA 26 h s.heap.size) s.heap H locs := by rw [hH, hlo]; exact hS
  suffices hgo : W p l e ({ frames := 5, cells := 0, slots := 0, locals := 113 }) s m ([.ref (h 0)] : List Value).toArray below meth cd H locs 0 0 Qz (F0 m 0 ls []) by rw [hH, hlo] at hgo; exact hgo
  clear hH hlo
  obtain ⟨v_1, ev_1⟩ : ∃ z : Int32, z = f 0 16 := ⟨_, rfl⟩
  have q_2 : 0 ≤ v_1.toInt ∧ v_1.toInt ≤ 6 := by rw [ev_1]; exact hI 0 16
  obtain ⟨v_3, ev_3⟩ : ∃ z : Int32, z = f 0 15 := ⟨_, rfl⟩
  have q_4 : (-1) ≤ v_3.toInt ∧ v_3.toInt ≤ 120 := by rw [ev_3]; exact hI 0 15
  obtain ⟨v_5, ev_5⟩ : ∃ z : Int32, z = f 0 13 := ⟨_, rfl⟩
  have q_6 : 0 ≤ v_5.toInt ∧ v_5.toInt ≤ 120 := by rw [ev_5]; exact hI 0 13
  have o_7 : (f 0 16).toInt = v_1.toInt := (congrArg Int32.toInt (show f 0 16 = v_1 from ev_1.symm))
  have o_8 : (f 0 15).toInt = v_3.toInt := (congrArg Int32.toInt (show f 0 15 = v_3 from ev_3.symm))
  have o_9 : (f 0 13).toInt = v_5.toInt := (congrArg Int32.toInt (show f 0 13 = v_5 from ev_5.symm))
  have hF : sgK WkX12_both_6 f f := sgK.rf
  have loop_5 : ∀ (n_5 : Nat) (y1_5 : Int32) (fp_5 : sg_F) (H : Heap) (locs : List Loc) (ls : Array Slot), 120 - (fp_5 0 13).toInt < (n_5 : Int) → (f 0 13).toInt ≤ (fp_5 0 13).toInt → 6 ≤ (fp_5 0 16).toInt → 0 ≤ (fp_5 0 15).toInt ∨ (fp_5 0 16).toInt = 6 → sgI loM hiM fp_5 → sgK WkX12_both_6 f fp_5 → va_P D vwCl (sgw 26 h (eM ca h) fp_5 L Q) H → va_S (sgA 26 h s.heap.size) s.heap H locs → lv_has ls 3 [(0, .ref (h 0)), (1, .int y1_5)] → W p l e ({ frames := 5, cells := 0, slots := 0, locals := 113 }) s m ([.ref (h 0)] : List Value).toArray below meth cd H locs 0 0 Qz (F0 m 5 ls []) := by
    intro n_5
    induction n_5 with
    | zero => intro y1_5 fp_5 H locs ls hm_5 hg0_5 hg1_5 hg2_5 hI hF hP hS hl; have zb := (show 0 ≤ (fp_5 0 13).toInt ∧ (fp_5 0 13).toInt ≤ 120 from hI 0 13); exact absurd hm_5 (by omega)
    | succ n_5 ih_5 =>
      intro y1_5 fp_5 H locs ls hm_5 hg0_5 hg1_5 hg2_5 hI hF hP hS hl
      obtain ⟨v_10, ev_10⟩ : ∃ z : Int32, z = fp_5 0 13 := ⟨_, rfl⟩
      have q_11 : 0 ≤ v_10.toInt ∧ v_10.toInt ≤ 120 := by rw [ev_10]; exact hI 0 13
      have q_12 : (fp_5 0 13).toInt = v_10.toInt := by rw [ev_10]
      obtain ⟨v_13, ev_13⟩ : ∃ z : Int32, z = fp_5 0 16 := ⟨_, rfl⟩
      have q_14 : 0 ≤ v_13.toInt ∧ v_13.toInt ≤ 6 := by rw [ev_13]; exact hI 0 16
      have q_15 : (fp_5 0 16).toInt = v_13.toInt := by rw [ev_13]
      obtain ⟨v_16, ev_16⟩ : ∃ z : Int32, z = fp_5 0 15 := ⟨_, rfl⟩
      have q_17 : (-1) ≤ v_16.toInt ∧ v_16.toInt ≤ 120 := by rw [ev_16]; exact hI 0 15
      have q_18 : (fp_5 0 15).toInt = v_16.toInt := by rw [ev_16]
      refine lv_aload_n hx hb dX12_both_5 rfl (lv_at hl 0 rfl) ?_
      refine lv_bipush (v := 38) hx hb dX12_both_6 (by decide) ?_
      have q_19 : (fp_5 0 15).toInt = v_16.toInt := (congrArg Int32.toInt (show fp_5 0 15 = v_16 from ev_16.symm))
      have q_20 : (fp_5 0 13).toInt = v_10.toInt := (congrArg Int32.toInt (show fp_5 0 13 = v_10 from ev_10.symm))
      obtain ⟨v_21, ev_21⟩ : ∃ z : Int32, z = fp_5 0 14 := ⟨_, rfl⟩
      have q_22 : 0 ≤ v_21.toInt ∧ v_21.toInt ≤ 120 := by rw [ev_21]; exact hI 0 14
      have q_23 : (fp_5 0 14).toInt = v_21.toInt := (congrArg Int32.toInt (show fp_5 0 14 = v_21 from ev_21.symm))
      have q_24 : (fp_5 0 13).toInt = v_10.toInt := (congrArg Int32.toInt (show fp_5 0 13 = v_10 from ev_10.symm))
      have q_25 : (fp_5 0 13).toInt = v_10.toInt := (congrArg Int32.toInt (show fp_5 0 13 = v_10 from ev_10.symm))
      refine sg_calli (va_runV (As := [.int 38]) (rest := []) ⟨hx, hb, hml, hown, hts⟩ (kX12_takes_38 l D ca za h hh fp_5 L Q hI H.size) (cwV 1 hts (gw_V (fun _ h => List.mem_cons_of_mem _ h) mw_877 mw_878 mw_879 mw_619 mw_876) rfl rfl rfl (by decide +kernel) ⟨Nat.le_of_ble_eq_true rfl, Nat.le_of_ble_eq_true rfl⟩) (sg_preV (ci := 12) (C := RX12) (T := TX12) (N := 55) hA hK hP hS hZ 0 (by decide) rfl rfl) rfl rfl hl.1 rfl (lv_room (Nat.le_of_ble_eq_true rfl)) dX12_both_8 ⟨Nat.le_refl _, Nat.le_refl _⟩) hA hS (fun r_29 f_26 L_27 Q_28 H locs hq hP hS => ?_)
      obtain ⟨⟨hI, hk_f_26, eL9, eQ9⟩, hq⟩ := hq
      rw [eL9, eQ9] at hP; clear eL9 eQ9
      have hF : sgK WkX12_both_6 f f_26 := sgK.tr hF hk_f_26 (by decide)
      obtain ⟨v_30, ev_30⟩ : ∃ z : Int32, z = f_26 0 13 := ⟨_, rfl⟩
      have q_31 : 0 ≤ v_30.toInt ∧ v_30.toInt ≤ 120 := by rw [ev_30]; exact hI 0 13
      have q_32 : (f_26 0 13).toInt = v_30.toInt := (congrArg Int32.toInt (show f_26 0 13 = v_30 from ev_30.symm))
      have q_33 : (f_26 0 13).toInt = v_30.toInt := (congrArg Int32.toInt (show f_26 0 13 = v_30 from ev_30.symm))
      have k_34 : (38 : Int32).toInt = 38 := by decide
      rcases hq with ⟨rfl, hq⟩ | ⟨rfl, hq⟩
      · skip
        have q_35 := hq
        refine lv_if_eq (tgt := 36) hx hb dX12_both_11 (by decide) (fun c => absurd c (by decide)) (fun c => ?_)
        refine lv_aload_n hx hb dX12_both_14 rfl (lv_at hl 0 rfl) ?_
        have q_36 : (f_26 0 16).toInt = v_13.toInt := (congrArg Int32.toInt (show f_26 0 16 = v_13 from ((hk_f_26 0 16 (by decide)).trans ev_13.symm)))
        have q_37 : (f_26 0 15).toInt = v_16.toInt := (congrArg Int32.toInt (show f_26 0 15 = v_16 from ((hk_f_26 0 15 (by decide)).trans ev_16.symm)))
        have q_38 : (f_26 0 16).toInt = v_13.toInt := (congrArg Int32.toInt (show f_26 0 16 = v_13 from ((hk_f_26 0 16 (by decide)).trans ev_13.symm)))
        have q_39 : (f_26 0 13).toInt = v_30.toInt := (congrArg Int32.toInt (show f_26 0 13 = v_30 from ev_30.symm))
        refine sg_calli (va_runV (As := []) (rest := []) ⟨hx, hb, hml, hown, hts⟩ (kX12_compared_6 l D ca za h hh f_26 L Q hI (by omega) (by omega) H.size) (cwV 0 hts (gw_V (fun _ h => List.mem_cons_of_mem _ h) mw_856 mw_857 mw_858 mw_619 mw_855) rfl rfl rfl (by decide +kernel) ⟨Nat.le_of_ble_eq_true rfl, Nat.le_of_ble_eq_true rfl⟩) (sg_preV (ci := 12) (C := RX12) (T := TX12) (N := 55) hA hK hP hS hZ 0 (by decide) rfl rfl) rfl rfl hl.1 rfl (lv_room (Nat.le_of_ble_eq_true rfl)) dX12_both_15 ⟨Nat.le_refl _, Nat.le_refl _⟩) hA hS (fun r_43 f_40 L_41 Q_42 H locs hq hP hS => ?_)
        obtain ⟨⟨hI, hk_f_40, eL9, eQ9⟩, hq, p_44, p_45, p_46⟩ := hq
        rw [eL9, eQ9] at hP; clear eL9 eQ9
        have hF : sgK WkX12_both_6 f f_40 := sgK.tr hF hk_f_40 (by decide)
        obtain ⟨v_47, ev_47⟩ : ∃ z : Int32, z = f_40 0 13 := ⟨_, rfl⟩
        have q_48 : 0 ≤ v_47.toInt ∧ v_47.toInt ≤ 120 := by rw [ev_47]; exact hI 0 13
        have q_49 : (f_40 0 13).toInt = v_47.toInt := (congrArg Int32.toInt (show f_40 0 13 = v_47 from ev_47.symm))
        have q_50 : (f_40 0 16).toInt = v_13.toInt := (congrArg Int32.toInt (show f_40 0 16 = v_13 from ((hk_f_40 0 16 (by decide)).trans ((hk_f_26 0 16 (by decide)).trans ev_13.symm))))
        obtain ⟨v_51, ev_51⟩ : ∃ z : Int32, z = f_40 0 15 := ⟨_, rfl⟩
        have q_52 : (-1) ≤ v_51.toInt ∧ v_51.toInt ≤ 120 := by rw [ev_51]; exact hI 0 15
        have q_53 : (f_40 0 15).toInt = v_51.toInt := (congrArg Int32.toInt (show f_40 0 15 = v_51 from ev_51.symm))
        have q_54 : (f_40 0 16).toInt = v_13.toInt := (congrArg Int32.toInt (show f_40 0 16 = v_13 from ((hk_f_40 0 16 (by decide)).trans ((hk_f_26 0 16 (by decide)).trans ev_13.symm))))
        refine lv_istore_n (lv' := [(2, .int r_43), (0, .ref (h 0)), (1, .int y1_5)]) hx hb dX12_both_18 rfl hl (by decide) rfl (fun ls hl => ?_)
        refine lv_iload_n hx hb dX12_both_19 rfl (lv_at hl 2 rfl) ?_
        refine lv_if_eq (tgt := 31) hx hb dX12_both_20 (by decide) (fun c => ?_) (fun c => ?_)
        · skip
          have c_55 : y1_5.toInt = 0 := (by have z := Int32.toInt_inj.mpr c; have k1 : (0 : Int32).toInt = 0 := (by decide); omega)
          refine lv_iconst (v := 0) hx hb dX12_both_31 (by decide) ?_
          refine lv_istore_n (lv' := [(1, .int 0), (2, .int r_43), (0, .ref (h 0))]) hx hb dX12_both_32 rfl hl (by decide) rfl (fun ls hl => ?_)
          refine lv_goto (tgt := 5) hx hb dX12_both_33 (by decide) ?_
          exact ih_5 0 f_40 _ _ _ (by have kc0 : (0 : Int32).toInt = 0 := (by decide); have zz0_13 : (f_40 0 13).toInt = v_47.toInt := (congrArg Int32.toInt (show f_40 0 13 = v_47 from ev_47.symm)); omega) (by have kc0 : (0 : Int32).toInt = 0 := (by decide); have zz0_13 : (f_40 0 13).toInt = v_47.toInt := (congrArg Int32.toInt (show f_40 0 13 = v_47 from ev_47.symm)); omega) (by have kc0 : (0 : Int32).toInt = 0 := (by decide); have zz0_16 : (f_40 0 16).toInt = v_13.toInt := (congrArg Int32.toInt (show f_40 0 16 = v_13 from ((hk_f_40 0 16 (by decide)).trans ((hk_f_26 0 16 (by decide)).trans ev_13.symm)))); omega) (by have kc0 : (0 : Int32).toInt = 0 := (by decide); have zz0_15 : (f_40 0 15).toInt = v_51.toInt := (congrArg Int32.toInt (show f_40 0 15 = v_51 from ev_51.symm)); have zz0_16 : (f_40 0 16).toInt = v_13.toInt := (congrArg Int32.toInt (show f_40 0 16 = v_13 from ((hk_f_40 0 16 (by decide)).trans ((hk_f_26 0 16 (by decide)).trans ev_13.symm)))); omega) hI hF hP hS (lv_sub hl [2, 0] rfl)
        · skip
          have c_56 : y1_5.toInt ≠ 0 := (by have z := bn_ne c; have k1 : (0 : Int32).toInt = 0 := (by decide); omega)
          refine lv_iload_n hx hb dX12_both_23 rfl (lv_at hl 0 rfl) ?_
          refine lv_if_eq (tgt := 31) hx hb dX12_both_24 (by decide) (fun c => ?_) (fun c => ?_)
          · skip
            have c_57 : r_43.toInt = 0 := (by have z := Int32.toInt_inj.mpr c; have k1 : (0 : Int32).toInt = 0 := (by decide); omega)
            refine lv_iconst (v := 0) hx hb dX12_both_31 (by decide) ?_
            refine lv_istore_n (lv' := [(1, .int 0), (2, .int r_43), (0, .ref (h 0))]) hx hb dX12_both_32 rfl hl (by decide) rfl (fun ls hl => ?_)
            refine lv_goto (tgt := 5) hx hb dX12_both_33 (by decide) ?_
            exact ih_5 0 f_40 _ _ _ (by have kc0 : (0 : Int32).toInt = 0 := (by decide); have zz0_13 : (f_40 0 13).toInt = v_47.toInt := (congrArg Int32.toInt (show f_40 0 13 = v_47 from ev_47.symm)); omega) (by have kc0 : (0 : Int32).toInt = 0 := (by decide); have zz0_13 : (f_40 0 13).toInt = v_47.toInt := (congrArg Int32.toInt (show f_40 0 13 = v_47 from ev_47.symm)); omega) (by have kc0 : (0 : Int32).toInt = 0 := (by decide); have zz0_16 : (f_40 0 16).toInt = v_13.toInt := (congrArg Int32.toInt (show f_40 0 16 = v_13 from ((hk_f_40 0 16 (by decide)).trans ((hk_f_26 0 16 (by decide)).trans ev_13.symm)))); omega) (by have kc0 : (0 : Int32).toInt = 0 := (by decide); have zz0_15 : (f_40 0 15).toInt = v_51.toInt := (congrArg Int32.toInt (show f_40 0 15 = v_51 from ev_51.symm)); have zz0_16 : (f_40 0 16).toInt = v_13.toInt := (congrArg Int32.toInt (show f_40 0 16 = v_13 from ((hk_f_40 0 16 (by decide)).trans ((hk_f_26 0 16 (by decide)).trans ev_13.symm)))); omega) hI hF hP hS (lv_sub hl [2, 0] rfl)
          · skip
            have c_58 : r_43.toInt ≠ 0 := (by have z := bn_ne c; have k1 : (0 : Int32).toInt = 0 := (by decide); omega)
            refine lv_iconst (v := 1) hx hb dX12_both_27 (by decide) ?_
            refine lv_goto (tgt := 32) hx hb dX12_both_28 (by decide) ?_
            refine lv_istore_n (lv' := [(1, .int 1), (2, .int r_43), (0, .ref (h 0))]) hx hb dX12_both_32 rfl hl (by decide) rfl (fun ls hl => ?_)
            refine lv_goto (tgt := 5) hx hb dX12_both_33 (by decide) ?_
            exact ih_5 1 f_40 _ _ _ (by have kc0 : (1 : Int32).toInt = 1 := (by decide); have zz0_13 : (f_40 0 13).toInt = v_47.toInt := (congrArg Int32.toInt (show f_40 0 13 = v_47 from ev_47.symm)); omega) (by have kc0 : (1 : Int32).toInt = 1 := (by decide); have zz0_13 : (f_40 0 13).toInt = v_47.toInt := (congrArg Int32.toInt (show f_40 0 13 = v_47 from ev_47.symm)); omega) (by have kc0 : (1 : Int32).toInt = 1 := (by decide); have zz0_16 : (f_40 0 16).toInt = v_13.toInt := (congrArg Int32.toInt (show f_40 0 16 = v_13 from ((hk_f_40 0 16 (by decide)).trans ((hk_f_26 0 16 (by decide)).trans ev_13.symm)))); omega) (by have kc0 : (1 : Int32).toInt = 1 := (by decide); have zz0_15 : (f_40 0 15).toInt = v_51.toInt := (congrArg Int32.toInt (show f_40 0 15 = v_51 from ev_51.symm)); have zz0_16 : (f_40 0 16).toInt = v_13.toInt := (congrArg Int32.toInt (show f_40 0 16 = v_13 from ((hk_f_40 0 16 (by decide)).trans ((hk_f_26 0 16 (by decide)).trans ev_13.symm)))); omega) hI hF hP hS (lv_sub hl [2, 0] rfl)
      · skip
        have q_59 := hq
        refine lv_if_eq (tgt := 36) hx hb dX12_both_11 (by decide) (fun c => ?_) (fun c => absurd c (by decide))
        refine lv_iload_n hx hb dX12_both_36 rfl (lv_at hl 1 rfl) ?_
        have q_60 : (f_26 0 13).toInt = v_30.toInt := (congrArg Int32.toInt (show f_26 0 13 = v_30 from ev_30.symm))
        have q_61 : (f_26 0 16).toInt = v_13.toInt := (congrArg Int32.toInt (show f_26 0 16 = v_13 from ((hk_f_26 0 16 (by decide)).trans ev_13.symm)))
        have q_62 : (f_26 0 15).toInt = v_16.toInt := (congrArg Int32.toInt (show f_26 0 15 = v_16 from ((hk_f_26 0 15 (by decide)).trans ev_16.symm)))
        have q_63 : (f_26 0 16).toInt = v_13.toInt := (congrArg Int32.toInt (show f_26 0 16 = v_13 from ((hk_f_26 0 16 (by decide)).trans ev_13.symm)))
        exact hret _ _ _ _ (y1_5) f_26 L Q dX12_both_37 hP hS ⟨⟨hI, hF, rfl, rfl⟩, trivial, (by omega), (by omega), (by omega)⟩
  refine lv_aload_n hx hb dX12_both_0 rfl (lv_at hl 0 rfl) ?_
  have q_64 : (f 0 16).toInt = v_1.toInt := (congrArg Int32.toInt (show f 0 16 = v_1 from ev_1.symm))
  have q_65 : (f 0 15).toInt = v_3.toInt := (congrArg Int32.toInt (show f 0 15 = v_3 from ev_3.symm))
  have q_66 : (f 0 16).toInt = v_1.toInt := (congrArg Int32.toInt (show f 0 16 = v_1 from ev_1.symm))
  have q_67 : (f 0 13).toInt = v_5.toInt := (congrArg Int32.toInt (show f 0 13 = v_5 from ev_5.symm))
  refine sg_calli (va_runV (As := []) (rest := []) ⟨hx, hb, hml, hown, hts⟩ (kX12_compared_6 l D ca za h hh f L Q hI (by omega) (by omega) H.size) (cwV 0 hts (gw_V (fun _ h => List.mem_cons_of_mem _ h) mw_856 mw_857 mw_858 mw_619 mw_855) rfl rfl rfl (by decide +kernel) ⟨Nat.le_of_ble_eq_true rfl, Nat.le_of_ble_eq_true rfl⟩) (sg_preV (ci := 12) (C := RX12) (T := TX12) (N := 55) hA hK hP hS hZ 0 (by decide) rfl rfl) rfl rfl hl.1 rfl (lv_room (Nat.le_of_ble_eq_true rfl)) dX12_both_1 ⟨Nat.le_refl _, Nat.le_refl _⟩) hA hS (fun r_71 f_68 L_69 Q_70 H locs hq hP hS => ?_)
  obtain ⟨⟨hI, hk_f_68, eL9, eQ9⟩, hq, p_72, p_73, p_74⟩ := hq
  rw [eL9, eQ9] at hP; clear eL9 eQ9
  have hF : sgK WkX12_both_6 f f_68 := sgK.tr hF hk_f_68 (by decide)
  obtain ⟨v_75, ev_75⟩ : ∃ z : Int32, z = f_68 0 13 := ⟨_, rfl⟩
  have q_76 : 0 ≤ v_75.toInt ∧ v_75.toInt ≤ 120 := by rw [ev_75]; exact hI 0 13
  have q_77 : (f_68 0 13).toInt = v_75.toInt := (congrArg Int32.toInt (show f_68 0 13 = v_75 from ev_75.symm))
  have q_78 : (f_68 0 16).toInt = v_1.toInt := (congrArg Int32.toInt (show f_68 0 16 = v_1 from ((hk_f_68 0 16 (by decide)).trans ev_1.symm)))
  obtain ⟨v_79, ev_79⟩ : ∃ z : Int32, z = f_68 0 15 := ⟨_, rfl⟩
  have q_80 : (-1) ≤ v_79.toInt ∧ v_79.toInt ≤ 120 := by rw [ev_79]; exact hI 0 15
  have q_81 : (f_68 0 15).toInt = v_79.toInt := (congrArg Int32.toInt (show f_68 0 15 = v_79 from ev_79.symm))
  have q_82 : (f_68 0 16).toInt = v_1.toInt := (congrArg Int32.toInt (show f_68 0 16 = v_1 from ((hk_f_68 0 16 (by decide)).trans ev_1.symm)))
  refine lv_istore_n (lv' := [(1, .int r_71), (0, .ref (h 0))]) hx hb dX12_both_4 rfl hl (by decide) rfl (fun ls hl => ?_)
  exact loop_5 121 r_71 f_68 _ _ _ (by have zz0_13 : (f_68 0 13).toInt = v_75.toInt := (congrArg Int32.toInt (show f_68 0 13 = v_75 from ev_75.symm)); omega) (by have zz0_13 : (f_68 0 13).toInt = v_75.toInt := (congrArg Int32.toInt (show f_68 0 13 = v_75 from ev_75.symm)); omega) (by have zz0_16 : (f_68 0 16).toInt = v_1.toInt := (congrArg Int32.toInt (show f_68 0 16 = v_1 from ((hk_f_68 0 16 (by decide)).trans ev_1.symm))); omega) (by have zz0_15 : (f_68 0 15).toInt = v_79.toInt := (congrArg Int32.toInt (show f_68 0 15 = v_79 from ev_79.symm)); have zz0_16 : (f_68 0 16).toInt = v_1.toInt := (congrArg Int32.toInt (show f_68 0 16 = v_1 from ((hk_f_68 0 16 (by decide)).trans ev_1.symm))); omega) hI hF hP hS (lv_sub hl [1, 0] rfl)

abbrev WkX12_takes_124 : List (Nat × Nat × Option Nat) := [(0, 0, some 13)]
set_option maxHeartbeats 4000000 in
set_option maxRecDepth 100000 in
theorem kX12_takes_124 (l : Launch) (D : va_G) (ca : Nat → ClassId) (za h : Nat → Nat) (hh : sgH 26 h) (f : sg_F) (L : sg_L) (Q : sg_Q) (hI : sgI loM hiM f) (sz : Nat) : Met l yX12_takes gwX12_takes { frames := 1, cells := 0, slots := 0, locals := 20 } (sgP D vwCl (tyX ca) 26 h (eM ca h) zcM za f L Q sz [.ref (h 0), .int 124]) (sgQi D vwCl 26 h (eM ca h) sz (fun r f1 L1 Q1 => ((sgI loM hiM f1 ∧ sgK WkX12_takes_124 f f1 ∧ L1 = L ∧ Q1 = Q) ∧ ((r = 1 ∧ ((f 0 15).toInt < 0 ∧ (f 0 13).toInt < (f 0 14).toInt ∧ (f1 0 13).toInt = (f 0 13).toInt + 1)) ∨ (r = 0 ∧ ((f1 0 13).toInt = (f 0 13).toInt)))))) 0 0 (sgA 26 h sz) := by
  refine sg_ofWz (cc := cX12_takes) (maxL := 2) RX12 (by decide) rfl rfl (Nat.le_of_ble_eq_true rfl) ?_
  intro p e s m below meth cd Qz ls hx hb hml hown hts hK hZ hP hS hl hret
  have hA := sgY.self (n := 26) (h := h) (sz := s.heap.size)
  have hl : lv_has ls 2 [(0, .ref (h 0)), (1, .int 124)] := hl
  obtain ⟨H, hH⟩ : ∃ z : Heap, z = s.heap := ⟨_, rfl⟩
  obtain ⟨locs, hlo⟩ : ∃ z : List Loc, z = [] := ⟨_, rfl⟩
  have hP : va_P D vwCl (sgw 26 h (eM ca h) f L Q) H := by rw [hH]; exact hP
  have hS : va_S (sgA 26 h s.heap.size) s.heap H locs := by rw [hH, hlo]; exact hS
  suffices hgo : W p l e ({ frames := 1, cells := 0, slots := 0, locals := 20 }) s m ([.ref (h 0), .int 124] : List Value).toArray below meth cd H locs 0 0 Qz (F0 m 0 ls []) by rw [hH, hlo] at hgo; exact hgo
  clear hH hlo
  obtain ⟨v_1, ev_1⟩ : ∃ z : Int32, z = f 0 15 := ⟨_, rfl⟩
  have q_2 : (-1) ≤ v_1.toInt ∧ v_1.toInt ≤ 120 := by rw [ev_1]; exact hI 0 15
  obtain ⟨v_3, ev_3⟩ : ∃ z : Int32, z = f 0 13 := ⟨_, rfl⟩
  have q_4 : 0 ≤ v_3.toInt ∧ v_3.toInt ≤ 120 := by rw [ev_3]; exact hI 0 13
  obtain ⟨v_5, ev_5⟩ : ∃ z : Int32, z = f 0 14 := ⟨_, rfl⟩
  have q_6 : 0 ≤ v_5.toInt ∧ v_5.toInt ≤ 120 := by rw [ev_5]; exact hI 0 14
  have o_7 : (f 0 15).toInt = v_1.toInt := (congrArg Int32.toInt (show f 0 15 = v_1 from ev_1.symm))
  have o_8 : (f 0 13).toInt = v_3.toInt := (congrArg Int32.toInt (show f 0 13 = v_3 from ev_3.symm))
  have o_9 : (f 0 14).toInt = v_5.toInt := (congrArg Int32.toInt (show f 0 14 = v_5 from ev_5.symm))
  have hF : sgK WkX12_takes_124 f f := sgK.rf
  refine lv_aload_n hx hb dX12_takes_0 rfl (lv_at hl 0 rfl) ?_
  refine sg_get (ci := 12) (v := .int v_1) (C := RX12) (T := TX12) (N := 55) hx hb hts (fun w h => List.mem_cons_of_mem _ (gx_12 w h)) hown hK hP 0 (by decide) rfl rfl 15 (by decide) (hts _ (List.mem_cons_of_mem _ mw_627)) (fun _ h9 => h9) (congrArg (fun z => some (Value.int z)) (show f 0 15 = v_1 from ev_1.symm)) dX12_takes_1 ?_
  refine lv_if_ge (tgt := 15) hx hb dX12_takes_4 (by decide) (fun c => ?_) (fun c => ?_)
  · skip
    have c_10 : 0 ≤ v_1.toInt := (by have z := bn_le c; have k1 : (0 : Int32).toInt = 0 := (by decide); omega)
    refine lv_iconst (v := 0) hx hb dX12_takes_15 (by decide) ?_
    have q_12 : (f 0 13).toInt = v_3.toInt := (congrArg Int32.toInt (show f 0 13 = v_3 from ev_3.symm))
    have q_13 : (f 0 13).toInt = v_3.toInt := (congrArg Int32.toInt (show f 0 13 = v_3 from ev_3.symm))
    have k99 : (0 : Int32).toInt = 0 := (by decide)
    exact hret _ _ _ _ (0) f L Q dX12_takes_16 (by decide) hP hS ⟨⟨hI, hF, rfl, rfl⟩, Or.inr (⟨rfl, by omega⟩)⟩
  · skip
    have c_11 : v_1.toInt < 0 := (by have z := bn_nle c; have k1 : (0 : Int32).toInt = 0 := (by decide); omega)
    refine lv_aload_n hx hb dX12_takes_7 rfl (lv_at hl 0 rfl) ?_
    have q_14 : (f 0 13).toInt = v_3.toInt := (congrArg Int32.toInt (show f 0 13 = v_3 from ev_3.symm))
    have q_15 : (f 0 14).toInt = v_5.toInt := (congrArg Int32.toInt (show f 0 14 = v_5 from ev_5.symm))
    refine sg_calli (va_runV (As := []) (rest := []) ⟨hx, hb, hml, hown, hts⟩ (kX12_byteAt l D ca za h hh f L Q hI H.size) (cwV 0 hts (gw_V (fun _ h => List.mem_cons_of_mem _ h) mw_840 mw_841 mw_842 mw_619 mw_839) rfl rfl rfl (by decide +kernel) ⟨Nat.le_of_ble_eq_true rfl, Nat.le_of_ble_eq_true rfl⟩) (sg_preV (ci := 12) (C := RX12) (T := TX12) (N := 55) hA hK hP hS hZ 0 (by decide) rfl rfl) rfl rfl hl.1 rfl (lv_room (Nat.le_of_ble_eq_true rfl)) dX12_takes_8 ⟨Nat.le_refl _, Nat.le_refl _⟩) hA hS (fun r_19 f_16 L_17 Q_18 H locs hq hP hS => ?_)
    obtain ⟨⟨ef9, eL9, eQ9⟩, hq, p_20⟩ := hq
    rw [ef9, eL9, eQ9] at hP; clear ef9 eL9 eQ9
    refine lv_iload_n hx hb dX12_takes_11 rfl (lv_at hl 1 rfl) ?_
    refine lv_icmp_eq (tgt := 17) hx hb dX12_takes_12 (by decide) (fun c => ?_) (fun c => ?_)
    · skip
      have c_21 : r_19.toInt = 124 := (by have z := Int32.toInt_inj.mpr c; have k1 : (124 : Int32).toInt = 124 := (by decide); omega)
      refine lv_aload_n hx hb dX12_takes_17 rfl (lv_at hl 0 rfl) ?_
      refine lv_dup hx hb dX12_takes_18 rfl ?_
      refine sg_get (ci := 12) (v := .int v_3) (C := RX12) (T := TX12) (N := 55) hx hb hts (fun w h => List.mem_cons_of_mem _ (gx_12 w h)) hown hK hP 0 (by decide) rfl rfl 13 (by decide) (hts _ (List.mem_cons_of_mem _ mw_625)) (fun _ h9 => h9) (congrArg (fun z => some (Value.int z)) (show f 0 13 = v_3 from ev_3.symm)) dX12_takes_19 ?_
      refine lv_iconst (v := 1) hx hb dX12_takes_22 (by decide) ?_
      refine lv_iadd hx hb dX12_takes_23 ?_
      refine lv_topi (fun v_23 ev_23 => ?_)
      have q_24 : v_23.toInt = v_3.toInt + 1 := by rw [ev_23]; have k1 : (1 : Int32).toInt = 1 := (by decide); exact (bn_addI (by omega) (by omega)).trans (by omega)
      refine sg_put (ci := 12) (x := v_23) (ty := .int) (C := RX12) (T := TX12) (N := 55) hx hb hts (fun w h => List.mem_cons_of_mem _ (gx_12 w h)) tyX12 tyX12_ok nmX12 hown hh hA hK hP hS 0 (by decide) rfl rfl 13 (by decide) (hts _ (List.mem_cons_of_mem _ mw_625)) (fun _ h9 => h9) rfl rfl (by decide +kernel) rfl rfl (Nat.le_of_ble_eq_true rfl) dX12_takes_24 (fun f_25 H locs ef_25 hP hS => ?_)
      have hI : sgI loM hiM f_25 := by rw [ef_25]; exact sgI.put hI 0 13 (show 0 ≤ (v_23 : Int32).toInt ∧ (v_23 : Int32).toInt ≤ 120 from by omega)
      have hF : sgK WkX12_takes_124 f f_25 := sgK.put hF ef_25 (by rfl)
      refine lv_iconst (v := 1) hx hb dX12_takes_27 (by decide) ?_
      have q_26 : (f_25 0 13).toInt = v_23.toInt := (congrArg Int32.toInt (show f_25 0 13 = v_23 from (by rw [ef_25, sg_up_s, sgu_s])))
      have q_27 : (f_25 0 13).toInt = v_23.toInt := (congrArg Int32.toInt (show f_25 0 13 = v_23 from (by rw [ef_25, sg_up_s, sgu_s])))
      have k99 : (1 : Int32).toInt = 1 := (by decide)
      exact hret _ _ _ _ (1) f_25 L Q dX12_takes_28 (by decide) hP hS ⟨⟨hI, hF, rfl, rfl⟩, Or.inl ⟨rfl, by omega⟩⟩
    · skip
      have c_22 : r_19.toInt ≠ 124 := (by have z := bn_ne c; have k1 : (124 : Int32).toInt = 124 := (by decide); omega)
      refine lv_iconst (v := 0) hx hb dX12_takes_15 (by decide) ?_
      have q_28 : (f 0 13).toInt = v_3.toInt := (congrArg Int32.toInt (show f 0 13 = v_3 from ev_3.symm))
      have q_29 : (f 0 13).toInt = v_3.toInt := (congrArg Int32.toInt (show f 0 13 = v_3 from ev_3.symm))
      have k99 : (0 : Int32).toInt = 0 := (by decide)
      exact hret _ _ _ _ (0) f L Q dX12_takes_16 (by decide) hP hS ⟨⟨hI, hF, rfl, rfl⟩, Or.inr (⟨rfl, by omega⟩)⟩

abbrev WkX12_either_6 : List (Nat × Nat × Option Nat) := [(0, 0, some 13), (0, 0, some 15)]
set_option maxHeartbeats 4000000 in
set_option maxRecDepth 100000 in
theorem kX12_either_6 (l : Launch) (D : va_G) (ca : Nat → ClassId) (za h : Nat → Nat) (hh : sgH 26 h) (f : sg_F) (L : sg_L) (Q : sg_Q) (hI : sgI loM hiM f) (p0 : 6 ≤ (f 0 16).toInt) (p1 : 0 ≤ (f 0 15).toInt ∨ (f 0 16).toInt = 6) (sz : Nat) : Met l yX12_either gwX12_either { frames := 6, cells := 0, slots := 0, locals := 135 } (sgP D vwCl (tyX ca) 26 h (eM ca h) zcM za f L Q sz [.ref (h 0)]) (sgQi D vwCl 26 h (eM ca h) sz (fun r f1 L1 Q1 => ((sgI loM hiM f1 ∧ sgK WkX12_either_6 f f1 ∧ L1 = L ∧ Q1 = Q) ∧ True ∧ ((f 0 13).toInt ≤ (f1 0 13).toInt) ∧ (6 ≤ (f1 0 16).toInt) ∧ (0 ≤ (f1 0 15).toInt ∨ (f1 0 16).toInt = 6)))) 0 0 (sgA 26 h sz) := by
  refine sg_ofWi (cc := cX12_either) (maxL := 3) RX12 (by decide) rfl rfl (Nat.le_of_ble_eq_true rfl) ?_
  intro p e s m below meth cd Qz ls hx hb hml hown hts hK hZ hP hS hl hret
  have hA := sgY.self (n := 26) (h := h) (sz := s.heap.size)
  have hl : lv_has ls 3 [(0, .ref (h 0))] := hl
  obtain ⟨H, hH⟩ : ∃ z : Heap, z = s.heap := ⟨_, rfl⟩
  obtain ⟨locs, hlo⟩ : ∃ z : List Loc, z = [] := ⟨_, rfl⟩
  have hP : va_P D vwCl (sgw 26 h (eM ca h) f L Q) H := by rw [hH]; exact hP
  have hS : va_S (sgA 26 h s.heap.size) s.heap H locs := by rw [hH, hlo]; exact hS
  suffices hgo : W p l e ({ frames := 6, cells := 0, slots := 0, locals := 135 }) s m ([.ref (h 0)] : List Value).toArray below meth cd H locs 0 0 Qz (F0 m 0 ls []) by rw [hH, hlo] at hgo; exact hgo
  clear hH hlo
  obtain ⟨v_1, ev_1⟩ : ∃ z : Int32, z = f 0 16 := ⟨_, rfl⟩
  have q_2 : 0 ≤ v_1.toInt ∧ v_1.toInt ≤ 6 := by rw [ev_1]; exact hI 0 16
  obtain ⟨v_3, ev_3⟩ : ∃ z : Int32, z = f 0 15 := ⟨_, rfl⟩
  have q_4 : (-1) ≤ v_3.toInt ∧ v_3.toInt ≤ 120 := by rw [ev_3]; exact hI 0 15
  obtain ⟨v_5, ev_5⟩ : ∃ z : Int32, z = f 0 13 := ⟨_, rfl⟩
  have q_6 : 0 ≤ v_5.toInt ∧ v_5.toInt ≤ 120 := by rw [ev_5]; exact hI 0 13
  have o_7 : (f 0 16).toInt = v_1.toInt := (congrArg Int32.toInt (show f 0 16 = v_1 from ev_1.symm))
  have o_8 : (f 0 15).toInt = v_3.toInt := (congrArg Int32.toInt (show f 0 15 = v_3 from ev_3.symm))
  have o_9 : (f 0 13).toInt = v_5.toInt := (congrArg Int32.toInt (show f 0 13 = v_5 from ev_5.symm))
  have hF : sgK WkX12_either_6 f f := sgK.rf
  have loop_5 : ∀ (n_5 : Nat) (y1_5 : Int32) (fp_5 : sg_F) (H : Heap) (locs : List Loc) (ls : Array Slot), 120 - (fp_5 0 13).toInt < (n_5 : Int) → (f 0 13).toInt ≤ (fp_5 0 13).toInt → 6 ≤ (fp_5 0 16).toInt → 0 ≤ (fp_5 0 15).toInt ∨ (fp_5 0 16).toInt = 6 → sgI loM hiM fp_5 → sgK WkX12_either_6 f fp_5 → va_P D vwCl (sgw 26 h (eM ca h) fp_5 L Q) H → va_S (sgA 26 h s.heap.size) s.heap H locs → lv_has ls 3 [(0, .ref (h 0)), (1, .int y1_5)] → W p l e ({ frames := 6, cells := 0, slots := 0, locals := 135 }) s m ([.ref (h 0)] : List Value).toArray below meth cd H locs 0 0 Qz (F0 m 5 ls []) := by
    intro n_5
    induction n_5 with
    | zero => intro y1_5 fp_5 H locs ls hm_5 hg0_5 hg1_5 hg2_5 hI hF hP hS hl; have zb := (show 0 ≤ (fp_5 0 13).toInt ∧ (fp_5 0 13).toInt ≤ 120 from hI 0 13); exact absurd hm_5 (by omega)
    | succ n_5 ih_5 =>
      intro y1_5 fp_5 H locs ls hm_5 hg0_5 hg1_5 hg2_5 hI hF hP hS hl
      obtain ⟨v_10, ev_10⟩ : ∃ z : Int32, z = fp_5 0 13 := ⟨_, rfl⟩
      have q_11 : 0 ≤ v_10.toInt ∧ v_10.toInt ≤ 120 := by rw [ev_10]; exact hI 0 13
      have q_12 : (fp_5 0 13).toInt = v_10.toInt := by rw [ev_10]
      obtain ⟨v_13, ev_13⟩ : ∃ z : Int32, z = fp_5 0 16 := ⟨_, rfl⟩
      have q_14 : 0 ≤ v_13.toInt ∧ v_13.toInt ≤ 6 := by rw [ev_13]; exact hI 0 16
      have q_15 : (fp_5 0 16).toInt = v_13.toInt := by rw [ev_13]
      obtain ⟨v_16, ev_16⟩ : ∃ z : Int32, z = fp_5 0 15 := ⟨_, rfl⟩
      have q_17 : (-1) ≤ v_16.toInt ∧ v_16.toInt ≤ 120 := by rw [ev_16]; exact hI 0 15
      have q_18 : (fp_5 0 15).toInt = v_16.toInt := by rw [ev_16]
      refine lv_aload_n hx hb dX12_either_5 rfl (lv_at hl 0 rfl) ?_
      refine lv_bipush (v := 124) hx hb dX12_either_6 (by decide) ?_
      have q_19 : (fp_5 0 15).toInt = v_16.toInt := (congrArg Int32.toInt (show fp_5 0 15 = v_16 from ev_16.symm))
      have q_20 : (fp_5 0 13).toInt = v_10.toInt := (congrArg Int32.toInt (show fp_5 0 13 = v_10 from ev_10.symm))
      obtain ⟨v_21, ev_21⟩ : ∃ z : Int32, z = fp_5 0 14 := ⟨_, rfl⟩
      have q_22 : 0 ≤ v_21.toInt ∧ v_21.toInt ≤ 120 := by rw [ev_21]; exact hI 0 14
      have q_23 : (fp_5 0 14).toInt = v_21.toInt := (congrArg Int32.toInt (show fp_5 0 14 = v_21 from ev_21.symm))
      have q_24 : (fp_5 0 13).toInt = v_10.toInt := (congrArg Int32.toInt (show fp_5 0 13 = v_10 from ev_10.symm))
      have q_25 : (fp_5 0 13).toInt = v_10.toInt := (congrArg Int32.toInt (show fp_5 0 13 = v_10 from ev_10.symm))
      refine sg_calli (va_runV (As := [.int 124]) (rest := []) ⟨hx, hb, hml, hown, hts⟩ (kX12_takes_124 l D ca za h hh fp_5 L Q hI H.size) (cwV 1 hts (gw_V (fun _ h => List.mem_cons_of_mem _ h) mw_877 mw_878 mw_879 mw_619 mw_876) rfl rfl rfl (by decide +kernel) ⟨Nat.le_of_ble_eq_true rfl, Nat.le_of_ble_eq_true rfl⟩) (sg_preV (ci := 12) (C := RX12) (T := TX12) (N := 55) hA hK hP hS hZ 0 (by decide) rfl rfl) rfl rfl hl.1 rfl (lv_room (Nat.le_of_ble_eq_true rfl)) dX12_either_8 ⟨Nat.le_refl _, Nat.le_refl _⟩) hA hS (fun r_29 f_26 L_27 Q_28 H locs hq hP hS => ?_)
      obtain ⟨⟨hI, hk_f_26, eL9, eQ9⟩, hq⟩ := hq
      rw [eL9, eQ9] at hP; clear eL9 eQ9
      have hF : sgK WkX12_either_6 f f_26 := sgK.tr hF hk_f_26 (by decide)
      obtain ⟨v_30, ev_30⟩ : ∃ z : Int32, z = f_26 0 13 := ⟨_, rfl⟩
      have q_31 : 0 ≤ v_30.toInt ∧ v_30.toInt ≤ 120 := by rw [ev_30]; exact hI 0 13
      have q_32 : (f_26 0 13).toInt = v_30.toInt := (congrArg Int32.toInt (show f_26 0 13 = v_30 from ev_30.symm))
      have q_33 : (f_26 0 13).toInt = v_30.toInt := (congrArg Int32.toInt (show f_26 0 13 = v_30 from ev_30.symm))
      have k_34 : (124 : Int32).toInt = 124 := by decide
      rcases hq with ⟨rfl, hq⟩ | ⟨rfl, hq⟩
      · skip
        have q_35 := hq
        refine lv_if_eq (tgt := 36) hx hb dX12_either_11 (by decide) (fun c => absurd c (by decide)) (fun c => ?_)
        refine lv_aload_n hx hb dX12_either_14 rfl (lv_at hl 0 rfl) ?_
        have q_36 : (f_26 0 16).toInt = v_13.toInt := (congrArg Int32.toInt (show f_26 0 16 = v_13 from ((hk_f_26 0 16 (by decide)).trans ev_13.symm)))
        have q_37 : (f_26 0 15).toInt = v_16.toInt := (congrArg Int32.toInt (show f_26 0 15 = v_16 from ((hk_f_26 0 15 (by decide)).trans ev_16.symm)))
        have q_38 : (f_26 0 16).toInt = v_13.toInt := (congrArg Int32.toInt (show f_26 0 16 = v_13 from ((hk_f_26 0 16 (by decide)).trans ev_13.symm)))
        have q_39 : (f_26 0 13).toInt = v_30.toInt := (congrArg Int32.toInt (show f_26 0 13 = v_30 from ev_30.symm))
        refine sg_calli (va_runV (As := []) (rest := []) ⟨hx, hb, hml, hown, hts⟩ (kX12_both_6 l D ca za h hh f_26 L Q hI (by omega) (by omega) H.size) (cwV 0 hts (gw_V (fun _ h => List.mem_cons_of_mem _ h) mw_881 mw_882 mw_883 mw_619 mw_880) rfl rfl rfl (by decide +kernel) ⟨Nat.le_of_ble_eq_true rfl, Nat.le_of_ble_eq_true rfl⟩) (sg_preV (ci := 12) (C := RX12) (T := TX12) (N := 55) hA hK hP hS hZ 0 (by decide) rfl rfl) rfl rfl hl.1 rfl (lv_room (Nat.le_of_ble_eq_true rfl)) dX12_either_15 ⟨Nat.le_refl _, Nat.le_refl _⟩) hA hS (fun r_43 f_40 L_41 Q_42 H locs hq hP hS => ?_)
        obtain ⟨⟨hI, hk_f_40, eL9, eQ9⟩, hq, p_44, p_45, p_46⟩ := hq
        rw [eL9, eQ9] at hP; clear eL9 eQ9
        have hF : sgK WkX12_either_6 f f_40 := sgK.tr hF hk_f_40 (by decide)
        obtain ⟨v_47, ev_47⟩ : ∃ z : Int32, z = f_40 0 13 := ⟨_, rfl⟩
        have q_48 : 0 ≤ v_47.toInt ∧ v_47.toInt ≤ 120 := by rw [ev_47]; exact hI 0 13
        have q_49 : (f_40 0 13).toInt = v_47.toInt := (congrArg Int32.toInt (show f_40 0 13 = v_47 from ev_47.symm))
        have q_50 : (f_40 0 16).toInt = v_13.toInt := (congrArg Int32.toInt (show f_40 0 16 = v_13 from ((hk_f_40 0 16 (by decide)).trans ((hk_f_26 0 16 (by decide)).trans ev_13.symm))))
        obtain ⟨v_51, ev_51⟩ : ∃ z : Int32, z = f_40 0 15 := ⟨_, rfl⟩
        have q_52 : (-1) ≤ v_51.toInt ∧ v_51.toInt ≤ 120 := by rw [ev_51]; exact hI 0 15
        have q_53 : (f_40 0 15).toInt = v_51.toInt := (congrArg Int32.toInt (show f_40 0 15 = v_51 from ev_51.symm))
        have q_54 : (f_40 0 16).toInt = v_13.toInt := (congrArg Int32.toInt (show f_40 0 16 = v_13 from ((hk_f_40 0 16 (by decide)).trans ((hk_f_26 0 16 (by decide)).trans ev_13.symm))))
        refine lv_istore_n (lv' := [(2, .int r_43), (0, .ref (h 0)), (1, .int y1_5)]) hx hb dX12_either_18 rfl hl (by decide) rfl (fun ls hl => ?_)
        refine lv_iload_n hx hb dX12_either_19 rfl (lv_at hl 2 rfl) ?_
        refine lv_if_ne (tgt := 27) hx hb dX12_either_20 (by decide) (fun c => ?_) (fun c => ?_)
        · skip
          have c_55 : y1_5.toInt ≠ 0 := (by have z := bn_ne c; have k1 : (0 : Int32).toInt = 0 := (by decide); omega)
          refine lv_iconst (v := 1) hx hb dX12_either_27 (by decide) ?_
          refine lv_goto (tgt := 32) hx hb dX12_either_28 (by decide) ?_
          refine lv_istore_n (lv' := [(1, .int 1), (2, .int r_43), (0, .ref (h 0))]) hx hb dX12_either_32 rfl hl (by decide) rfl (fun ls hl => ?_)
          refine lv_goto (tgt := 5) hx hb dX12_either_33 (by decide) ?_
          exact ih_5 1 f_40 _ _ _ (by have kc0 : (1 : Int32).toInt = 1 := (by decide); have zz0_13 : (f_40 0 13).toInt = v_47.toInt := (congrArg Int32.toInt (show f_40 0 13 = v_47 from ev_47.symm)); omega) (by have kc0 : (1 : Int32).toInt = 1 := (by decide); have zz0_13 : (f_40 0 13).toInt = v_47.toInt := (congrArg Int32.toInt (show f_40 0 13 = v_47 from ev_47.symm)); omega) (by have kc0 : (1 : Int32).toInt = 1 := (by decide); have zz0_16 : (f_40 0 16).toInt = v_13.toInt := (congrArg Int32.toInt (show f_40 0 16 = v_13 from ((hk_f_40 0 16 (by decide)).trans ((hk_f_26 0 16 (by decide)).trans ev_13.symm)))); omega) (by have kc0 : (1 : Int32).toInt = 1 := (by decide); have zz0_15 : (f_40 0 15).toInt = v_51.toInt := (congrArg Int32.toInt (show f_40 0 15 = v_51 from ev_51.symm)); have zz0_16 : (f_40 0 16).toInt = v_13.toInt := (congrArg Int32.toInt (show f_40 0 16 = v_13 from ((hk_f_40 0 16 (by decide)).trans ((hk_f_26 0 16 (by decide)).trans ev_13.symm)))); omega) hI hF hP hS (lv_sub hl [2, 0] rfl)
        · skip
          have c_56 : y1_5.toInt = 0 := (by have z := Int32.toInt_inj.mpr c; have k1 : (0 : Int32).toInt = 0 := (by decide); omega)
          refine lv_iload_n hx hb dX12_either_23 rfl (lv_at hl 0 rfl) ?_
          refine lv_if_eq (tgt := 31) hx hb dX12_either_24 (by decide) (fun c => ?_) (fun c => ?_)
          · skip
            have c_57 : r_43.toInt = 0 := (by have z := Int32.toInt_inj.mpr c; have k1 : (0 : Int32).toInt = 0 := (by decide); omega)
            refine lv_iconst (v := 0) hx hb dX12_either_31 (by decide) ?_
            refine lv_istore_n (lv' := [(1, .int 0), (2, .int r_43), (0, .ref (h 0))]) hx hb dX12_either_32 rfl hl (by decide) rfl (fun ls hl => ?_)
            refine lv_goto (tgt := 5) hx hb dX12_either_33 (by decide) ?_
            exact ih_5 0 f_40 _ _ _ (by have kc0 : (0 : Int32).toInt = 0 := (by decide); have zz0_13 : (f_40 0 13).toInt = v_47.toInt := (congrArg Int32.toInt (show f_40 0 13 = v_47 from ev_47.symm)); omega) (by have kc0 : (0 : Int32).toInt = 0 := (by decide); have zz0_13 : (f_40 0 13).toInt = v_47.toInt := (congrArg Int32.toInt (show f_40 0 13 = v_47 from ev_47.symm)); omega) (by have kc0 : (0 : Int32).toInt = 0 := (by decide); have zz0_16 : (f_40 0 16).toInt = v_13.toInt := (congrArg Int32.toInt (show f_40 0 16 = v_13 from ((hk_f_40 0 16 (by decide)).trans ((hk_f_26 0 16 (by decide)).trans ev_13.symm)))); omega) (by have kc0 : (0 : Int32).toInt = 0 := (by decide); have zz0_15 : (f_40 0 15).toInt = v_51.toInt := (congrArg Int32.toInt (show f_40 0 15 = v_51 from ev_51.symm)); have zz0_16 : (f_40 0 16).toInt = v_13.toInt := (congrArg Int32.toInt (show f_40 0 16 = v_13 from ((hk_f_40 0 16 (by decide)).trans ((hk_f_26 0 16 (by decide)).trans ev_13.symm)))); omega) hI hF hP hS (lv_sub hl [2, 0] rfl)
          · skip
            have c_58 : r_43.toInt ≠ 0 := (by have z := bn_ne c; have k1 : (0 : Int32).toInt = 0 := (by decide); omega)
            refine lv_iconst (v := 1) hx hb dX12_either_27 (by decide) ?_
            refine lv_goto (tgt := 32) hx hb dX12_either_28 (by decide) ?_
            refine lv_istore_n (lv' := [(1, .int 1), (2, .int r_43), (0, .ref (h 0))]) hx hb dX12_either_32 rfl hl (by decide) rfl (fun ls hl => ?_)
            refine lv_goto (tgt := 5) hx hb dX12_either_33 (by decide) ?_
            exact ih_5 1 f_40 _ _ _ (by have kc0 : (1 : Int32).toInt = 1 := (by decide); have zz0_13 : (f_40 0 13).toInt = v_47.toInt := (congrArg Int32.toInt (show f_40 0 13 = v_47 from ev_47.symm)); omega) (by have kc0 : (1 : Int32).toInt = 1 := (by decide); have zz0_13 : (f_40 0 13).toInt = v_47.toInt := (congrArg Int32.toInt (show f_40 0 13 = v_47 from ev_47.symm)); omega) (by have kc0 : (1 : Int32).toInt = 1 := (by decide); have zz0_16 : (f_40 0 16).toInt = v_13.toInt := (congrArg Int32.toInt (show f_40 0 16 = v_13 from ((hk_f_40 0 16 (by decide)).trans ((hk_f_26 0 16 (by decide)).trans ev_13.symm)))); omega) (by have kc0 : (1 : Int32).toInt = 1 := (by decide); have zz0_15 : (f_40 0 15).toInt = v_51.toInt := (congrArg Int32.toInt (show f_40 0 15 = v_51 from ev_51.symm)); have zz0_16 : (f_40 0 16).toInt = v_13.toInt := (congrArg Int32.toInt (show f_40 0 16 = v_13 from ((hk_f_40 0 16 (by decide)).trans ((hk_f_26 0 16 (by decide)).trans ev_13.symm)))); omega) hI hF hP hS (lv_sub hl [2, 0] rfl)
      · skip
        have q_59 := hq
        refine lv_if_eq (tgt := 36) hx hb dX12_either_11 (by decide) (fun c => ?_) (fun c => absurd c (by decide))
        refine lv_iload_n hx hb dX12_either_36 rfl (lv_at hl 1 rfl) ?_
        have q_60 : (f_26 0 13).toInt = v_30.toInt := (congrArg Int32.toInt (show f_26 0 13 = v_30 from ev_30.symm))
        have q_61 : (f_26 0 16).toInt = v_13.toInt := (congrArg Int32.toInt (show f_26 0 16 = v_13 from ((hk_f_26 0 16 (by decide)).trans ev_13.symm)))
        have q_62 : (f_26 0 15).toInt = v_16.toInt := (congrArg Int32.toInt (show f_26 0 15 = v_16 from ((hk_f_26 0 15 (by decide)).trans ev_16.symm)))
        have q_63 : (f_26 0 16).toInt = v_13.toInt := (congrArg Int32.toInt (show f_26 0 16 = v_13 from ((hk_f_26 0 16 (by decide)).trans ev_13.symm)))
        exact hret _ _ _ _ (y1_5) f_26 L Q dX12_either_37 hP hS ⟨⟨hI, hF, rfl, rfl⟩, trivial, (by omega), (by omega), (by omega)⟩
  refine lv_aload_n hx hb dX12_either_0 rfl (lv_at hl 0 rfl) ?_
  have q_64 : (f 0 16).toInt = v_1.toInt := (congrArg Int32.toInt (show f 0 16 = v_1 from ev_1.symm))
  have q_65 : (f 0 15).toInt = v_3.toInt := (congrArg Int32.toInt (show f 0 15 = v_3 from ev_3.symm))
  have q_66 : (f 0 16).toInt = v_1.toInt := (congrArg Int32.toInt (show f 0 16 = v_1 from ev_1.symm))
  have q_67 : (f 0 13).toInt = v_5.toInt := (congrArg Int32.toInt (show f 0 13 = v_5 from ev_5.symm))
  refine sg_calli (va_runV (As := []) (rest := []) ⟨hx, hb, hml, hown, hts⟩ (kX12_both_6 l D ca za h hh f L Q hI (by omega) (by omega) H.size) (cwV 0 hts (gw_V (fun _ h => List.mem_cons_of_mem _ h) mw_881 mw_882 mw_883 mw_619 mw_880) rfl rfl rfl (by decide +kernel) ⟨Nat.le_of_ble_eq_true rfl, Nat.le_of_ble_eq_true rfl⟩) (sg_preV (ci := 12) (C := RX12) (T := TX12) (N := 55) hA hK hP hS hZ 0 (by decide) rfl rfl) rfl rfl hl.1 rfl (lv_room (Nat.le_of_ble_eq_true rfl)) dX12_either_1 ⟨Nat.le_refl _, Nat.le_refl _⟩) hA hS (fun r_71 f_68 L_69 Q_70 H locs hq hP hS => ?_)
  obtain ⟨⟨hI, hk_f_68, eL9, eQ9⟩, hq, p_72, p_73, p_74⟩ := hq
  rw [eL9, eQ9] at hP; clear eL9 eQ9
  have hF : sgK WkX12_either_6 f f_68 := sgK.tr hF hk_f_68 (by decide)
  obtain ⟨v_75, ev_75⟩ : ∃ z : Int32, z = f_68 0 13 := ⟨_, rfl⟩
  have q_76 : 0 ≤ v_75.toInt ∧ v_75.toInt ≤ 120 := by rw [ev_75]; exact hI 0 13
  have q_77 : (f_68 0 13).toInt = v_75.toInt := (congrArg Int32.toInt (show f_68 0 13 = v_75 from ev_75.symm))
  have q_78 : (f_68 0 16).toInt = v_1.toInt := (congrArg Int32.toInt (show f_68 0 16 = v_1 from ((hk_f_68 0 16 (by decide)).trans ev_1.symm)))
  obtain ⟨v_79, ev_79⟩ : ∃ z : Int32, z = f_68 0 15 := ⟨_, rfl⟩
  have q_80 : (-1) ≤ v_79.toInt ∧ v_79.toInt ≤ 120 := by rw [ev_79]; exact hI 0 15
  have q_81 : (f_68 0 15).toInt = v_79.toInt := (congrArg Int32.toInt (show f_68 0 15 = v_79 from ev_79.symm))
  have q_82 : (f_68 0 16).toInt = v_1.toInt := (congrArg Int32.toInt (show f_68 0 16 = v_1 from ((hk_f_68 0 16 (by decide)).trans ev_1.symm)))
  refine lv_istore_n (lv' := [(1, .int r_71), (0, .ref (h 0))]) hx hb dX12_either_4 rfl hl (by decide) rfl (fun ls hl => ?_)
  exact loop_5 121 r_71 f_68 _ _ _ (by have zz0_13 : (f_68 0 13).toInt = v_75.toInt := (congrArg Int32.toInt (show f_68 0 13 = v_75 from ev_75.symm)); omega) (by have zz0_13 : (f_68 0 13).toInt = v_75.toInt := (congrArg Int32.toInt (show f_68 0 13 = v_75 from ev_75.symm)); omega) (by have zz0_16 : (f_68 0 16).toInt = v_1.toInt := (congrArg Int32.toInt (show f_68 0 16 = v_1 from ((hk_f_68 0 16 (by decide)).trans ev_1.symm))); omega) (by have zz0_15 : (f_68 0 15).toInt = v_79.toInt := (congrArg Int32.toInt (show f_68 0 15 = v_79 from ev_79.symm)); have zz0_16 : (f_68 0 16).toInt = v_1.toInt := (congrArg Int32.toInt (show f_68 0 16 = v_1 from ((hk_f_68 0 16 (by decide)).trans ev_1.symm))); omega) hI hF hP hS (lv_sub hl [1, 0] rfl)

abbrev WkX12_takes_41 : List (Nat × Nat × Option Nat) := [(0, 0, some 13)]
set_option maxHeartbeats 4000000 in
set_option maxRecDepth 100000 in
theorem kX12_takes_41 (l : Launch) (D : va_G) (ca : Nat → ClassId) (za h : Nat → Nat) (hh : sgH 26 h) (f : sg_F) (L : sg_L) (Q : sg_Q) (hI : sgI loM hiM f) (sz : Nat) : Met l yX12_takes gwX12_takes { frames := 1, cells := 0, slots := 0, locals := 20 } (sgP D vwCl (tyX ca) 26 h (eM ca h) zcM za f L Q sz [.ref (h 0), .int 41]) (sgQi D vwCl 26 h (eM ca h) sz (fun r f1 L1 Q1 => ((sgI loM hiM f1 ∧ sgK WkX12_takes_41 f f1 ∧ L1 = L ∧ Q1 = Q) ∧ ((r = 1 ∧ ((f 0 15).toInt < 0 ∧ (f 0 13).toInt < (f 0 14).toInt ∧ (f1 0 13).toInt = (f 0 13).toInt + 1)) ∨ (r = 0 ∧ ((f1 0 13).toInt = (f 0 13).toInt)))))) 0 0 (sgA 26 h sz) := by
  refine sg_ofWz (cc := cX12_takes) (maxL := 2) RX12 (by decide) rfl rfl (Nat.le_of_ble_eq_true rfl) ?_
  intro p e s m below meth cd Qz ls hx hb hml hown hts hK hZ hP hS hl hret
  have hA := sgY.self (n := 26) (h := h) (sz := s.heap.size)
  have hl : lv_has ls 2 [(0, .ref (h 0)), (1, .int 41)] := hl
  obtain ⟨H, hH⟩ : ∃ z : Heap, z = s.heap := ⟨_, rfl⟩
  obtain ⟨locs, hlo⟩ : ∃ z : List Loc, z = [] := ⟨_, rfl⟩
  have hP : va_P D vwCl (sgw 26 h (eM ca h) f L Q) H := by rw [hH]; exact hP
  have hS : va_S (sgA 26 h s.heap.size) s.heap H locs := by rw [hH, hlo]; exact hS
  suffices hgo : W p l e ({ frames := 1, cells := 0, slots := 0, locals := 20 }) s m ([.ref (h 0), .int 41] : List Value).toArray below meth cd H locs 0 0 Qz (F0 m 0 ls []) by rw [hH, hlo] at hgo; exact hgo
  clear hH hlo
  obtain ⟨v_1, ev_1⟩ : ∃ z : Int32, z = f 0 15 := ⟨_, rfl⟩
  have q_2 : (-1) ≤ v_1.toInt ∧ v_1.toInt ≤ 120 := by rw [ev_1]; exact hI 0 15
  obtain ⟨v_3, ev_3⟩ : ∃ z : Int32, z = f 0 13 := ⟨_, rfl⟩
  have q_4 : 0 ≤ v_3.toInt ∧ v_3.toInt ≤ 120 := by rw [ev_3]; exact hI 0 13
  obtain ⟨v_5, ev_5⟩ : ∃ z : Int32, z = f 0 14 := ⟨_, rfl⟩
  have q_6 : 0 ≤ v_5.toInt ∧ v_5.toInt ≤ 120 := by rw [ev_5]; exact hI 0 14
  have o_7 : (f 0 15).toInt = v_1.toInt := (congrArg Int32.toInt (show f 0 15 = v_1 from ev_1.symm))
  have o_8 : (f 0 13).toInt = v_3.toInt := (congrArg Int32.toInt (show f 0 13 = v_3 from ev_3.symm))
  have o_9 : (f 0 14).toInt = v_5.toInt := (congrArg Int32.toInt (show f 0 14 = v_5 from ev_5.symm))
  have hF : sgK WkX12_takes_41 f f := sgK.rf
  refine lv_aload_n hx hb dX12_takes_0 rfl (lv_at hl 0 rfl) ?_
  refine sg_get (ci := 12) (v := .int v_1) (C := RX12) (T := TX12) (N := 55) hx hb hts (fun w h => List.mem_cons_of_mem _ (gx_12 w h)) hown hK hP 0 (by decide) rfl rfl 15 (by decide) (hts _ (List.mem_cons_of_mem _ mw_627)) (fun _ h9 => h9) (congrArg (fun z => some (Value.int z)) (show f 0 15 = v_1 from ev_1.symm)) dX12_takes_1 ?_
  refine lv_if_ge (tgt := 15) hx hb dX12_takes_4 (by decide) (fun c => ?_) (fun c => ?_)
  · skip
    have c_10 : 0 ≤ v_1.toInt := (by have z := bn_le c; have k1 : (0 : Int32).toInt = 0 := (by decide); omega)
    refine lv_iconst (v := 0) hx hb dX12_takes_15 (by decide) ?_
    have q_12 : (f 0 13).toInt = v_3.toInt := (congrArg Int32.toInt (show f 0 13 = v_3 from ev_3.symm))
    have q_13 : (f 0 13).toInt = v_3.toInt := (congrArg Int32.toInt (show f 0 13 = v_3 from ev_3.symm))
    have k99 : (0 : Int32).toInt = 0 := (by decide)
    exact hret _ _ _ _ (0) f L Q dX12_takes_16 (by decide) hP hS ⟨⟨hI, hF, rfl, rfl⟩, Or.inr (⟨rfl, by omega⟩)⟩
  · skip
    have c_11 : v_1.toInt < 0 := (by have z := bn_nle c; have k1 : (0 : Int32).toInt = 0 := (by decide); omega)
    refine lv_aload_n hx hb dX12_takes_7 rfl (lv_at hl 0 rfl) ?_
    have q_14 : (f 0 13).toInt = v_3.toInt := (congrArg Int32.toInt (show f 0 13 = v_3 from ev_3.symm))
    have q_15 : (f 0 14).toInt = v_5.toInt := (congrArg Int32.toInt (show f 0 14 = v_5 from ev_5.symm))
    refine sg_calli (va_runV (As := []) (rest := []) ⟨hx, hb, hml, hown, hts⟩ (kX12_byteAt l D ca za h hh f L Q hI H.size) (cwV 0 hts (gw_V (fun _ h => List.mem_cons_of_mem _ h) mw_840 mw_841 mw_842 mw_619 mw_839) rfl rfl rfl (by decide +kernel) ⟨Nat.le_of_ble_eq_true rfl, Nat.le_of_ble_eq_true rfl⟩) (sg_preV (ci := 12) (C := RX12) (T := TX12) (N := 55) hA hK hP hS hZ 0 (by decide) rfl rfl) rfl rfl hl.1 rfl (lv_room (Nat.le_of_ble_eq_true rfl)) dX12_takes_8 ⟨Nat.le_refl _, Nat.le_refl _⟩) hA hS (fun r_19 f_16 L_17 Q_18 H locs hq hP hS => ?_)
    obtain ⟨⟨ef9, eL9, eQ9⟩, hq, p_20⟩ := hq
    rw [ef9, eL9, eQ9] at hP; clear ef9 eL9 eQ9
    refine lv_iload_n hx hb dX12_takes_11 rfl (lv_at hl 1 rfl) ?_
    refine lv_icmp_eq (tgt := 17) hx hb dX12_takes_12 (by decide) (fun c => ?_) (fun c => ?_)
    · skip
      have c_21 : r_19.toInt = 41 := (by have z := Int32.toInt_inj.mpr c; have k1 : (41 : Int32).toInt = 41 := (by decide); omega)
      refine lv_aload_n hx hb dX12_takes_17 rfl (lv_at hl 0 rfl) ?_
      refine lv_dup hx hb dX12_takes_18 rfl ?_
      refine sg_get (ci := 12) (v := .int v_3) (C := RX12) (T := TX12) (N := 55) hx hb hts (fun w h => List.mem_cons_of_mem _ (gx_12 w h)) hown hK hP 0 (by decide) rfl rfl 13 (by decide) (hts _ (List.mem_cons_of_mem _ mw_625)) (fun _ h9 => h9) (congrArg (fun z => some (Value.int z)) (show f 0 13 = v_3 from ev_3.symm)) dX12_takes_19 ?_
      refine lv_iconst (v := 1) hx hb dX12_takes_22 (by decide) ?_
      refine lv_iadd hx hb dX12_takes_23 ?_
      refine lv_topi (fun v_23 ev_23 => ?_)
      have q_24 : v_23.toInt = v_3.toInt + 1 := by rw [ev_23]; have k1 : (1 : Int32).toInt = 1 := (by decide); exact (bn_addI (by omega) (by omega)).trans (by omega)
      refine sg_put (ci := 12) (x := v_23) (ty := .int) (C := RX12) (T := TX12) (N := 55) hx hb hts (fun w h => List.mem_cons_of_mem _ (gx_12 w h)) tyX12 tyX12_ok nmX12 hown hh hA hK hP hS 0 (by decide) rfl rfl 13 (by decide) (hts _ (List.mem_cons_of_mem _ mw_625)) (fun _ h9 => h9) rfl rfl (by decide +kernel) rfl rfl (Nat.le_of_ble_eq_true rfl) dX12_takes_24 (fun f_25 H locs ef_25 hP hS => ?_)
      have hI : sgI loM hiM f_25 := by rw [ef_25]; exact sgI.put hI 0 13 (show 0 ≤ (v_23 : Int32).toInt ∧ (v_23 : Int32).toInt ≤ 120 from by omega)
      have hF : sgK WkX12_takes_41 f f_25 := sgK.put hF ef_25 (by rfl)
      refine lv_iconst (v := 1) hx hb dX12_takes_27 (by decide) ?_
      have q_26 : (f_25 0 13).toInt = v_23.toInt := (congrArg Int32.toInt (show f_25 0 13 = v_23 from (by rw [ef_25, sg_up_s, sgu_s])))
      have q_27 : (f_25 0 13).toInt = v_23.toInt := (congrArg Int32.toInt (show f_25 0 13 = v_23 from (by rw [ef_25, sg_up_s, sgu_s])))
      have k99 : (1 : Int32).toInt = 1 := (by decide)
      exact hret _ _ _ _ (1) f_25 L Q dX12_takes_28 (by decide) hP hS ⟨⟨hI, hF, rfl, rfl⟩, Or.inl ⟨rfl, by omega⟩⟩
    · skip
      have c_22 : r_19.toInt ≠ 41 := (by have z := bn_ne c; have k1 : (41 : Int32).toInt = 41 := (by decide); omega)
      refine lv_iconst (v := 0) hx hb dX12_takes_15 (by decide) ?_
      have q_28 : (f 0 13).toInt = v_3.toInt := (congrArg Int32.toInt (show f 0 13 = v_3 from ev_3.symm))
      have q_29 : (f 0 13).toInt = v_3.toInt := (congrArg Int32.toInt (show f 0 13 = v_3 from ev_3.symm))
      have k99 : (0 : Int32).toInt = 0 := (by decide)
      exact hret _ _ _ _ (0) f L Q dX12_takes_16 (by decide) hP hS ⟨⟨hI, hF, rfl, rfl⟩, Or.inr (⟨rfl, by omega⟩)⟩

abbrev WkX12_one_5 : List (Nat × Nat × Option Nat) := [(0, 0, some 13), (0, 0, some 15), (0, 0, some 16)]
set_option maxHeartbeats 4000000 in
set_option maxRecDepth 100000 in
theorem kX12_one_5 (l : Launch) (D : va_G) (ca : Nat → ClassId) (za h : Nat → Nat) (hh : sgH 26 h) (f : sg_F) (L : sg_L) (Q : sg_Q) (hI : sgI loM hiM f) (p0 : 5 ≤ (f 0 16).toInt) (p1 : 0 ≤ (f 0 15).toInt ∨ (f 0 16).toInt = 5) (sz : Nat) : Met l yX12_one gwX12_one { frames := 7, cells := 0, slots := 0, locals := 157 } (sgP D vwCl (tyX ca) 26 h (eM ca h) zcM za f L Q sz [.ref (h 0)]) (sgQi D vwCl 26 h (eM ca h) sz (fun r f1 L1 Q1 => ((sgI loM hiM f1 ∧ sgK WkX12_one_5 f f1 ∧ L1 = L ∧ Q1 = Q) ∧ True ∧ ((f 0 13).toInt ≤ (f1 0 13).toInt) ∧ (5 ≤ (f1 0 16).toInt) ∧ (0 ≤ (f1 0 15).toInt ∨ (f1 0 16).toInt = 5)))) 0 0 (sgA 26 h sz) := by
  refine sg_ofWi (cc := cX12_one) (maxL := 5) RX12 (by decide) rfl rfl (Nat.le_of_ble_eq_true rfl) ?_
  intro p e s m below meth cd Qz ls hx hb hml hown hts hK hZ hP hS hl hret
  have hA := sgY.self (n := 26) (h := h) (sz := s.heap.size)
  have hl : lv_has ls 5 [(0, .ref (h 0))] := hl
  obtain ⟨H, hH⟩ : ∃ z : Heap, z = s.heap := ⟨_, rfl⟩
  obtain ⟨locs, hlo⟩ : ∃ z : List Loc, z = [] := ⟨_, rfl⟩
  have hP : va_P D vwCl (sgw 26 h (eM ca h) f L Q) H := by rw [hH]; exact hP
  have hS : va_S (sgA 26 h s.heap.size) s.heap H locs := by rw [hH, hlo]; exact hS
  suffices hgo : W p l e ({ frames := 7, cells := 0, slots := 0, locals := 157 }) s m ([.ref (h 0)] : List Value).toArray below meth cd H locs 0 0 Qz (F0 m 0 ls []) by rw [hH, hlo] at hgo; exact hgo
  clear hH hlo
  obtain ⟨v_1, ev_1⟩ : ∃ z : Int32, z = f 0 16 := ⟨_, rfl⟩
  have q_2 : 0 ≤ v_1.toInt ∧ v_1.toInt ≤ 6 := by rw [ev_1]; exact hI 0 16
  obtain ⟨v_3, ev_3⟩ : ∃ z : Int32, z = f 0 15 := ⟨_, rfl⟩
  have q_4 : (-1) ≤ v_3.toInt ∧ v_3.toInt ≤ 120 := by rw [ev_3]; exact hI 0 15
  obtain ⟨v_5, ev_5⟩ : ∃ z : Int32, z = f 0 13 := ⟨_, rfl⟩
  have q_6 : 0 ≤ v_5.toInt ∧ v_5.toInt ≤ 120 := by rw [ev_5]; exact hI 0 13
  have o_7 : (f 0 16).toInt = v_1.toInt := (congrArg Int32.toInt (show f 0 16 = v_1 from ev_1.symm))
  have o_8 : (f 0 15).toInt = v_3.toInt := (congrArg Int32.toInt (show f 0 15 = v_3 from ev_3.symm))
  have o_9 : (f 0 13).toInt = v_5.toInt := (congrArg Int32.toInt (show f 0 13 = v_5 from ev_5.symm))
  have hF : sgK WkX12_one_5 f f := sgK.rf
  have blk_229 : ∀ (y3_229 : Int32) (y4_229 : Int32) (fp_229 : sg_F) (H : Heap) (locs : List Loc) (ls : Array Slot), (-1) ≤ (fp_229 0 15).toInt ∧ (fp_229 0 15).toInt ≤ (-1) → 0 ≤ y4_229.toInt ∧ y4_229.toInt ≤ 4 → (f 0 13).toInt ≤ (fp_229 0 13).toInt → 5 ≤ (fp_229 0 16).toInt → 0 ≤ (fp_229 0 15).toInt ∨ (fp_229 0 16).toInt = 5 → sgI loM hiM fp_229 → sgK WkX12_one_5 f fp_229 → va_P D vwCl (sgw 26 h (eM ca h) fp_229 L Q) H → va_S (sgA 26 h s.heap.size) s.heap H locs → lv_has ls 5 [(0, .ref (h 0)), (3, .int y3_229), (4, .int y4_229)] → W p l e ({ frames := 7, cells := 0, slots := 0, locals := 157 }) s m ([.ref (h 0)] : List Value).toArray below meth cd H locs 0 0 Qz (F0 m 229 ls []) := by
    intro y3_229 y4_229 fp_229 H locs ls hy0_229 hy1_229 hg0_229 hg1_229 hg2_229 hI hF hP hS hl
    obtain ⟨v_10, ev_10⟩ : ∃ z : Int32, z = fp_229 0 15 := ⟨_, rfl⟩
    have q_11 : (-1) ≤ v_10.toInt ∧ v_10.toInt ≤ 120 := by rw [ev_10]; exact hI 0 15
    have q_12 : (fp_229 0 15).toInt = v_10.toInt := by rw [ev_10]
    obtain ⟨v_13, ev_13⟩ : ∃ z : Int32, z = fp_229 0 13 := ⟨_, rfl⟩
    have q_14 : 0 ≤ v_13.toInt ∧ v_13.toInt ≤ 120 := by rw [ev_13]; exact hI 0 13
    have q_15 : (fp_229 0 13).toInt = v_13.toInt := by rw [ev_13]
    obtain ⟨v_16, ev_16⟩ : ∃ z : Int32, z = fp_229 0 16 := ⟨_, rfl⟩
    have q_17 : 0 ≤ v_16.toInt ∧ v_16.toInt ≤ 6 := by rw [ev_16]; exact hI 0 16
    have q_18 : (fp_229 0 16).toInt = v_16.toInt := by rw [ev_16]
    refine lv_iload hx hb dX12_one_229 (lv_at hl 2 rfl) ?_
    refine lv_if_ne (tgt := 241) hx hb dX12_one_231 (by decide) (fun c => ?_) (fun c => ?_)
    · skip
      have c_19 : y4_229.toInt ≠ 0 := (by have z := bn_ne c; have k1 : (0 : Int32).toInt = 0 := (by decide); omega)
      refine lv_iload_n hx hb dX12_one_241 rfl (lv_at hl 1 rfl) ?_
      have q_21 : (fp_229 0 13).toInt = v_13.toInt := (congrArg Int32.toInt (show fp_229 0 13 = v_13 from ev_13.symm))
      have q_22 : (fp_229 0 16).toInt = v_16.toInt := (congrArg Int32.toInt (show fp_229 0 16 = v_16 from ev_16.symm))
      have q_23 : (fp_229 0 15).toInt = v_10.toInt := (congrArg Int32.toInt (show fp_229 0 15 = v_10 from ev_10.symm))
      have q_24 : (fp_229 0 16).toInt = v_16.toInt := (congrArg Int32.toInt (show fp_229 0 16 = v_16 from ev_16.symm))
      exact hret _ _ _ _ (y3_229) fp_229 L Q dX12_one_242 hP hS ⟨⟨hI, hF, rfl, rfl⟩, trivial, (by omega), (by omega), (by omega)⟩
    · skip
      have c_20 : y4_229.toInt = 0 := (by have z := Int32.toInt_inj.mpr c; have k1 : (0 : Int32).toInt = 0 := (by decide); omega)
      refine lv_aload_n hx hb dX12_one_234 rfl (lv_at hl 0 rfl) ?_
      refine sg_calli (va_runV (As := []) (rest := []) ⟨hx, hb, hml, hown, hts⟩ (kX12_wrong l D ca za h hh fp_229 L Q hI H.size) (cwV 0 hts (gw_V (fun _ h => List.mem_cons_of_mem _ h) mw_889 mw_890 mw_891 mw_619 mw_888) rfl rfl rfl (by decide +kernel) ⟨Nat.le_of_ble_eq_true rfl, Nat.le_of_ble_eq_true rfl⟩) (sg_preV (ci := 12) (C := RX12) (T := TX12) (N := 55) hA hK hP hS hZ 0 (by decide) rfl rfl) rfl rfl hl.1 rfl (lv_room (Nat.le_of_ble_eq_true rfl)) dX12_one_235 ⟨Nat.le_refl _, Nat.le_refl _⟩) hA hS (fun r_28 f_25 L_26 Q_27 H locs hq hP hS => ?_)
      obtain ⟨⟨hI, hk_f_25, eL9, eQ9⟩, hq, p_29⟩ := hq
      rw [eL9, eQ9] at hP; clear eL9 eQ9
      have hF : sgK WkX12_one_5 f f_25 := sgK.tr hF hk_f_25 (by decide)
      obtain ⟨v_30, ev_30⟩ : ∃ z : Int32, z = f_25 0 15 := ⟨_, rfl⟩
      have q_31 : (-1) ≤ v_30.toInt ∧ v_30.toInt ≤ 120 := by rw [ev_30]; exact hI 0 15
      have q_32 : (f_25 0 15).toInt = v_30.toInt := (congrArg Int32.toInt (show f_25 0 15 = v_30 from ev_30.symm))
      obtain rfl : r_28 = 0 := Int32.toInt_inj.mp (by have k9 : (0 : Int32).toInt = 0 := (by decide); omega)
      refine lv_goto (tgt := 242) hx hb dX12_one_238 (by decide) ?_
      have q_33 : (f_25 0 13).toInt = v_13.toInt := (congrArg Int32.toInt (show f_25 0 13 = v_13 from ((hk_f_25 0 13 (by decide)).trans ev_13.symm)))
      have q_34 : (f_25 0 16).toInt = v_16.toInt := (congrArg Int32.toInt (show f_25 0 16 = v_16 from ((hk_f_25 0 16 (by decide)).trans ev_16.symm)))
      have q_35 : (f_25 0 15).toInt = v_30.toInt := (congrArg Int32.toInt (show f_25 0 15 = v_30 from ev_30.symm))
      have q_36 : (f_25 0 16).toInt = v_16.toInt := (congrArg Int32.toInt (show f_25 0 16 = v_16 from ((hk_f_25 0 16 (by decide)).trans ev_16.symm)))
      have k99 : (0 : Int32).toInt = 0 := (by decide)
      exact hret _ _ _ _ (0) f_25 L Q dX12_one_242 hP hS ⟨⟨hI, hF, rfl, rfl⟩, trivial, (by omega), (by omega), (by omega)⟩
  have loop_176 : ∀ (n_176 : Nat) (y3_176 : Int32) (y4_176 : Int32) (fp_176 : sg_F) (H : Heap) (locs : List Loc) (ls : Array Slot), 4 - y4_176.toInt < (n_176 : Int) → (-1) ≤ (fp_176 0 15).toInt ∧ (fp_176 0 15).toInt ≤ (-1) → 0 ≤ y4_176.toInt ∧ y4_176.toInt ≤ 4 → (f 0 13).toInt ≤ (fp_176 0 13).toInt → 5 ≤ (fp_176 0 16).toInt → 0 ≤ (fp_176 0 15).toInt ∨ (fp_176 0 16).toInt = 5 → sgI loM hiM fp_176 → sgK WkX12_one_5 f fp_176 → va_P D vwCl (sgw 26 h (eM ca h) fp_176 L Q) H → va_S (sgA 26 h s.heap.size) s.heap H locs → lv_has ls 5 [(0, .ref (h 0)), (3, .int y3_176), (4, .int y4_176)] → W p l e ({ frames := 7, cells := 0, slots := 0, locals := 157 }) s m ([.ref (h 0)] : List Value).toArray below meth cd H locs 0 0 Qz (F0 m 176 ls []) := by
    intro n_176
    induction n_176 with
    | zero => intro y3_176 y4_176 fp_176 H locs ls hm_176 hy0_176 hy1_176 hg0_176 hg1_176 hg2_176 hI hF hP hS hl; exact absurd hm_176 (by omega)
    | succ n_176 ih_176 =>
      intro y3_176 y4_176 fp_176 H locs ls hm_176 hy0_176 hy1_176 hg0_176 hg1_176 hg2_176 hI hF hP hS hl
      obtain ⟨v_37, ev_37⟩ : ∃ z : Int32, z = fp_176 0 15 := ⟨_, rfl⟩
      have q_38 : (-1) ≤ v_37.toInt ∧ v_37.toInt ≤ 120 := by rw [ev_37]; exact hI 0 15
      have q_39 : (fp_176 0 15).toInt = v_37.toInt := by rw [ev_37]
      obtain ⟨v_40, ev_40⟩ : ∃ z : Int32, z = fp_176 0 13 := ⟨_, rfl⟩
      have q_41 : 0 ≤ v_40.toInt ∧ v_40.toInt ≤ 120 := by rw [ev_40]; exact hI 0 13
      have q_42 : (fp_176 0 13).toInt = v_40.toInt := by rw [ev_40]
      obtain ⟨v_43, ev_43⟩ : ∃ z : Int32, z = fp_176 0 16 := ⟨_, rfl⟩
      have q_44 : 0 ≤ v_43.toInt ∧ v_43.toInt ≤ 6 := by rw [ev_43]; exact hI 0 16
      have q_45 : (fp_176 0 16).toInt = v_43.toInt := by rw [ev_43]
      refine lv_iload hx hb dX12_one_176 (lv_at hl 2 rfl) ?_
      refine lv_iconst (v := 4) hx hb dX12_one_178 (by decide) ?_
      refine lv_icmp_ge (tgt := 229) hx hb dX12_one_179 (by decide) (fun c => ?_) (fun c => ?_)
      · skip
        have c_46 : 4 ≤ y4_176.toInt := (by have z := bn_le c; have k1 : (4 : Int32).toInt = 4 := (by decide); omega)
        exact blk_229 y3_176 y4_176 fp_176 _ _ _ (by have zz0_15 : (fp_176 0 15).toInt = v_37.toInt := (congrArg Int32.toInt (show fp_176 0 15 = v_37 from ev_37.symm)); omega) (by omega) (by have zz0_13 : (fp_176 0 13).toInt = v_40.toInt := (congrArg Int32.toInt (show fp_176 0 13 = v_40 from ev_40.symm)); omega) (by have zz0_16 : (fp_176 0 16).toInt = v_43.toInt := (congrArg Int32.toInt (show fp_176 0 16 = v_43 from ev_43.symm)); omega) (by have zz0_15 : (fp_176 0 15).toInt = v_37.toInt := (congrArg Int32.toInt (show fp_176 0 15 = v_37 from ev_37.symm)); have zz0_16 : (fp_176 0 16).toInt = v_43.toInt := (congrArg Int32.toInt (show fp_176 0 16 = v_43 from ev_43.symm)); omega) hI hF hP hS (lv_sub hl [0, 1, 2] rfl)
      · skip
        have c_47 : y4_176.toInt < 4 := (by have z := bn_nle c; have k1 : (4 : Int32).toInt = 4 := (by decide); omega)
        refine lv_aload_n hx hb dX12_one_182 rfl (lv_at hl 0 rfl) ?_
        have q_48 : (fp_176 0 13).toInt = v_40.toInt := (congrArg Int32.toInt (show fp_176 0 13 = v_40 from ev_40.symm))
        obtain ⟨v_49, ev_49⟩ : ∃ z : Int32, z = fp_176 0 14 := ⟨_, rfl⟩
        have q_50 : 0 ≤ v_49.toInt ∧ v_49.toInt ≤ 120 := by rw [ev_49]; exact hI 0 14
        have q_51 : (fp_176 0 14).toInt = v_49.toInt := (congrArg Int32.toInt (show fp_176 0 14 = v_49 from ev_49.symm))
        refine sg_calli (va_runV (As := []) (rest := []) ⟨hx, hb, hml, hown, hts⟩ (kX12_byteAt l D ca za h hh fp_176 L Q hI H.size) (cwV 0 hts (gw_V (fun _ h => List.mem_cons_of_mem _ h) mw_840 mw_841 mw_842 mw_619 mw_839) rfl rfl rfl (by decide +kernel) ⟨Nat.le_of_ble_eq_true rfl, Nat.le_of_ble_eq_true rfl⟩) (sg_preV (ci := 12) (C := RX12) (T := TX12) (N := 55) hA hK hP hS hZ 0 (by decide) rfl rfl) rfl rfl hl.1 rfl (lv_room (Nat.le_of_ble_eq_true rfl)) dX12_one_183 ⟨Nat.le_refl _, Nat.le_refl _⟩) hA hS (fun r_55 f_52 L_53 Q_54 H locs hq hP hS => ?_)
        obtain ⟨⟨ef9, eL9, eQ9⟩, hq, p_56⟩ := hq
        rw [ef9, eL9, eQ9] at hP; clear ef9 eL9 eQ9
        refine lv_bipush (v := 48) hx hb dX12_one_186 (by decide) ?_
        refine lv_icmp_lt (tgt := 229) hx hb dX12_one_188 (by decide) (fun c => ?_) (fun c => ?_)
        · skip
          have c_57 : r_55.toInt < 48 := (by have z := bn_lt c; have k1 : (48 : Int32).toInt = 48 := (by decide); omega)
          exact blk_229 y3_176 y4_176 fp_176 _ _ _ (by have zz0_15 : (fp_176 0 15).toInt = v_37.toInt := (congrArg Int32.toInt (show fp_176 0 15 = v_37 from ev_37.symm)); omega) (by omega) (by have zz0_13 : (fp_176 0 13).toInt = v_40.toInt := (congrArg Int32.toInt (show fp_176 0 13 = v_40 from ev_40.symm)); omega) (by have zz0_16 : (fp_176 0 16).toInt = v_43.toInt := (congrArg Int32.toInt (show fp_176 0 16 = v_43 from ev_43.symm)); omega) (by have zz0_15 : (fp_176 0 15).toInt = v_37.toInt := (congrArg Int32.toInt (show fp_176 0 15 = v_37 from ev_37.symm)); have zz0_16 : (fp_176 0 16).toInt = v_43.toInt := (congrArg Int32.toInt (show fp_176 0 16 = v_43 from ev_43.symm)); omega) hI hF hP hS (lv_sub hl [0, 1, 2] rfl)
        · skip
          have c_58 : 48 ≤ r_55.toInt := (by have z := bn_nlt c; have k1 : (48 : Int32).toInt = 48 := (by decide); omega)
          refine lv_aload_n hx hb dX12_one_191 rfl (lv_at hl 0 rfl) ?_
          have q_59 : (fp_176 0 13).toInt = v_40.toInt := (congrArg Int32.toInt (show fp_176 0 13 = v_40 from ev_40.symm))
          have q_60 : (fp_176 0 14).toInt = v_49.toInt := (congrArg Int32.toInt (show fp_176 0 14 = v_49 from ev_49.symm))
          refine sg_calli (va_runV (As := []) (rest := []) ⟨hx, hb, hml, hown, hts⟩ (kX12_byteAt l D ca za h hh fp_176 L Q hI H.size) (cwV 0 hts (gw_V (fun _ h => List.mem_cons_of_mem _ h) mw_840 mw_841 mw_842 mw_619 mw_839) rfl rfl rfl (by decide +kernel) ⟨Nat.le_of_ble_eq_true rfl, Nat.le_of_ble_eq_true rfl⟩) (sg_preV (ci := 12) (C := RX12) (T := TX12) (N := 55) hA hK hP hS hZ 0 (by decide) rfl rfl) rfl rfl hl.1 rfl (lv_room (Nat.le_of_ble_eq_true rfl)) dX12_one_192 ⟨Nat.le_refl _, Nat.le_refl _⟩) hA hS (fun r_64 f_61 L_62 Q_63 H locs hq hP hS => ?_)
          obtain ⟨⟨ef9, eL9, eQ9⟩, hq, p_65⟩ := hq
          rw [ef9, eL9, eQ9] at hP; clear ef9 eL9 eQ9
          refine lv_bipush (v := 57) hx hb dX12_one_195 (by decide) ?_
          refine lv_icmp_gt (tgt := 229) hx hb dX12_one_197 (by decide) (fun c => ?_) (fun c => ?_)
          · skip
            have c_66 : 57 < r_64.toInt := (by have z := bn_lt c; have k1 : (57 : Int32).toInt = 57 := (by decide); omega)
            exact blk_229 y3_176 y4_176 fp_176 _ _ _ (by have zz0_15 : (fp_176 0 15).toInt = v_37.toInt := (congrArg Int32.toInt (show fp_176 0 15 = v_37 from ev_37.symm)); omega) (by omega) (by have zz0_13 : (fp_176 0 13).toInt = v_40.toInt := (congrArg Int32.toInt (show fp_176 0 13 = v_40 from ev_40.symm)); omega) (by have zz0_16 : (fp_176 0 16).toInt = v_43.toInt := (congrArg Int32.toInt (show fp_176 0 16 = v_43 from ev_43.symm)); omega) (by have zz0_15 : (fp_176 0 15).toInt = v_37.toInt := (congrArg Int32.toInt (show fp_176 0 15 = v_37 from ev_37.symm)); have zz0_16 : (fp_176 0 16).toInt = v_43.toInt := (congrArg Int32.toInt (show fp_176 0 16 = v_43 from ev_43.symm)); omega) hI hF hP hS (lv_sub hl [0, 1, 2] rfl)
          · skip
            have c_67 : r_64.toInt ≤ 57 := (by have z := bn_nlt c; have k1 : (57 : Int32).toInt = 57 := (by decide); omega)
            refine lv_bipush (v := 10) hx hb dX12_one_200 (by decide) ?_
            refine lv_iload_n hx hb dX12_one_202 rfl (lv_at hl 1 rfl) ?_
            refine lv_imul hx hb dX12_one_203 ?_
            refine lv_topi (fun v_68 ev_68 => ?_)
            refine lv_aload_n hx hb dX12_one_204 rfl (lv_at hl 0 rfl) ?_
            have q_69 : (fp_176 0 13).toInt = v_40.toInt := (congrArg Int32.toInt (show fp_176 0 13 = v_40 from ev_40.symm))
            have q_70 : (fp_176 0 14).toInt = v_49.toInt := (congrArg Int32.toInt (show fp_176 0 14 = v_49 from ev_49.symm))
            refine sg_calli (va_runV (As := []) (rest := [.int v_68]) ⟨hx, hb, hml, hown, hts⟩ (kX12_byteAt l D ca za h hh fp_176 L Q hI H.size) (cwV 0 hts (gw_V (fun _ h => List.mem_cons_of_mem _ h) mw_840 mw_841 mw_842 mw_619 mw_839) rfl rfl rfl (by decide +kernel) ⟨Nat.le_of_ble_eq_true rfl, Nat.le_of_ble_eq_true rfl⟩) (sg_preV (ci := 12) (C := RX12) (T := TX12) (N := 55) hA hK hP hS hZ 0 (by decide) rfl rfl) rfl rfl hl.1 rfl (lv_room (Nat.le_of_ble_eq_true rfl)) dX12_one_205 ⟨Nat.le_refl _, Nat.le_refl _⟩) hA hS (fun r_74 f_71 L_72 Q_73 H locs hq hP hS => ?_)
            obtain ⟨⟨ef9, eL9, eQ9⟩, hq, p_75⟩ := hq
            rw [ef9, eL9, eQ9] at hP; clear ef9 eL9 eQ9
            refine lv_iadd hx hb dX12_one_208 ?_
            refine lv_topi (fun v_76 ev_76 => ?_)
            refine lv_bipush (v := 48) hx hb dX12_one_209 (by decide) ?_
            refine lv_isub hx hb dX12_one_211 ?_
            refine lv_topi (fun v_77 ev_77 => ?_)
            refine lv_istore_n (lv' := [(3, .int v_77), (0, .ref (h 0)), (4, .int y4_176)]) hx hb dX12_one_212 rfl hl (by decide) rfl (fun ls hl => ?_)
            obtain ⟨v_78, ev_78⟩ : ∃ z : Int32, z = y4_176 + 1 := ⟨_, rfl⟩
            have q_79 : v_78.toInt = y4_176.toInt + 1 := by rw [ev_78]; exact (bn_addc y4_176 1 (by decide) (by omega) (by omega))
            refine lv_iinc (v := v_78) (lv' := [(4, .int v_78), (3, .int v_77), (0, .ref (h 0))]) hx hb dX12_one_213 hl (k := 2) rfl (by rw [ev_78]; rfl) (by decide) rfl (fun ls hl => ?_)
            refine lv_aload_n hx hb dX12_one_216 rfl (lv_at hl 2 rfl) ?_
            refine lv_dup hx hb dX12_one_217 rfl ?_
            refine sg_get (ci := 12) (v := .int v_40) (C := RX12) (T := TX12) (N := 55) hx hb hts (fun w h => List.mem_cons_of_mem _ (gx_12 w h)) hown hK hP 0 (by decide) rfl rfl 13 (by decide) (hts _ (List.mem_cons_of_mem _ mw_625)) (fun _ h9 => h9) (congrArg (fun z => some (Value.int z)) (show fp_176 0 13 = v_40 from ev_40.symm)) dX12_one_218 ?_
            refine lv_iconst (v := 1) hx hb dX12_one_221 (by decide) ?_
            refine lv_iadd hx hb dX12_one_222 ?_
            refine lv_topi (fun v_80 ev_80 => ?_)
            have q_81 : v_80.toInt = v_40.toInt + 1 := by rw [ev_80]; have k1 : (1 : Int32).toInt = 1 := (by decide); exact (bn_addI (by omega) (by omega)).trans (by omega)
            refine sg_put (ci := 12) (x := v_80) (ty := .int) (C := RX12) (T := TX12) (N := 55) hx hb hts (fun w h => List.mem_cons_of_mem _ (gx_12 w h)) tyX12 tyX12_ok nmX12 hown hh hA hK hP hS 0 (by decide) rfl rfl 13 (by decide) (hts _ (List.mem_cons_of_mem _ mw_625)) (fun _ h9 => h9) rfl rfl (by decide +kernel) rfl rfl (Nat.le_of_ble_eq_true rfl) dX12_one_223 (fun f_82 H locs ef_82 hP hS => ?_)
            have hI : sgI loM hiM f_82 := by rw [ef_82]; exact sgI.put hI 0 13 (show 0 ≤ (v_80 : Int32).toInt ∧ (v_80 : Int32).toInt ≤ 120 from by omega)
            have hF : sgK WkX12_one_5 f f_82 := sgK.put hF ef_82 (by rfl)
            refine lv_goto (tgt := 176) hx hb dX12_one_226 (by decide) ?_
            exact ih_176 v_77 v_78 f_82 _ _ _ (by omega) (by have zz0_15 : (f_82 0 15).toInt = v_37.toInt := (congrArg Int32.toInt (show f_82 0 15 = v_37 from (by rw [ef_82, sg_up_s, sgu_n (by decide)]; exact ev_37.symm))); omega) (by omega) (by have zz0_13 : (f_82 0 13).toInt = v_80.toInt := (congrArg Int32.toInt (show f_82 0 13 = v_80 from (by rw [ef_82, sg_up_s, sgu_s]))); omega) (by have zz0_16 : (f_82 0 16).toInt = v_43.toInt := (congrArg Int32.toInt (show f_82 0 16 = v_43 from (by rw [ef_82, sg_up_s, sgu_n (by decide)]; exact ev_43.symm))); omega) (by have zz0_15 : (f_82 0 15).toInt = v_37.toInt := (congrArg Int32.toInt (show f_82 0 15 = v_37 from (by rw [ef_82, sg_up_s, sgu_n (by decide)]; exact ev_37.symm))); have zz0_16 : (f_82 0 16).toInt = v_43.toInt := (congrArg Int32.toInt (show f_82 0 16 = v_43 from (by rw [ef_82, sg_up_s, sgu_n (by decide)]; exact ev_43.symm))); omega) hI hF hP hS (lv_sub hl [2, 1, 0] rfl)
  refine lv_aload_n hx hb dX12_one_0 rfl (lv_at hl 0 rfl) ?_
  refine sg_get (ci := 12) (v := .int v_3) (C := RX12) (T := TX12) (N := 55) hx hb hts (fun w h => List.mem_cons_of_mem _ (gx_12 w h)) hown hK hP 0 (by decide) rfl rfl 15 (by decide) (hts _ (List.mem_cons_of_mem _ mw_627)) (fun _ h9 => h9) (congrArg (fun z => some (Value.int z)) (show f 0 15 = v_3 from ev_3.symm)) dX12_one_1 ?_
  refine lv_if_lt (tgt := 9) hx hb dX12_one_4 (by decide) (fun c => ?_) (fun c => ?_)
  · skip
    have c_83 : v_3.toInt < 0 := (by have z := bn_lt c; have k1 : (0 : Int32).toInt = 0 := (by decide); omega)
    refine lv_aload_n hx hb dX12_one_9 rfl (lv_at hl 0 rfl) ?_
    have q_85 : (f 0 13).toInt = v_5.toInt := (congrArg Int32.toInt (show f 0 13 = v_5 from ev_5.symm))
    obtain ⟨v_86, ev_86⟩ : ∃ z : Int32, z = f 0 14 := ⟨_, rfl⟩
    have q_87 : 0 ≤ v_86.toInt ∧ v_86.toInt ≤ 120 := by rw [ev_86]; exact hI 0 14
    have q_88 : (f 0 14).toInt = v_86.toInt := (congrArg Int32.toInt (show f 0 14 = v_86 from ev_86.symm))
    refine sg_calli (va_runV (As := []) (rest := []) ⟨hx, hb, hml, hown, hts⟩ (kX12_byteAt l D ca za h hh f L Q hI H.size) (cwV 0 hts (gw_V (fun _ h => List.mem_cons_of_mem _ h) mw_840 mw_841 mw_842 mw_619 mw_839) rfl rfl rfl (by decide +kernel) ⟨Nat.le_of_ble_eq_true rfl, Nat.le_of_ble_eq_true rfl⟩) (sg_preV (ci := 12) (C := RX12) (T := TX12) (N := 55) hA hK hP hS hZ 0 (by decide) rfl rfl) rfl rfl hl.1 rfl (lv_room (Nat.le_of_ble_eq_true rfl)) dX12_one_10 ⟨Nat.le_refl _, Nat.le_refl _⟩) hA hS (fun r_92 f_89 L_90 Q_91 H locs hq hP hS => ?_)
    obtain ⟨⟨ef9, eL9, eQ9⟩, hq, p_93⟩ := hq
    rw [ef9, eL9, eQ9] at hP; clear ef9 eL9 eQ9
    refine lv_istore_n (lv' := [(1, .int r_92), (0, .ref (h 0))]) hx hb dX12_one_13 rfl hl (by decide) rfl (fun ls hl => ?_)
    refine lv_iload_n hx hb dX12_one_14 rfl (lv_at hl 0 rfl) ?_
    refine lv_bipush (v := 33) hx hb dX12_one_15 (by decide) ?_
    refine lv_icmp_eq (tgt := 32) hx hb dX12_one_17 (by decide) (fun c => ?_) (fun c => ?_)
    · skip
      have c_94 : r_92.toInt = 33 := (by have z := Int32.toInt_inj.mpr c; have k1 : (33 : Int32).toInt = 33 := (by decide); omega)
      refine lv_aload_n hx hb dX12_one_32 rfl (lv_at hl 1 rfl) ?_
      have c_96 : v_1 = 5 := Int32.toInt_inj.mp (by have k9 : (5 : Int32).toInt = 5 := (by decide); omega)
      refine sg_get (ci := 12) (v := .int 5) (C := RX12) (T := TX12) (N := 55) hx hb hts (fun w h => List.mem_cons_of_mem _ (gx_12 w h)) hown hK hP 0 (by decide) rfl rfl 16 (by decide) (hts _ (List.mem_cons_of_mem _ mw_628)) (fun _ h9 => h9) (congrArg (fun z => some (Value.int z)) (show f 0 16 = 5 from (Eq.trans ev_1.symm c_96))) dX12_one_33 ?_
      refine lv_bipush (v := 6) hx hb dX12_one_36 (by decide) ?_
      refine lv_icmp_ne (tgt := 46) hx hb dX12_one_38 (by decide) (fun c => ?_) (fun c => absurd c (by decide))
      refine lv_aload_n hx hb dX12_one_46 rfl (lv_at hl 1 rfl) ?_
      refine lv_dup hx hb dX12_one_47 rfl ?_
      refine sg_get (ci := 12) (v := .int 5) (C := RX12) (T := TX12) (N := 55) hx hb hts (fun w h => List.mem_cons_of_mem _ (gx_12 w h)) hown hK hP 0 (by decide) rfl rfl 16 (by decide) (hts _ (List.mem_cons_of_mem _ mw_628)) (fun _ h9 => h9) (congrArg (fun z => some (Value.int z)) (show f 0 16 = 5 from (Eq.trans ev_1.symm c_96))) dX12_one_48 ?_
      refine lv_iconst (v := 1) hx hb dX12_one_51 (by decide) ?_
      refine lv_iadd hx hb dX12_one_52 ?_
      refine W.eq (g2 := F0 m 53 ls [.int 6, .ref (h 0)]) (by rw [show (5 + 1 : Int32) = 6 from by decide]) ?_
      refine sg_put (ci := 12) (x := 6) (ty := .int) (C := RX12) (T := TX12) (N := 55) hx hb hts (fun w h => List.mem_cons_of_mem _ (gx_12 w h)) tyX12 tyX12_ok nmX12 hown hh hA hK hP hS 0 (by decide) rfl rfl 16 (by decide) (hts _ (List.mem_cons_of_mem _ mw_628)) (fun _ h9 => h9) rfl rfl (by decide +kernel) rfl rfl (Nat.le_of_ble_eq_true rfl) dX12_one_53 (fun f_97 H locs ef_97 hP hS => ?_)
      have hI : sgI loM hiM f_97 := by rw [ef_97]; exact sgI.put hI 0 16 (show 0 ≤ (6 : Int32).toInt ∧ (6 : Int32).toInt ≤ 6 from by decide)
      have hF : sgK WkX12_one_5 f f_97 := sgK.put hF ef_97 (by rfl)
      refine lv_aload_n hx hb dX12_one_56 rfl (lv_at hl 1 rfl) ?_
      refine lv_dup hx hb dX12_one_57 rfl ?_
      refine sg_get (ci := 12) (v := .int v_5) (C := RX12) (T := TX12) (N := 55) hx hb hts (fun w h => List.mem_cons_of_mem _ (gx_12 w h)) hown hK hP 0 (by decide) rfl rfl 13 (by decide) (hts _ (List.mem_cons_of_mem _ mw_625)) (fun _ h9 => h9) (congrArg (fun z => some (Value.int z)) (show f_97 0 13 = v_5 from (by rw [ef_97, sg_up_s, sgu_n (by decide)]; exact ev_5.symm))) dX12_one_58 ?_
      refine lv_iconst (v := 1) hx hb dX12_one_61 (by decide) ?_
      refine lv_iadd hx hb dX12_one_62 ?_
      refine lv_topi (fun v_98 ev_98 => ?_)
      have q_99 : v_98.toInt = v_5.toInt + 1 := by rw [ev_98]; have k1 : (1 : Int32).toInt = 1 := (by decide); exact (bn_addI (by omega) (by omega)).trans (by omega)
      refine sg_put (ci := 12) (x := v_98) (ty := .int) (C := RX12) (T := TX12) (N := 55) hx hb hts (fun w h => List.mem_cons_of_mem _ (gx_12 w h)) tyX12 tyX12_ok nmX12 hown hh hA hK hP hS 0 (by decide) rfl rfl 13 (by decide) (hts _ (List.mem_cons_of_mem _ mw_625)) (fun _ h9 => h9) rfl rfl (by decide +kernel) rfl rfl (Nat.le_of_ble_eq_true rfl) dX12_one_63 (fun f_100 H locs ef_100 hP hS => ?_)
      have hI : sgI loM hiM f_100 := by rw [ef_100]; exact sgI.put hI 0 13 (show 0 ≤ (v_98 : Int32).toInt ∧ (v_98 : Int32).toInt ≤ 120 from by omega)
      have hF : sgK WkX12_one_5 f f_100 := sgK.put hF ef_100 (by rfl)
      refine lv_iload_n hx hb dX12_one_66 rfl (lv_at hl 0 rfl) ?_
      refine lv_bipush (v := 40) hx hb dX12_one_67 (by decide) ?_
      refine lv_icmp_ne (tgt := 79) hx hb dX12_one_69 (by decide) (fun c => ?_) (fun c => ?_)
      · skip
        have c_101 : r_92.toInt ≠ 40 := (by have z := bn_ne c; have k1 : (40 : Int32).toInt = 40 := (by decide); omega)
        refine lv_aload_n hx hb dX12_one_79 rfl (lv_at hl 1 rfl) ?_
        have q_103 : (f_100 0 16).toInt = 6 := (congrArg Int32.toInt (show f_100 0 16 = 6 from (by rw [ef_100, sg_up_s, sgu_n (by decide)]; exact (by rw [ef_97, sg_up_s, sgu_s])))).trans (by decide)
        have q_104 : (f_100 0 15).toInt = v_3.toInt := (congrArg Int32.toInt (show f_100 0 15 = v_3 from (by rw [ef_100, sg_up_s, sgu_n (by decide)]; exact (by rw [ef_97, sg_up_s, sgu_n (by decide)]; exact ev_3.symm))))
        have q_105 : (f_100 0 16).toInt = 6 := (congrArg Int32.toInt (show f_100 0 16 = 6 from (by rw [ef_100, sg_up_s, sgu_n (by decide)]; exact (by rw [ef_97, sg_up_s, sgu_s])))).trans (by decide)
        have q_106 : (f_100 0 13).toInt = v_98.toInt := (congrArg Int32.toInt (show f_100 0 13 = v_98 from (by rw [ef_100, sg_up_s, sgu_s])))
        refine sg_calli (va_runV (As := []) (rest := []) ⟨hx, hb, hml, hown, hts⟩ (kX12_one_6 l D ca za h hh f_100 L Q hI (by omega) (by omega) H.size) (cwV 0 hts (gw_V (fun _ h => List.mem_cons_of_mem _ h) mw_789 mw_790 mw_791 mw_619 mw_788) rfl rfl rfl (by decide +kernel) ⟨Nat.le_of_ble_eq_true rfl, Nat.le_of_ble_eq_true rfl⟩) (sg_preV (ci := 12) (C := RX12) (T := TX12) (N := 55) hA hK hP hS hZ 0 (by decide) rfl rfl) rfl rfl hl.1 rfl (lv_room (Nat.le_of_ble_eq_true rfl)) dX12_one_80 ⟨Nat.le_refl _, Nat.le_refl _⟩) hA hS (fun r_110 f_107 L_108 Q_109 H locs hq hP hS => ?_)
        obtain ⟨⟨hI, hk_f_107, eL9, eQ9⟩, hq, p_111, p_112, p_113⟩ := hq
        rw [eL9, eQ9] at hP; clear eL9 eQ9
        have hF : sgK WkX12_one_5 f f_107 := sgK.tr hF hk_f_107 (by decide)
        obtain ⟨v_114, ev_114⟩ : ∃ z : Int32, z = f_107 0 13 := ⟨_, rfl⟩
        have q_115 : 0 ≤ v_114.toInt ∧ v_114.toInt ≤ 120 := by rw [ev_114]; exact hI 0 13
        have q_116 : (f_107 0 13).toInt = v_114.toInt := (congrArg Int32.toInt (show f_107 0 13 = v_114 from ev_114.symm))
        have q_117 : (f_107 0 16).toInt = 6 := (congrArg Int32.toInt (show f_107 0 16 = 6 from ((hk_f_107 0 16 (by decide)).trans (by rw [ef_100, sg_up_s, sgu_n (by decide)]; exact (by rw [ef_97, sg_up_s, sgu_s]))))).trans (by decide)
        obtain ⟨v_118, ev_118⟩ : ∃ z : Int32, z = f_107 0 15 := ⟨_, rfl⟩
        have q_119 : (-1) ≤ v_118.toInt ∧ v_118.toInt ≤ 120 := by rw [ev_118]; exact hI 0 15
        have q_120 : (f_107 0 15).toInt = v_118.toInt := (congrArg Int32.toInt (show f_107 0 15 = v_118 from ev_118.symm))
        have q_121 : (f_107 0 16).toInt = 6 := (congrArg Int32.toInt (show f_107 0 16 = 6 from ((hk_f_107 0 16 (by decide)).trans (by rw [ef_100, sg_up_s, sgu_n (by decide)]; exact (by rw [ef_97, sg_up_s, sgu_s]))))).trans (by decide)
        refine lv_istore_n (lv' := [(2, .int r_110), (1, .int r_92), (0, .ref (h 0))]) hx hb dX12_one_83 rfl hl (by decide) rfl (fun ls hl => ?_)
        refine lv_iload_n hx hb dX12_one_84 rfl (lv_at hl 1 rfl) ?_
        refine lv_bipush (v := 40) hx hb dX12_one_85 (by decide) ?_
        refine lv_icmp_ne (tgt := 104) hx hb dX12_one_87 (by decide) (fun c => ?_) (fun c => ?_)
        · skip
          have c_122 : r_92.toInt ≠ 40 := (by have z := bn_ne c; have k1 : (40 : Int32).toInt = 40 := (by decide); omega)
          refine lv_aload_n hx hb dX12_one_104 rfl (lv_at hl 2 rfl) ?_
          refine lv_dup hx hb dX12_one_105 rfl ?_
          refine sg_get (ci := 12) (v := .int 6) (C := RX12) (T := TX12) (N := 55) hx hb hts (fun w h => List.mem_cons_of_mem _ (gx_12 w h)) hown hK hP 0 (by decide) rfl rfl 16 (by decide) (hts _ (List.mem_cons_of_mem _ mw_628)) (fun _ h9 => h9) (congrArg (fun z => some (Value.int z)) (show f_107 0 16 = 6 from ((hk_f_107 0 16 (by decide)).trans (by rw [ef_100, sg_up_s, sgu_n (by decide)]; exact (by rw [ef_97, sg_up_s, sgu_s]))))) dX12_one_106 ?_
          refine lv_iconst (v := 1) hx hb dX12_one_109 (by decide) ?_
          refine lv_isub hx hb dX12_one_110 ?_
          refine W.eq (g2 := F0 m 111 ls [.int 5, .ref (h 0)]) (by rw [show (6 - 1 : Int32) = 5 from by decide]) ?_
          refine sg_put (ci := 12) (x := 5) (ty := .int) (C := RX12) (T := TX12) (N := 55) hx hb hts (fun w h => List.mem_cons_of_mem _ (gx_12 w h)) tyX12 tyX12_ok nmX12 hown hh hA hK hP hS 0 (by decide) rfl rfl 16 (by decide) (hts _ (List.mem_cons_of_mem _ mw_628)) (fun _ h9 => h9) rfl rfl (by decide +kernel) rfl rfl (Nat.le_of_ble_eq_true rfl) dX12_one_111 (fun f_124 H locs ef_124 hP hS => ?_)
          have hI : sgI loM hiM f_124 := by rw [ef_124]; exact sgI.put hI 0 16 (show 0 ≤ (5 : Int32).toInt ∧ (5 : Int32).toInt ≤ 6 from by decide)
          have hF : sgK WkX12_one_5 f f_124 := sgK.put hF ef_124 (by rfl)
          refine lv_iload_n hx hb dX12_one_114 rfl (lv_at hl 1 rfl) ?_
          refine lv_bipush (v := 40) hx hb dX12_one_115 (by decide) ?_
          refine lv_icmp_ne (tgt := 124) hx hb dX12_one_117 (by decide) (fun c => ?_) (fun c => ?_)
          · skip
            have c_125 : r_92.toInt ≠ 40 := (by have z := bn_ne c; have k1 : (40 : Int32).toInt = 40 := (by decide); omega)
            refine lv_iload_n hx hb dX12_one_124 rfl (lv_at hl 1 rfl) ?_
            refine lv_bipush (v := 45) hx hb dX12_one_125 (by decide) ?_
            refine lv_icmp_ne (tgt := 135) hx hb dX12_one_127 (by decide) (fun c => ?_) (fun c => ?_)
            · skip
              have c_127 : r_92.toInt ≠ 45 := (by have z := bn_ne c; have k1 : (45 : Int32).toInt = 45 := (by decide); omega)
              refine lv_iload_n hx hb dX12_one_135 rfl (lv_at hl 0 rfl) ?_
              refine lv_if_ne (tgt := 143) hx hb dX12_one_136 (by decide) (fun c => ?_) (fun c => ?_)
              · skip
                have c_129 : r_110.toInt ≠ 0 := (by have z := bn_ne c; have k1 : (0 : Int32).toInt = 0 := (by decide); omega)
                refine lv_iconst (v := 0) hx hb dX12_one_143 (by decide) ?_
                have q_131 : (f_124 0 13).toInt = v_114.toInt := (congrArg Int32.toInt (show f_124 0 13 = v_114 from (by rw [ef_124, sg_up_s, sgu_n (by decide)]; exact ev_114.symm)))
                have q_132 : (f_124 0 16).toInt = 5 := (congrArg Int32.toInt (show f_124 0 16 = 5 from (by rw [ef_124, sg_up_s, sgu_s]))).trans (by decide)
                have q_133 : (f_124 0 15).toInt = v_118.toInt := (congrArg Int32.toInt (show f_124 0 15 = v_118 from (by rw [ef_124, sg_up_s, sgu_n (by decide)]; exact ev_118.symm)))
                have q_134 : (f_124 0 16).toInt = 5 := (congrArg Int32.toInt (show f_124 0 16 = 5 from (by rw [ef_124, sg_up_s, sgu_s]))).trans (by decide)
                have k99 : (0 : Int32).toInt = 0 := (by decide)
                exact hret _ _ _ _ (0) f_124 L Q dX12_one_144 hP hS ⟨⟨hI, hF, rfl, rfl⟩, trivial, (by omega), (by omega), (by omega)⟩
              · skip
                have c_130 : r_110.toInt = 0 := (by have z := Int32.toInt_inj.mpr c; have k1 : (0 : Int32).toInt = 0 := (by decide); omega)
                refine lv_iconst (v := 1) hx hb dX12_one_139 (by decide) ?_
                refine lv_goto (tgt := 144) hx hb dX12_one_140 (by decide) ?_
                have q_135 : (f_124 0 13).toInt = v_114.toInt := (congrArg Int32.toInt (show f_124 0 13 = v_114 from (by rw [ef_124, sg_up_s, sgu_n (by decide)]; exact ev_114.symm)))
                have q_136 : (f_124 0 16).toInt = 5 := (congrArg Int32.toInt (show f_124 0 16 = 5 from (by rw [ef_124, sg_up_s, sgu_s]))).trans (by decide)
                have q_137 : (f_124 0 15).toInt = v_118.toInt := (congrArg Int32.toInt (show f_124 0 15 = v_118 from (by rw [ef_124, sg_up_s, sgu_n (by decide)]; exact ev_118.symm)))
                have q_138 : (f_124 0 16).toInt = 5 := (congrArg Int32.toInt (show f_124 0 16 = 5 from (by rw [ef_124, sg_up_s, sgu_s]))).trans (by decide)
                have k99 : (1 : Int32).toInt = 1 := (by decide)
                exact hret _ _ _ _ (1) f_124 L Q dX12_one_144 hP hS ⟨⟨hI, hF, rfl, rfl⟩, trivial, (by omega), (by omega), (by omega)⟩
            · skip
              exfalso; have c_128 : r_92.toInt = 45 := (by have z := Int32.toInt_inj.mpr c; have k1 : (45 : Int32).toInt = 45 := (by decide); omega); omega
          · skip
            exfalso; have c_126 : r_92.toInt = 40 := (by have z := Int32.toInt_inj.mpr c; have k1 : (40 : Int32).toInt = 40 := (by decide); omega); omega
        · skip
          exfalso; have c_123 : r_92.toInt = 40 := (by have z := Int32.toInt_inj.mpr c; have k1 : (40 : Int32).toInt = 40 := (by decide); omega); omega
      · skip
        exfalso; have c_102 : r_92.toInt = 40 := (by have z := Int32.toInt_inj.mpr c; have k1 : (40 : Int32).toInt = 40 := (by decide); omega); omega
    · skip
      have c_95 : r_92.toInt ≠ 33 := (by have z := bn_ne c; have k1 : (33 : Int32).toInt = 33 := (by decide); omega)
      refine lv_iload_n hx hb dX12_one_20 rfl (lv_at hl 0 rfl) ?_
      refine lv_bipush (v := 45) hx hb dX12_one_21 (by decide) ?_
      refine lv_icmp_eq (tgt := 32) hx hb dX12_one_23 (by decide) (fun c => ?_) (fun c => ?_)
      · skip
        have c_139 : r_92.toInt = 45 := (by have z := Int32.toInt_inj.mpr c; have k1 : (45 : Int32).toInt = 45 := (by decide); omega)
        refine lv_aload_n hx hb dX12_one_32 rfl (lv_at hl 1 rfl) ?_
        have c_141 : v_1 = 5 := Int32.toInt_inj.mp (by have k9 : (5 : Int32).toInt = 5 := (by decide); omega)
        refine sg_get (ci := 12) (v := .int 5) (C := RX12) (T := TX12) (N := 55) hx hb hts (fun w h => List.mem_cons_of_mem _ (gx_12 w h)) hown hK hP 0 (by decide) rfl rfl 16 (by decide) (hts _ (List.mem_cons_of_mem _ mw_628)) (fun _ h9 => h9) (congrArg (fun z => some (Value.int z)) (show f 0 16 = 5 from (Eq.trans ev_1.symm c_141))) dX12_one_33 ?_
        refine lv_bipush (v := 6) hx hb dX12_one_36 (by decide) ?_
        refine lv_icmp_ne (tgt := 46) hx hb dX12_one_38 (by decide) (fun c => ?_) (fun c => absurd c (by decide))
        refine lv_aload_n hx hb dX12_one_46 rfl (lv_at hl 1 rfl) ?_
        refine lv_dup hx hb dX12_one_47 rfl ?_
        refine sg_get (ci := 12) (v := .int 5) (C := RX12) (T := TX12) (N := 55) hx hb hts (fun w h => List.mem_cons_of_mem _ (gx_12 w h)) hown hK hP 0 (by decide) rfl rfl 16 (by decide) (hts _ (List.mem_cons_of_mem _ mw_628)) (fun _ h9 => h9) (congrArg (fun z => some (Value.int z)) (show f 0 16 = 5 from (Eq.trans ev_1.symm c_141))) dX12_one_48 ?_
        refine lv_iconst (v := 1) hx hb dX12_one_51 (by decide) ?_
        refine lv_iadd hx hb dX12_one_52 ?_
        refine W.eq (g2 := F0 m 53 ls [.int 6, .ref (h 0)]) (by rw [show (5 + 1 : Int32) = 6 from by decide]) ?_
        refine sg_put (ci := 12) (x := 6) (ty := .int) (C := RX12) (T := TX12) (N := 55) hx hb hts (fun w h => List.mem_cons_of_mem _ (gx_12 w h)) tyX12 tyX12_ok nmX12 hown hh hA hK hP hS 0 (by decide) rfl rfl 16 (by decide) (hts _ (List.mem_cons_of_mem _ mw_628)) (fun _ h9 => h9) rfl rfl (by decide +kernel) rfl rfl (Nat.le_of_ble_eq_true rfl) dX12_one_53 (fun f_142 H locs ef_142 hP hS => ?_)
        have hI : sgI loM hiM f_142 := by rw [ef_142]; exact sgI.put hI 0 16 (show 0 ≤ (6 : Int32).toInt ∧ (6 : Int32).toInt ≤ 6 from by decide)
        have hF : sgK WkX12_one_5 f f_142 := sgK.put hF ef_142 (by rfl)
        refine lv_aload_n hx hb dX12_one_56 rfl (lv_at hl 1 rfl) ?_
        refine lv_dup hx hb dX12_one_57 rfl ?_
        refine sg_get (ci := 12) (v := .int v_5) (C := RX12) (T := TX12) (N := 55) hx hb hts (fun w h => List.mem_cons_of_mem _ (gx_12 w h)) hown hK hP 0 (by decide) rfl rfl 13 (by decide) (hts _ (List.mem_cons_of_mem _ mw_625)) (fun _ h9 => h9) (congrArg (fun z => some (Value.int z)) (show f_142 0 13 = v_5 from (by rw [ef_142, sg_up_s, sgu_n (by decide)]; exact ev_5.symm))) dX12_one_58 ?_
        refine lv_iconst (v := 1) hx hb dX12_one_61 (by decide) ?_
        refine lv_iadd hx hb dX12_one_62 ?_
        refine lv_topi (fun v_143 ev_143 => ?_)
        have q_144 : v_143.toInt = v_5.toInt + 1 := by rw [ev_143]; have k1 : (1 : Int32).toInt = 1 := (by decide); exact (bn_addI (by omega) (by omega)).trans (by omega)
        refine sg_put (ci := 12) (x := v_143) (ty := .int) (C := RX12) (T := TX12) (N := 55) hx hb hts (fun w h => List.mem_cons_of_mem _ (gx_12 w h)) tyX12 tyX12_ok nmX12 hown hh hA hK hP hS 0 (by decide) rfl rfl 13 (by decide) (hts _ (List.mem_cons_of_mem _ mw_625)) (fun _ h9 => h9) rfl rfl (by decide +kernel) rfl rfl (Nat.le_of_ble_eq_true rfl) dX12_one_63 (fun f_145 H locs ef_145 hP hS => ?_)
        have hI : sgI loM hiM f_145 := by rw [ef_145]; exact sgI.put hI 0 13 (show 0 ≤ (v_143 : Int32).toInt ∧ (v_143 : Int32).toInt ≤ 120 from by omega)
        have hF : sgK WkX12_one_5 f f_145 := sgK.put hF ef_145 (by rfl)
        refine lv_iload_n hx hb dX12_one_66 rfl (lv_at hl 0 rfl) ?_
        refine lv_bipush (v := 40) hx hb dX12_one_67 (by decide) ?_
        refine lv_icmp_ne (tgt := 79) hx hb dX12_one_69 (by decide) (fun c => ?_) (fun c => ?_)
        · skip
          have c_146 : r_92.toInt ≠ 40 := (by have z := bn_ne c; have k1 : (40 : Int32).toInt = 40 := (by decide); omega)
          refine lv_aload_n hx hb dX12_one_79 rfl (lv_at hl 1 rfl) ?_
          have q_148 : (f_145 0 16).toInt = 6 := (congrArg Int32.toInt (show f_145 0 16 = 6 from (by rw [ef_145, sg_up_s, sgu_n (by decide)]; exact (by rw [ef_142, sg_up_s, sgu_s])))).trans (by decide)
          have q_149 : (f_145 0 15).toInt = v_3.toInt := (congrArg Int32.toInt (show f_145 0 15 = v_3 from (by rw [ef_145, sg_up_s, sgu_n (by decide)]; exact (by rw [ef_142, sg_up_s, sgu_n (by decide)]; exact ev_3.symm))))
          have q_150 : (f_145 0 16).toInt = 6 := (congrArg Int32.toInt (show f_145 0 16 = 6 from (by rw [ef_145, sg_up_s, sgu_n (by decide)]; exact (by rw [ef_142, sg_up_s, sgu_s])))).trans (by decide)
          have q_151 : (f_145 0 13).toInt = v_143.toInt := (congrArg Int32.toInt (show f_145 0 13 = v_143 from (by rw [ef_145, sg_up_s, sgu_s])))
          refine sg_calli (va_runV (As := []) (rest := []) ⟨hx, hb, hml, hown, hts⟩ (kX12_one_6 l D ca za h hh f_145 L Q hI (by omega) (by omega) H.size) (cwV 0 hts (gw_V (fun _ h => List.mem_cons_of_mem _ h) mw_789 mw_790 mw_791 mw_619 mw_788) rfl rfl rfl (by decide +kernel) ⟨Nat.le_of_ble_eq_true rfl, Nat.le_of_ble_eq_true rfl⟩) (sg_preV (ci := 12) (C := RX12) (T := TX12) (N := 55) hA hK hP hS hZ 0 (by decide) rfl rfl) rfl rfl hl.1 rfl (lv_room (Nat.le_of_ble_eq_true rfl)) dX12_one_80 ⟨Nat.le_refl _, Nat.le_refl _⟩) hA hS (fun r_155 f_152 L_153 Q_154 H locs hq hP hS => ?_)
          obtain ⟨⟨hI, hk_f_152, eL9, eQ9⟩, hq, p_156, p_157, p_158⟩ := hq
          rw [eL9, eQ9] at hP; clear eL9 eQ9
          have hF : sgK WkX12_one_5 f f_152 := sgK.tr hF hk_f_152 (by decide)
          obtain ⟨v_159, ev_159⟩ : ∃ z : Int32, z = f_152 0 13 := ⟨_, rfl⟩
          have q_160 : 0 ≤ v_159.toInt ∧ v_159.toInt ≤ 120 := by rw [ev_159]; exact hI 0 13
          have q_161 : (f_152 0 13).toInt = v_159.toInt := (congrArg Int32.toInt (show f_152 0 13 = v_159 from ev_159.symm))
          have q_162 : (f_152 0 16).toInt = 6 := (congrArg Int32.toInt (show f_152 0 16 = 6 from ((hk_f_152 0 16 (by decide)).trans (by rw [ef_145, sg_up_s, sgu_n (by decide)]; exact (by rw [ef_142, sg_up_s, sgu_s]))))).trans (by decide)
          obtain ⟨v_163, ev_163⟩ : ∃ z : Int32, z = f_152 0 15 := ⟨_, rfl⟩
          have q_164 : (-1) ≤ v_163.toInt ∧ v_163.toInt ≤ 120 := by rw [ev_163]; exact hI 0 15
          have q_165 : (f_152 0 15).toInt = v_163.toInt := (congrArg Int32.toInt (show f_152 0 15 = v_163 from ev_163.symm))
          have q_166 : (f_152 0 16).toInt = 6 := (congrArg Int32.toInt (show f_152 0 16 = 6 from ((hk_f_152 0 16 (by decide)).trans (by rw [ef_145, sg_up_s, sgu_n (by decide)]; exact (by rw [ef_142, sg_up_s, sgu_s]))))).trans (by decide)
          refine lv_istore_n (lv' := [(2, .int r_155), (1, .int r_92), (0, .ref (h 0))]) hx hb dX12_one_83 rfl hl (by decide) rfl (fun ls hl => ?_)
          refine lv_iload_n hx hb dX12_one_84 rfl (lv_at hl 1 rfl) ?_
          refine lv_bipush (v := 40) hx hb dX12_one_85 (by decide) ?_
          refine lv_icmp_ne (tgt := 104) hx hb dX12_one_87 (by decide) (fun c => ?_) (fun c => ?_)
          · skip
            have c_167 : r_92.toInt ≠ 40 := (by have z := bn_ne c; have k1 : (40 : Int32).toInt = 40 := (by decide); omega)
            refine lv_aload_n hx hb dX12_one_104 rfl (lv_at hl 2 rfl) ?_
            refine lv_dup hx hb dX12_one_105 rfl ?_
            refine sg_get (ci := 12) (v := .int 6) (C := RX12) (T := TX12) (N := 55) hx hb hts (fun w h => List.mem_cons_of_mem _ (gx_12 w h)) hown hK hP 0 (by decide) rfl rfl 16 (by decide) (hts _ (List.mem_cons_of_mem _ mw_628)) (fun _ h9 => h9) (congrArg (fun z => some (Value.int z)) (show f_152 0 16 = 6 from ((hk_f_152 0 16 (by decide)).trans (by rw [ef_145, sg_up_s, sgu_n (by decide)]; exact (by rw [ef_142, sg_up_s, sgu_s]))))) dX12_one_106 ?_
            refine lv_iconst (v := 1) hx hb dX12_one_109 (by decide) ?_
            refine lv_isub hx hb dX12_one_110 ?_
            refine W.eq (g2 := F0 m 111 ls [.int 5, .ref (h 0)]) (by rw [show (6 - 1 : Int32) = 5 from by decide]) ?_
            refine sg_put (ci := 12) (x := 5) (ty := .int) (C := RX12) (T := TX12) (N := 55) hx hb hts (fun w h => List.mem_cons_of_mem _ (gx_12 w h)) tyX12 tyX12_ok nmX12 hown hh hA hK hP hS 0 (by decide) rfl rfl 16 (by decide) (hts _ (List.mem_cons_of_mem _ mw_628)) (fun _ h9 => h9) rfl rfl (by decide +kernel) rfl rfl (Nat.le_of_ble_eq_true rfl) dX12_one_111 (fun f_169 H locs ef_169 hP hS => ?_)
            have hI : sgI loM hiM f_169 := by rw [ef_169]; exact sgI.put hI 0 16 (show 0 ≤ (5 : Int32).toInt ∧ (5 : Int32).toInt ≤ 6 from by decide)
            have hF : sgK WkX12_one_5 f f_169 := sgK.put hF ef_169 (by rfl)
            refine lv_iload_n hx hb dX12_one_114 rfl (lv_at hl 1 rfl) ?_
            refine lv_bipush (v := 40) hx hb dX12_one_115 (by decide) ?_
            refine lv_icmp_ne (tgt := 124) hx hb dX12_one_117 (by decide) (fun c => ?_) (fun c => ?_)
            · skip
              have c_170 : r_92.toInt ≠ 40 := (by have z := bn_ne c; have k1 : (40 : Int32).toInt = 40 := (by decide); omega)
              refine lv_iload_n hx hb dX12_one_124 rfl (lv_at hl 1 rfl) ?_
              refine lv_bipush (v := 45) hx hb dX12_one_125 (by decide) ?_
              refine lv_icmp_ne (tgt := 135) hx hb dX12_one_127 (by decide) (fun c => ?_) (fun c => ?_)
              · skip
                exfalso; have c_172 : r_92.toInt ≠ 45 := (by have z := bn_ne c; have k1 : (45 : Int32).toInt = 45 := (by decide); omega); omega
              · skip
                have c_173 : r_92.toInt = 45 := (by have z := Int32.toInt_inj.mpr c; have k1 : (45 : Int32).toInt = 45 := (by decide); omega)
                refine lv_iload_n hx hb dX12_one_130 rfl (lv_at hl 0 rfl) ?_
                refine lv_ineg hx hb dX12_one_131 ?_
                refine lv_topi (fun v_174 ev_174 => ?_)
                refine lv_goto (tgt := 144) hx hb dX12_one_132 (by decide) ?_
                have q_175 : (f_169 0 13).toInt = v_159.toInt := (congrArg Int32.toInt (show f_169 0 13 = v_159 from (by rw [ef_169, sg_up_s, sgu_n (by decide)]; exact ev_159.symm)))
                have q_176 : (f_169 0 16).toInt = 5 := (congrArg Int32.toInt (show f_169 0 16 = 5 from (by rw [ef_169, sg_up_s, sgu_s]))).trans (by decide)
                have q_177 : (f_169 0 15).toInt = v_163.toInt := (congrArg Int32.toInt (show f_169 0 15 = v_163 from (by rw [ef_169, sg_up_s, sgu_n (by decide)]; exact ev_163.symm)))
                have q_178 : (f_169 0 16).toInt = 5 := (congrArg Int32.toInt (show f_169 0 16 = 5 from (by rw [ef_169, sg_up_s, sgu_s]))).trans (by decide)
                exact hret _ _ _ _ (v_174) f_169 L Q dX12_one_144 hP hS ⟨⟨hI, hF, rfl, rfl⟩, trivial, (by omega), (by omega), (by omega)⟩
            · skip
              exfalso; have c_171 : r_92.toInt = 40 := (by have z := Int32.toInt_inj.mpr c; have k1 : (40 : Int32).toInt = 40 := (by decide); omega); omega
          · skip
            exfalso; have c_168 : r_92.toInt = 40 := (by have z := Int32.toInt_inj.mpr c; have k1 : (40 : Int32).toInt = 40 := (by decide); omega); omega
        · skip
          exfalso; have c_147 : r_92.toInt = 40 := (by have z := Int32.toInt_inj.mpr c; have k1 : (40 : Int32).toInt = 40 := (by decide); omega); omega
      · skip
        have c_140 : r_92.toInt ≠ 45 := (by have z := bn_ne c; have k1 : (45 : Int32).toInt = 45 := (by decide); omega)
        refine lv_iload_n hx hb dX12_one_26 rfl (lv_at hl 0 rfl) ?_
        refine lv_bipush (v := 40) hx hb dX12_one_27 (by decide) ?_
        refine lv_icmp_ne (tgt := 145) hx hb dX12_one_29 (by decide) (fun c => ?_) (fun c => ?_)
        · skip
          have c_179 : r_92.toInt ≠ 40 := (by have z := bn_ne c; have k1 : (40 : Int32).toInt = 40 := (by decide); omega)
          refine lv_iload_n hx hb dX12_one_145 rfl (lv_at hl 0 rfl) ?_
          refine sg_calli (va_runS (As := [.int r_92]) (rest := []) ⟨hx, hb, hml, hown, hts⟩ (kX12_nameOf l D ca za h hh f L Q hI r_92 (by omega) H.size) (va_cwS 1 hts (gw_S (fun _ h => List.mem_cons_of_mem _ h) mw_869 mw_870 mw_619 mw_868) rfl rfl rfl (by decide +kernel) ⟨Nat.le_of_ble_eq_true rfl, Nat.le_of_ble_eq_true rfl⟩) (sg_preS hA hK hP hS hZ) rfl rfl hl.1 rfl (lv_room (Nat.le_of_ble_eq_true rfl)) dX12_one_146 ⟨Nat.le_refl _, Nat.le_refl _⟩) hA hS (fun r_184 f_181 L_182 Q_183 H locs hq hP hS => ?_)
          obtain ⟨⟨ef9, eL9, eQ9⟩, hq, p_185⟩ := hq
          rw [ef9, eL9, eQ9] at hP; clear ef9 eL9 eQ9
          refine lv_istore_n (lv' := [(2, .int r_184), (1, .int r_92), (0, .ref (h 0))]) hx hb dX12_one_149 rfl hl (by decide) rfl (fun ls hl => ?_)
          refine lv_iload_n hx hb dX12_one_150 rfl (lv_at hl 0 rfl) ?_
          refine lv_if_lt (tgt := 171) hx hb dX12_one_151 (by decide) (fun c => ?_) (fun c => ?_)
          · skip
            have c_186 : r_184.toInt < 0 := (by have z := bn_lt c; have k1 : (0 : Int32).toInt = 0 := (by decide); omega)
            refine lv_iconst (v := 0) hx hb dX12_one_171 (by decide) ?_
            refine lv_istore_n (lv' := [(3, .int 0), (2, .int r_184), (1, .int r_92), (0, .ref (h 0))]) hx hb dX12_one_172 rfl hl (by decide) rfl (fun ls hl => ?_)
            refine lv_iconst (v := 0) hx hb dX12_one_173 (by decide) ?_
            refine lv_istore (lv' := [(4, .int 0), (3, .int 0), (2, .int r_184), (1, .int r_92), (0, .ref (h 0))]) hx hb dX12_one_174 hl (by decide) rfl (fun ls hl => ?_)
            exact loop_176 5 0 0 f _ _ _ (by have kc0 : (0 : Int32).toInt = 0 := (by decide); have kc1 : (0 : Int32).toInt = 0 := (by decide); omega) (by have zz0_15 : (f 0 15).toInt = v_3.toInt := (congrArg Int32.toInt (show f 0 15 = v_3 from ev_3.symm)); omega) (by decide) (by have kc0 : (0 : Int32).toInt = 0 := (by decide); have kc1 : (0 : Int32).toInt = 0 := (by decide); have zz0_13 : (f 0 13).toInt = v_5.toInt := (congrArg Int32.toInt (show f 0 13 = v_5 from ev_5.symm)); omega) (by have kc0 : (0 : Int32).toInt = 0 := (by decide); have kc1 : (0 : Int32).toInt = 0 := (by decide); have zz0_16 : (f 0 16).toInt = v_1.toInt := (congrArg Int32.toInt (show f 0 16 = v_1 from ev_1.symm)); omega) (by have kc0 : (0 : Int32).toInt = 0 := (by decide); have kc1 : (0 : Int32).toInt = 0 := (by decide); have zz0_15 : (f 0 15).toInt = v_3.toInt := (congrArg Int32.toInt (show f 0 15 = v_3 from ev_3.symm)); have zz0_16 : (f 0 16).toInt = v_1.toInt := (congrArg Int32.toInt (show f 0 16 = v_1 from ev_1.symm)); omega) hI hF hP hS (lv_sub hl [4, 1, 0] rfl)
          · skip
            have c_187 : 0 ≤ r_184.toInt := (by have z := bn_nlt c; have k1 : (0 : Int32).toInt = 0 := (by decide); omega)
            refine lv_aload_n hx hb dX12_one_154 rfl (lv_at hl 2 rfl) ?_
            refine lv_dup hx hb dX12_one_155 rfl ?_
            refine sg_get (ci := 12) (v := .int v_5) (C := RX12) (T := TX12) (N := 55) hx hb hts (fun w h => List.mem_cons_of_mem _ (gx_12 w h)) hown hK hP 0 (by decide) rfl rfl 13 (by decide) (hts _ (List.mem_cons_of_mem _ mw_625)) (fun _ h9 => h9) (congrArg (fun z => some (Value.int z)) (show f 0 13 = v_5 from ev_5.symm)) dX12_one_156 ?_
            refine lv_iconst (v := 1) hx hb dX12_one_159 (by decide) ?_
            refine lv_iadd hx hb dX12_one_160 ?_
            refine lv_topi (fun v_188 ev_188 => ?_)
            have q_189 : v_188.toInt = v_5.toInt + 1 := by rw [ev_188]; have k1 : (1 : Int32).toInt = 1 := (by decide); exact (bn_addI (by omega) (by omega)).trans (by omega)
            refine sg_put (ci := 12) (x := v_188) (ty := .int) (C := RX12) (T := TX12) (N := 55) hx hb hts (fun w h => List.mem_cons_of_mem _ (gx_12 w h)) tyX12 tyX12_ok nmX12 hown hh hA hK hP hS 0 (by decide) rfl rfl 13 (by decide) (hts _ (List.mem_cons_of_mem _ mw_625)) (fun _ h9 => h9) rfl rfl (by decide +kernel) rfl rfl (Nat.le_of_ble_eq_true rfl) dX12_one_161 (fun f_190 H locs ef_190 hP hS => ?_)
            have hI : sgI loM hiM f_190 := by rw [ef_190]; exact sgI.put hI 0 13 (show 0 ≤ (v_188 : Int32).toInt ∧ (v_188 : Int32).toInt ≤ 120 from by omega)
            have hF : sgK WkX12_one_5 f f_190 := sgK.put hF ef_190 (by rfl)
            refine lv_aload_n hx hb dX12_one_164 rfl (lv_at hl 2 rfl) ?_
            refine sg_get (ci := 12) (v := .ref (h 8)) (C := RX12) (T := TX12) (N := 55) hx hb hts (fun w h => List.mem_cons_of_mem _ (gx_12 w h)) hown hK hP 0 (by decide) rfl rfl 17 (by decide) (hts _ (List.mem_cons_of_mem _ mw_871)) (fun _ h9 => h9) rfl dX12_one_165 ?_
            refine lv_iload_n hx hb dX12_one_168 rfl (lv_at hl 0 rfl) ?_
            refine sg_iald hx hb hK hP 8 (by decide) 0 rfl rfl (i := r_184) (vp_in_iff.mpr ⟨by omega, by omega⟩) dX12_one_169 ?_
            refine lv_topi (fun v_191 ev_191 => ?_)
            have q_192 : 0 ≤ v_191.toInt ∧ v_191.toInt ≤ 60 := by rw [ev_191]; exact hI 8 _
            have q_193 : (f_190 0 13).toInt = v_188.toInt := (congrArg Int32.toInt (show f_190 0 13 = v_188 from (by rw [ef_190, sg_up_s, sgu_s])))
            have q_194 : (f_190 0 16).toInt = v_1.toInt := (congrArg Int32.toInt (show f_190 0 16 = v_1 from (by rw [ef_190, sg_up_s, sgu_n (by decide)]; exact ev_1.symm)))
            have q_195 : (f_190 0 15).toInt = v_3.toInt := (congrArg Int32.toInt (show f_190 0 15 = v_3 from (by rw [ef_190, sg_up_s, sgu_n (by decide)]; exact ev_3.symm)))
            have q_196 : (f_190 0 16).toInt = v_1.toInt := (congrArg Int32.toInt (show f_190 0 16 = v_1 from (by rw [ef_190, sg_up_s, sgu_n (by decide)]; exact ev_1.symm)))
            exact hret _ _ _ _ (v_191) f_190 L Q dX12_one_170 hP hS ⟨⟨hI, hF, rfl, rfl⟩, trivial, (by omega), (by omega), (by omega)⟩
        · skip
          have c_180 : r_92.toInt = 40 := (by have z := Int32.toInt_inj.mpr c; have k1 : (40 : Int32).toInt = 40 := (by decide); omega)
          refine lv_aload_n hx hb dX12_one_32 rfl (lv_at hl 1 rfl) ?_
          have c_197 : v_1 = 5 := Int32.toInt_inj.mp (by have k9 : (5 : Int32).toInt = 5 := (by decide); omega)
          refine sg_get (ci := 12) (v := .int 5) (C := RX12) (T := TX12) (N := 55) hx hb hts (fun w h => List.mem_cons_of_mem _ (gx_12 w h)) hown hK hP 0 (by decide) rfl rfl 16 (by decide) (hts _ (List.mem_cons_of_mem _ mw_628)) (fun _ h9 => h9) (congrArg (fun z => some (Value.int z)) (show f 0 16 = 5 from (Eq.trans ev_1.symm c_197))) dX12_one_33 ?_
          refine lv_bipush (v := 6) hx hb dX12_one_36 (by decide) ?_
          refine lv_icmp_ne (tgt := 46) hx hb dX12_one_38 (by decide) (fun c => ?_) (fun c => absurd c (by decide))
          refine lv_aload_n hx hb dX12_one_46 rfl (lv_at hl 1 rfl) ?_
          refine lv_dup hx hb dX12_one_47 rfl ?_
          refine sg_get (ci := 12) (v := .int 5) (C := RX12) (T := TX12) (N := 55) hx hb hts (fun w h => List.mem_cons_of_mem _ (gx_12 w h)) hown hK hP 0 (by decide) rfl rfl 16 (by decide) (hts _ (List.mem_cons_of_mem _ mw_628)) (fun _ h9 => h9) (congrArg (fun z => some (Value.int z)) (show f 0 16 = 5 from (Eq.trans ev_1.symm c_197))) dX12_one_48 ?_
          refine lv_iconst (v := 1) hx hb dX12_one_51 (by decide) ?_
          refine lv_iadd hx hb dX12_one_52 ?_
          refine W.eq (g2 := F0 m 53 ls [.int 6, .ref (h 0)]) (by rw [show (5 + 1 : Int32) = 6 from by decide]) ?_
          refine sg_put (ci := 12) (x := 6) (ty := .int) (C := RX12) (T := TX12) (N := 55) hx hb hts (fun w h => List.mem_cons_of_mem _ (gx_12 w h)) tyX12 tyX12_ok nmX12 hown hh hA hK hP hS 0 (by decide) rfl rfl 16 (by decide) (hts _ (List.mem_cons_of_mem _ mw_628)) (fun _ h9 => h9) rfl rfl (by decide +kernel) rfl rfl (Nat.le_of_ble_eq_true rfl) dX12_one_53 (fun f_198 H locs ef_198 hP hS => ?_)
          have hI : sgI loM hiM f_198 := by rw [ef_198]; exact sgI.put hI 0 16 (show 0 ≤ (6 : Int32).toInt ∧ (6 : Int32).toInt ≤ 6 from by decide)
          have hF : sgK WkX12_one_5 f f_198 := sgK.put hF ef_198 (by rfl)
          refine lv_aload_n hx hb dX12_one_56 rfl (lv_at hl 1 rfl) ?_
          refine lv_dup hx hb dX12_one_57 rfl ?_
          refine sg_get (ci := 12) (v := .int v_5) (C := RX12) (T := TX12) (N := 55) hx hb hts (fun w h => List.mem_cons_of_mem _ (gx_12 w h)) hown hK hP 0 (by decide) rfl rfl 13 (by decide) (hts _ (List.mem_cons_of_mem _ mw_625)) (fun _ h9 => h9) (congrArg (fun z => some (Value.int z)) (show f_198 0 13 = v_5 from (by rw [ef_198, sg_up_s, sgu_n (by decide)]; exact ev_5.symm))) dX12_one_58 ?_
          refine lv_iconst (v := 1) hx hb dX12_one_61 (by decide) ?_
          refine lv_iadd hx hb dX12_one_62 ?_
          refine lv_topi (fun v_199 ev_199 => ?_)
          have q_200 : v_199.toInt = v_5.toInt + 1 := by rw [ev_199]; have k1 : (1 : Int32).toInt = 1 := (by decide); exact (bn_addI (by omega) (by omega)).trans (by omega)
          refine sg_put (ci := 12) (x := v_199) (ty := .int) (C := RX12) (T := TX12) (N := 55) hx hb hts (fun w h => List.mem_cons_of_mem _ (gx_12 w h)) tyX12 tyX12_ok nmX12 hown hh hA hK hP hS 0 (by decide) rfl rfl 13 (by decide) (hts _ (List.mem_cons_of_mem _ mw_625)) (fun _ h9 => h9) rfl rfl (by decide +kernel) rfl rfl (Nat.le_of_ble_eq_true rfl) dX12_one_63 (fun f_201 H locs ef_201 hP hS => ?_)
          have hI : sgI loM hiM f_201 := by rw [ef_201]; exact sgI.put hI 0 13 (show 0 ≤ (v_199 : Int32).toInt ∧ (v_199 : Int32).toInt ≤ 120 from by omega)
          have hF : sgK WkX12_one_5 f f_201 := sgK.put hF ef_201 (by rfl)
          refine lv_iload_n hx hb dX12_one_66 rfl (lv_at hl 0 rfl) ?_
          refine lv_bipush (v := 40) hx hb dX12_one_67 (by decide) ?_
          refine lv_icmp_ne (tgt := 79) hx hb dX12_one_69 (by decide) (fun c => ?_) (fun c => ?_)
          · skip
            exfalso; have c_202 : r_92.toInt ≠ 40 := (by have z := bn_ne c; have k1 : (40 : Int32).toInt = 40 := (by decide); omega); omega
          · skip
            have c_203 : r_92.toInt = 40 := (by have z := Int32.toInt_inj.mpr c; have k1 : (40 : Int32).toInt = 40 := (by decide); omega)
            refine lv_aload_n hx hb dX12_one_72 rfl (lv_at hl 1 rfl) ?_
            have q_204 : (f_201 0 16).toInt = 6 := (congrArg Int32.toInt (show f_201 0 16 = 6 from (by rw [ef_201, sg_up_s, sgu_n (by decide)]; exact (by rw [ef_198, sg_up_s, sgu_s])))).trans (by decide)
            have q_205 : (f_201 0 15).toInt = v_3.toInt := (congrArg Int32.toInt (show f_201 0 15 = v_3 from (by rw [ef_201, sg_up_s, sgu_n (by decide)]; exact (by rw [ef_198, sg_up_s, sgu_n (by decide)]; exact ev_3.symm))))
            have q_206 : (f_201 0 16).toInt = 6 := (congrArg Int32.toInt (show f_201 0 16 = 6 from (by rw [ef_201, sg_up_s, sgu_n (by decide)]; exact (by rw [ef_198, sg_up_s, sgu_s])))).trans (by decide)
            have q_207 : (f_201 0 13).toInt = v_199.toInt := (congrArg Int32.toInt (show f_201 0 13 = v_199 from (by rw [ef_201, sg_up_s, sgu_s])))
            refine sg_calli (va_runV (As := []) (rest := []) ⟨hx, hb, hml, hown, hts⟩ (kX12_either_6 l D ca za h hh f_201 L Q hI (by omega) (by omega) H.size) (cwV 0 hts (gw_V (fun _ h => List.mem_cons_of_mem _ h) mw_893 mw_894 mw_895 mw_619 mw_892) rfl rfl rfl (by decide +kernel) ⟨Nat.le_of_ble_eq_true rfl, Nat.le_of_ble_eq_true rfl⟩) (sg_preV (ci := 12) (C := RX12) (T := TX12) (N := 55) hA hK hP hS hZ 0 (by decide) rfl rfl) rfl rfl hl.1 rfl (lv_room (Nat.le_of_ble_eq_true rfl)) dX12_one_73 ⟨Nat.le_refl _, Nat.le_refl _⟩) hA hS (fun r_211 f_208 L_209 Q_210 H locs hq hP hS => ?_)
            obtain ⟨⟨hI, hk_f_208, eL9, eQ9⟩, hq, p_212, p_213, p_214⟩ := hq
            rw [eL9, eQ9] at hP; clear eL9 eQ9
            have hF : sgK WkX12_one_5 f f_208 := sgK.tr hF hk_f_208 (by decide)
            obtain ⟨v_215, ev_215⟩ : ∃ z : Int32, z = f_208 0 13 := ⟨_, rfl⟩
            have q_216 : 0 ≤ v_215.toInt ∧ v_215.toInt ≤ 120 := by rw [ev_215]; exact hI 0 13
            have q_217 : (f_208 0 13).toInt = v_215.toInt := (congrArg Int32.toInt (show f_208 0 13 = v_215 from ev_215.symm))
            have q_218 : (f_208 0 16).toInt = 6 := (congrArg Int32.toInt (show f_208 0 16 = 6 from ((hk_f_208 0 16 (by decide)).trans (by rw [ef_201, sg_up_s, sgu_n (by decide)]; exact (by rw [ef_198, sg_up_s, sgu_s]))))).trans (by decide)
            obtain ⟨v_219, ev_219⟩ : ∃ z : Int32, z = f_208 0 15 := ⟨_, rfl⟩
            have q_220 : (-1) ≤ v_219.toInt ∧ v_219.toInt ≤ 120 := by rw [ev_219]; exact hI 0 15
            have q_221 : (f_208 0 15).toInt = v_219.toInt := (congrArg Int32.toInt (show f_208 0 15 = v_219 from ev_219.symm))
            have q_222 : (f_208 0 16).toInt = 6 := (congrArg Int32.toInt (show f_208 0 16 = 6 from ((hk_f_208 0 16 (by decide)).trans (by rw [ef_201, sg_up_s, sgu_n (by decide)]; exact (by rw [ef_198, sg_up_s, sgu_s]))))).trans (by decide)
            refine lv_goto (tgt := 83) hx hb dX12_one_76 (by decide) ?_
            refine lv_istore_n (lv' := [(2, .int r_211), (1, .int r_92), (0, .ref (h 0))]) hx hb dX12_one_83 rfl hl (by decide) rfl (fun ls hl => ?_)
            refine lv_iload_n hx hb dX12_one_84 rfl (lv_at hl 1 rfl) ?_
            refine lv_bipush (v := 40) hx hb dX12_one_85 (by decide) ?_
            refine lv_icmp_ne (tgt := 104) hx hb dX12_one_87 (by decide) (fun c => ?_) (fun c => ?_)
            · skip
              exfalso; have c_223 : r_92.toInt ≠ 40 := (by have z := bn_ne c; have k1 : (40 : Int32).toInt = 40 := (by decide); omega); omega
            · skip
              have c_224 : r_92.toInt = 40 := (by have z := Int32.toInt_inj.mpr c; have k1 : (40 : Int32).toInt = 40 := (by decide); omega)
              refine lv_aload_n hx hb dX12_one_90 rfl (lv_at hl 2 rfl) ?_
              refine lv_bipush (v := 41) hx hb dX12_one_91 (by decide) ?_
              have q_225 : (f_208 0 15).toInt = v_219.toInt := (congrArg Int32.toInt (show f_208 0 15 = v_219 from ev_219.symm))
              have q_226 : (f_208 0 13).toInt = v_215.toInt := (congrArg Int32.toInt (show f_208 0 13 = v_215 from ev_215.symm))
              have q_227 : (f_208 0 14).toInt = v_86.toInt := (congrArg Int32.toInt (show f_208 0 14 = v_86 from ((hk_f_208 0 14 (by decide)).trans (by rw [ef_201, sg_up_s, sgu_n (by decide)]; exact (by rw [ef_198, sg_up_s, sgu_n (by decide)]; exact ev_86.symm)))))
              have q_228 : (f_208 0 13).toInt = v_215.toInt := (congrArg Int32.toInt (show f_208 0 13 = v_215 from ev_215.symm))
              have q_229 : (f_208 0 13).toInt = v_215.toInt := (congrArg Int32.toInt (show f_208 0 13 = v_215 from ev_215.symm))
              refine sg_calli (va_runV (As := [.int 41]) (rest := []) ⟨hx, hb, hml, hown, hts⟩ (kX12_takes_41 l D ca za h hh f_208 L Q hI H.size) (cwV 1 hts (gw_V (fun _ h => List.mem_cons_of_mem _ h) mw_877 mw_878 mw_879 mw_619 mw_876) rfl rfl rfl (by decide +kernel) ⟨Nat.le_of_ble_eq_true rfl, Nat.le_of_ble_eq_true rfl⟩) (sg_preV (ci := 12) (C := RX12) (T := TX12) (N := 55) hA hK hP hS hZ 0 (by decide) rfl rfl) rfl rfl hl.1 rfl (lv_room (Nat.le_of_ble_eq_true rfl)) dX12_one_93 ⟨Nat.le_refl _, Nat.le_refl _⟩) hA hS (fun r_233 f_230 L_231 Q_232 H locs hq hP hS => ?_)
              obtain ⟨⟨hI, hk_f_230, eL9, eQ9⟩, hq⟩ := hq
              rw [eL9, eQ9] at hP; clear eL9 eQ9
              have hF : sgK WkX12_one_5 f f_230 := sgK.tr hF hk_f_230 (by decide)
              obtain ⟨v_234, ev_234⟩ : ∃ z : Int32, z = f_230 0 13 := ⟨_, rfl⟩
              have q_235 : 0 ≤ v_234.toInt ∧ v_234.toInt ≤ 120 := by rw [ev_234]; exact hI 0 13
              have q_236 : (f_230 0 13).toInt = v_234.toInt := (congrArg Int32.toInt (show f_230 0 13 = v_234 from ev_234.symm))
              have q_237 : (f_230 0 13).toInt = v_234.toInt := (congrArg Int32.toInt (show f_230 0 13 = v_234 from ev_234.symm))
              have k_238 : (41 : Int32).toInt = 41 := by decide
              rcases hq with ⟨rfl, hq⟩ | ⟨rfl, hq⟩
              · skip
                have q_239 := hq
                refine lv_if_ne (tgt := 104) hx hb dX12_one_96 (by decide) (fun c => ?_) (fun c => absurd c (by decide))
                refine lv_aload_n hx hb dX12_one_104 rfl (lv_at hl 2 rfl) ?_
                refine lv_dup hx hb dX12_one_105 rfl ?_
                refine sg_get (ci := 12) (v := .int 6) (C := RX12) (T := TX12) (N := 55) hx hb hts (fun w h => List.mem_cons_of_mem _ (gx_12 w h)) hown hK hP 0 (by decide) rfl rfl 16 (by decide) (hts _ (List.mem_cons_of_mem _ mw_628)) (fun _ h9 => h9) (congrArg (fun z => some (Value.int z)) (show f_230 0 16 = 6 from ((hk_f_230 0 16 (by decide)).trans ((hk_f_208 0 16 (by decide)).trans (by rw [ef_201, sg_up_s, sgu_n (by decide)]; exact (by rw [ef_198, sg_up_s, sgu_s])))))) dX12_one_106 ?_
                refine lv_iconst (v := 1) hx hb dX12_one_109 (by decide) ?_
                refine lv_isub hx hb dX12_one_110 ?_
                refine W.eq (g2 := F0 m 111 ls [.int 5, .ref (h 0)]) (by rw [show (6 - 1 : Int32) = 5 from by decide]) ?_
                refine sg_put (ci := 12) (x := 5) (ty := .int) (C := RX12) (T := TX12) (N := 55) hx hb hts (fun w h => List.mem_cons_of_mem _ (gx_12 w h)) tyX12 tyX12_ok nmX12 hown hh hA hK hP hS 0 (by decide) rfl rfl 16 (by decide) (hts _ (List.mem_cons_of_mem _ mw_628)) (fun _ h9 => h9) rfl rfl (by decide +kernel) rfl rfl (Nat.le_of_ble_eq_true rfl) dX12_one_111 (fun f_240 H locs ef_240 hP hS => ?_)
                have hI : sgI loM hiM f_240 := by rw [ef_240]; exact sgI.put hI 0 16 (show 0 ≤ (5 : Int32).toInt ∧ (5 : Int32).toInt ≤ 6 from by decide)
                have hF : sgK WkX12_one_5 f f_240 := sgK.put hF ef_240 (by rfl)
                refine lv_iload_n hx hb dX12_one_114 rfl (lv_at hl 1 rfl) ?_
                refine lv_bipush (v := 40) hx hb dX12_one_115 (by decide) ?_
                refine lv_icmp_ne (tgt := 124) hx hb dX12_one_117 (by decide) (fun c => ?_) (fun c => ?_)
                · skip
                  exfalso; have c_241 : r_92.toInt ≠ 40 := (by have z := bn_ne c; have k1 : (40 : Int32).toInt = 40 := (by decide); omega); omega
                · skip
                  have c_242 : r_92.toInt = 40 := (by have z := Int32.toInt_inj.mpr c; have k1 : (40 : Int32).toInt = 40 := (by decide); omega)
                  refine lv_iload_n hx hb dX12_one_120 rfl (lv_at hl 0 rfl) ?_
                  refine lv_goto (tgt := 144) hx hb dX12_one_121 (by decide) ?_
                  have q_243 : (f_240 0 13).toInt = v_234.toInt := (congrArg Int32.toInt (show f_240 0 13 = v_234 from (by rw [ef_240, sg_up_s, sgu_n (by decide)]; exact ev_234.symm)))
                  have q_244 : (f_240 0 16).toInt = 5 := (congrArg Int32.toInt (show f_240 0 16 = 5 from (by rw [ef_240, sg_up_s, sgu_s]))).trans (by decide)
                  have q_245 : (f_240 0 15).toInt = v_219.toInt := (congrArg Int32.toInt (show f_240 0 15 = v_219 from (by rw [ef_240, sg_up_s, sgu_n (by decide)]; exact ((hk_f_230 0 15 (by decide)).trans ev_219.symm))))
                  have q_246 : (f_240 0 16).toInt = 5 := (congrArg Int32.toInt (show f_240 0 16 = 5 from (by rw [ef_240, sg_up_s, sgu_s]))).trans (by decide)
                  exact hret _ _ _ _ (r_211) f_240 L Q dX12_one_144 hP hS ⟨⟨hI, hF, rfl, rfl⟩, trivial, (by omega), (by omega), (by omega)⟩
              · skip
                have q_247 := hq
                refine lv_if_ne (tgt := 104) hx hb dX12_one_96 (by decide) (fun c => absurd c (by decide)) (fun c => ?_)
                refine lv_aload_n hx hb dX12_one_99 rfl (lv_at hl 2 rfl) ?_
                refine sg_calli (va_runV (As := []) (rest := []) ⟨hx, hb, hml, hown, hts⟩ (kX12_wrong l D ca za h hh f_230 L Q hI H.size) (cwV 0 hts (gw_V (fun _ h => List.mem_cons_of_mem _ h) mw_889 mw_890 mw_891 mw_619 mw_888) rfl rfl rfl (by decide +kernel) ⟨Nat.le_of_ble_eq_true rfl, Nat.le_of_ble_eq_true rfl⟩) (sg_preV (ci := 12) (C := RX12) (T := TX12) (N := 55) hA hK hP hS hZ 0 (by decide) rfl rfl) rfl rfl hl.1 rfl (lv_room (Nat.le_of_ble_eq_true rfl)) dX12_one_100 ⟨Nat.le_refl _, Nat.le_refl _⟩) hA hS (fun r_251 f_248 L_249 Q_250 H locs hq hP hS => ?_)
                obtain ⟨⟨hI, hk_f_248, eL9, eQ9⟩, hq, p_252⟩ := hq
                rw [eL9, eQ9] at hP; clear eL9 eQ9
                have hF : sgK WkX12_one_5 f f_248 := sgK.tr hF hk_f_248 (by decide)
                obtain ⟨v_253, ev_253⟩ : ∃ z : Int32, z = f_248 0 15 := ⟨_, rfl⟩
                have q_254 : (-1) ≤ v_253.toInt ∧ v_253.toInt ≤ 120 := by rw [ev_253]; exact hI 0 15
                have q_255 : (f_248 0 15).toInt = v_253.toInt := (congrArg Int32.toInt (show f_248 0 15 = v_253 from ev_253.symm))
                obtain rfl : r_251 = 0 := Int32.toInt_inj.mp (by have k9 : (0 : Int32).toInt = 0 := (by decide); omega)
                have q_256 : (f_248 0 13).toInt = v_234.toInt := (congrArg Int32.toInt (show f_248 0 13 = v_234 from ((hk_f_248 0 13 (by decide)).trans ev_234.symm)))
                have q_257 : (f_248 0 16).toInt = 6 := (congrArg Int32.toInt (show f_248 0 16 = 6 from ((hk_f_248 0 16 (by decide)).trans ((hk_f_230 0 16 (by decide)).trans ((hk_f_208 0 16 (by decide)).trans (by rw [ef_201, sg_up_s, sgu_n (by decide)]; exact (by rw [ef_198, sg_up_s, sgu_s]))))))).trans (by decide)
                have q_258 : (f_248 0 15).toInt = v_253.toInt := (congrArg Int32.toInt (show f_248 0 15 = v_253 from ev_253.symm))
                have q_259 : (f_248 0 16).toInt = 6 := (congrArg Int32.toInt (show f_248 0 16 = 6 from ((hk_f_248 0 16 (by decide)).trans ((hk_f_230 0 16 (by decide)).trans ((hk_f_208 0 16 (by decide)).trans (by rw [ef_201, sg_up_s, sgu_n (by decide)]; exact (by rw [ef_198, sg_up_s, sgu_s]))))))).trans (by decide)
                have k99 : (0 : Int32).toInt = 0 := (by decide)
                exact hret _ _ _ _ (0) f_248 L Q dX12_one_103 hP hS ⟨⟨hI, hF, rfl, rfl⟩, trivial, (by omega), (by omega), (by omega)⟩
  · skip
    have c_84 : 0 ≤ v_3.toInt := (by have z := bn_nlt c; have k1 : (0 : Int32).toInt = 0 := (by decide); omega)
    refine lv_iconst (v := 0) hx hb dX12_one_7 (by decide) ?_
    have q_260 : (f 0 13).toInt = v_5.toInt := (congrArg Int32.toInt (show f 0 13 = v_5 from ev_5.symm))
    have q_261 : (f 0 16).toInt = v_1.toInt := (congrArg Int32.toInt (show f 0 16 = v_1 from ev_1.symm))
    have q_262 : (f 0 15).toInt = v_3.toInt := (congrArg Int32.toInt (show f 0 15 = v_3 from ev_3.symm))
    have q_263 : (f 0 16).toInt = v_1.toInt := (congrArg Int32.toInt (show f 0 16 = v_1 from ev_1.symm))
    have k99 : (0 : Int32).toInt = 0 := (by decide)
    exact hret _ _ _ _ (0) f L Q dX12_one_8 hP hS ⟨⟨hI, hF, rfl, rfl⟩, trivial, (by omega), (by omega), (by omega)⟩

abbrev WkX12_product_5 : List (Nat × Nat × Option Nat) := [(0, 0, some 13), (0, 0, some 15), (0, 0, some 16)]
set_option maxHeartbeats 4000000 in
set_option maxRecDepth 100000 in
theorem kX12_product_5 (l : Launch) (D : va_G) (ca : Nat → ClassId) (za h : Nat → Nat) (hh : sgH 26 h) (f : sg_F) (L : sg_L) (Q : sg_Q) (hI : sgI loM hiM f) (p0 : 5 ≤ (f 0 16).toInt) (p1 : 0 ≤ (f 0 15).toInt ∨ (f 0 16).toInt = 5) (sz : Nat) : Met l yX12_product gwX12_product { frames := 8, cells := 0, slots := 0, locals := 181 } (sgP D vwCl (tyX ca) 26 h (eM ca h) zcM za f L Q sz [.ref (h 0)]) (sgQi D vwCl 26 h (eM ca h) sz (fun r f1 L1 Q1 => ((sgI loM hiM f1 ∧ sgK WkX12_product_5 f f1 ∧ L1 = L ∧ Q1 = Q) ∧ True ∧ ((f 0 13).toInt ≤ (f1 0 13).toInt) ∧ (5 ≤ (f1 0 16).toInt) ∧ (0 ≤ (f1 0 15).toInt ∨ (f1 0 16).toInt = 5)))) 0 0 (sgA 26 h sz) := by
  refine sg_ofWi (cc := cX12_product) (maxL := 4) RX12 (by decide) rfl rfl (Nat.le_of_ble_eq_true rfl) ?_
  intro p e s m below meth cd Qz ls hx hb hml hown hts hK hZ hP hS hl hret
  have hA := sgY.self (n := 26) (h := h) (sz := s.heap.size)
  have hl : lv_has ls 4 [(0, .ref (h 0))] := hl
  obtain ⟨H, hH⟩ : ∃ z : Heap, z = s.heap := ⟨_, rfl⟩
  obtain ⟨locs, hlo⟩ : ∃ z : List Loc, z = [] := ⟨_, rfl⟩
  have hP : va_P D vwCl (sgw 26 h (eM ca h) f L Q) H := by rw [hH]; exact hP
  have hS : va_S (sgA 26 h s.heap.size) s.heap H locs := by rw [hH, hlo]; exact hS
  suffices hgo : W p l e ({ frames := 8, cells := 0, slots := 0, locals := 181 }) s m ([.ref (h 0)] : List Value).toArray below meth cd H locs 0 0 Qz (F0 m 0 ls []) by rw [hH, hlo] at hgo; exact hgo
  clear hH hlo
  obtain ⟨v_1, ev_1⟩ : ∃ z : Int32, z = f 0 16 := ⟨_, rfl⟩
  have q_2 : 0 ≤ v_1.toInt ∧ v_1.toInt ≤ 6 := by rw [ev_1]; exact hI 0 16
  obtain ⟨v_3, ev_3⟩ : ∃ z : Int32, z = f 0 15 := ⟨_, rfl⟩
  have q_4 : (-1) ≤ v_3.toInt ∧ v_3.toInt ≤ 120 := by rw [ev_3]; exact hI 0 15
  obtain ⟨v_5, ev_5⟩ : ∃ z : Int32, z = f 0 13 := ⟨_, rfl⟩
  have q_6 : 0 ≤ v_5.toInt ∧ v_5.toInt ≤ 120 := by rw [ev_5]; exact hI 0 13
  obtain ⟨v_7, ev_7⟩ : ∃ z : Int32, z = f 0 14 := ⟨_, rfl⟩
  have q_8 : 0 ≤ v_7.toInt ∧ v_7.toInt ≤ 120 := by rw [ev_7]; exact hI 0 14
  have o_9 : (f 0 16).toInt = v_1.toInt := (congrArg Int32.toInt (show f 0 16 = v_1 from ev_1.symm))
  have o_10 : (f 0 15).toInt = v_3.toInt := (congrArg Int32.toInt (show f 0 15 = v_3 from ev_3.symm))
  have o_11 : (f 0 13).toInt = v_5.toInt := (congrArg Int32.toInt (show f 0 13 = v_5 from ev_5.symm))
  have o_12 : (f 0 14).toInt = v_7.toInt := (congrArg Int32.toInt (show f 0 14 = v_7 from ev_7.symm))
  have hF : sgK WkX12_product_5 f f := sgK.rf
  have loop_10 : ∀ (n_10 : Nat) (y1_10 : Int32) (y2_10 : Int32) (fp_10 : sg_F) (H : Heap) (locs : List Loc) (ls : Array Slot), 120 - (fp_10 0 13).toInt < (n_10 : Int) → 0 ≤ y2_10.toInt ∧ y2_10.toInt ≤ 255 → (f 0 13).toInt ≤ (fp_10 0 13).toInt → 5 ≤ (fp_10 0 16).toInt → 0 ≤ (fp_10 0 15).toInt ∨ (fp_10 0 16).toInt = 5 → y2_10.toInt = 0 ∨ (fp_10 0 13).toInt < (fp_10 0 14).toInt → sgI loM hiM fp_10 → sgK WkX12_product_5 f fp_10 → va_P D vwCl (sgw 26 h (eM ca h) fp_10 L Q) H → va_S (sgA 26 h s.heap.size) s.heap H locs → lv_has ls 4 [(0, .ref (h 0)), (1, .int y1_10), (2, .int y2_10)] → W p l e ({ frames := 8, cells := 0, slots := 0, locals := 181 }) s m ([.ref (h 0)] : List Value).toArray below meth cd H locs 0 0 Qz (F0 m 10 ls []) := by
    intro n_10
    induction n_10 with
    | zero => intro y1_10 y2_10 fp_10 H locs ls hm_10 hy0_10 hg0_10 hg1_10 hg2_10 hg3_10 hI hF hP hS hl; have zb := (show 0 ≤ (fp_10 0 13).toInt ∧ (fp_10 0 13).toInt ≤ 120 from hI 0 13); exact absurd hm_10 (by omega)
    | succ n_10 ih_10 =>
      intro y1_10 y2_10 fp_10 H locs ls hm_10 hy0_10 hg0_10 hg1_10 hg2_10 hg3_10 hI hF hP hS hl
      obtain ⟨v_13, ev_13⟩ : ∃ z : Int32, z = fp_10 0 13 := ⟨_, rfl⟩
      have q_14 : 0 ≤ v_13.toInt ∧ v_13.toInt ≤ 120 := by rw [ev_13]; exact hI 0 13
      have q_15 : (fp_10 0 13).toInt = v_13.toInt := by rw [ev_13]
      obtain ⟨v_16, ev_16⟩ : ∃ z : Int32, z = fp_10 0 16 := ⟨_, rfl⟩
      have q_17 : 0 ≤ v_16.toInt ∧ v_16.toInt ≤ 6 := by rw [ev_16]; exact hI 0 16
      have q_18 : (fp_10 0 16).toInt = v_16.toInt := by rw [ev_16]
      obtain ⟨v_19, ev_19⟩ : ∃ z : Int32, z = fp_10 0 15 := ⟨_, rfl⟩
      have q_20 : (-1) ≤ v_19.toInt ∧ v_19.toInt ≤ 120 := by rw [ev_19]; exact hI 0 15
      have q_21 : (fp_10 0 15).toInt = v_19.toInt := by rw [ev_19]
      obtain ⟨v_22, ev_22⟩ : ∃ z : Int32, z = fp_10 0 14 := ⟨_, rfl⟩
      have q_23 : 0 ≤ v_22.toInt ∧ v_22.toInt ≤ 120 := by rw [ev_22]; exact hI 0 14
      have q_24 : (fp_10 0 14).toInt = v_22.toInt := by rw [ev_22]
      refine lv_aload_n hx hb dX12_product_10 rfl (lv_at hl 0 rfl) ?_
      refine sg_get (ci := 12) (v := .int v_19) (C := RX12) (T := TX12) (N := 55) hx hb hts (fun w h => List.mem_cons_of_mem _ (gx_12 w h)) hown hK hP 0 (by decide) rfl rfl 15 (by decide) (hts _ (List.mem_cons_of_mem _ mw_627)) (fun _ h9 => h9) (congrArg (fun z => some (Value.int z)) (show fp_10 0 15 = v_19 from ev_19.symm)) dX12_product_11 ?_
      refine lv_if_ge (tgt := 94) hx hb dX12_product_14 (by decide) (fun c => ?_) (fun c => ?_)
      · skip
        have c_25 : 0 ≤ v_19.toInt := (by have z := bn_le c; have k1 : (0 : Int32).toInt = 0 := (by decide); omega)
        refine lv_iload_n hx hb dX12_product_94 rfl (lv_at hl 1 rfl) ?_
        have q_27 : (fp_10 0 13).toInt = v_13.toInt := (congrArg Int32.toInt (show fp_10 0 13 = v_13 from ev_13.symm))
        have q_28 : (fp_10 0 16).toInt = v_16.toInt := (congrArg Int32.toInt (show fp_10 0 16 = v_16 from ev_16.symm))
        have q_29 : (fp_10 0 15).toInt = v_19.toInt := (congrArg Int32.toInt (show fp_10 0 15 = v_19 from ev_19.symm))
        have q_30 : (fp_10 0 16).toInt = v_16.toInt := (congrArg Int32.toInt (show fp_10 0 16 = v_16 from ev_16.symm))
        exact hret _ _ _ _ (y1_10) fp_10 L Q dX12_product_95 hP hS ⟨⟨hI, hF, rfl, rfl⟩, trivial, (by omega), (by omega), (by omega)⟩
      · skip
        have c_26 : v_19.toInt < 0 := (by have z := bn_nle c; have k1 : (0 : Int32).toInt = 0 := (by decide); omega)
        refine lv_iload_n hx hb dX12_product_17 rfl (lv_at hl 2 rfl) ?_
        refine lv_bipush (v := 42) hx hb dX12_product_18 (by decide) ?_
        refine lv_icmp_eq (tgt := 35) hx hb dX12_product_20 (by decide) (fun c => ?_) (fun c => ?_)
        · skip
          have c_31 : y2_10.toInt = 42 := (by have z := Int32.toInt_inj.mpr c; have k1 : (42 : Int32).toInt = 42 := (by decide); omega)
          refine lv_aload_n hx hb dX12_product_35 rfl (lv_at hl 0 rfl) ?_
          refine lv_dup hx hb dX12_product_36 rfl ?_
          refine sg_get (ci := 12) (v := .int v_13) (C := RX12) (T := TX12) (N := 55) hx hb hts (fun w h => List.mem_cons_of_mem _ (gx_12 w h)) hown hK hP 0 (by decide) rfl rfl 13 (by decide) (hts _ (List.mem_cons_of_mem _ mw_625)) (fun _ h9 => h9) (congrArg (fun z => some (Value.int z)) (show fp_10 0 13 = v_13 from ev_13.symm)) dX12_product_37 ?_
          refine lv_iconst (v := 1) hx hb dX12_product_40 (by decide) ?_
          refine lv_iadd hx hb dX12_product_41 ?_
          refine lv_topi (fun v_33 ev_33 => ?_)
          have q_34 : v_33.toInt = v_13.toInt + 1 := by rw [ev_33]; have k1 : (1 : Int32).toInt = 1 := (by decide); exact (bn_addI (by omega) (by omega)).trans (by omega)
          refine sg_put (ci := 12) (x := v_33) (ty := .int) (C := RX12) (T := TX12) (N := 55) hx hb hts (fun w h => List.mem_cons_of_mem _ (gx_12 w h)) tyX12 tyX12_ok nmX12 hown hh hA hK hP hS 0 (by decide) rfl rfl 13 (by decide) (hts _ (List.mem_cons_of_mem _ mw_625)) (fun _ h9 => h9) rfl rfl (by decide +kernel) rfl rfl (Nat.le_of_ble_eq_true rfl) dX12_product_42 (fun f_35 H locs ef_35 hP hS => ?_)
          have hI : sgI loM hiM f_35 := by rw [ef_35]; exact sgI.put hI 0 13 (show 0 ≤ (v_33 : Int32).toInt ∧ (v_33 : Int32).toInt ≤ 120 from by omega)
          have hF : sgK WkX12_product_5 f f_35 := sgK.put hF ef_35 (by rfl)
          refine lv_aload_n hx hb dX12_product_45 rfl (lv_at hl 0 rfl) ?_
          have q_36 : (f_35 0 16).toInt = v_16.toInt := (congrArg Int32.toInt (show f_35 0 16 = v_16 from (by rw [ef_35, sg_up_s, sgu_n (by decide)]; exact ev_16.symm)))
          have q_37 : (f_35 0 15).toInt = v_19.toInt := (congrArg Int32.toInt (show f_35 0 15 = v_19 from (by rw [ef_35, sg_up_s, sgu_n (by decide)]; exact ev_19.symm)))
          have q_38 : (f_35 0 16).toInt = v_16.toInt := (congrArg Int32.toInt (show f_35 0 16 = v_16 from (by rw [ef_35, sg_up_s, sgu_n (by decide)]; exact ev_16.symm)))
          have q_39 : (f_35 0 13).toInt = v_33.toInt := (congrArg Int32.toInt (show f_35 0 13 = v_33 from (by rw [ef_35, sg_up_s, sgu_s])))
          refine sg_calli (va_runV (As := []) (rest := []) ⟨hx, hb, hml, hown, hts⟩ (kX12_one_5 l D ca za h hh f_35 L Q hI (by omega) (by omega) H.size) (cwV 0 hts (gw_V (fun _ h => List.mem_cons_of_mem _ h) mw_789 mw_790 mw_791 mw_619 mw_788) rfl rfl rfl (by decide +kernel) ⟨Nat.le_of_ble_eq_true rfl, Nat.le_of_ble_eq_true rfl⟩) (sg_preV (ci := 12) (C := RX12) (T := TX12) (N := 55) hA hK hP hS hZ 0 (by decide) rfl rfl) rfl rfl hl.1 rfl (lv_room (Nat.le_of_ble_eq_true rfl)) dX12_product_46 ⟨Nat.le_refl _, Nat.le_refl _⟩) hA hS (fun r_43 f_40 L_41 Q_42 H locs hq hP hS => ?_)
          obtain ⟨⟨hI, hk_f_40, eL9, eQ9⟩, hq, p_44, p_45, p_46⟩ := hq
          rw [eL9, eQ9] at hP; clear eL9 eQ9
          have hF : sgK WkX12_product_5 f f_40 := sgK.tr hF hk_f_40 (by decide)
          obtain ⟨v_47, ev_47⟩ : ∃ z : Int32, z = f_40 0 13 := ⟨_, rfl⟩
          have q_48 : 0 ≤ v_47.toInt ∧ v_47.toInt ≤ 120 := by rw [ev_47]; exact hI 0 13
          have q_49 : (f_40 0 13).toInt = v_47.toInt := (congrArg Int32.toInt (show f_40 0 13 = v_47 from ev_47.symm))
          obtain ⟨v_50, ev_50⟩ : ∃ z : Int32, z = f_40 0 16 := ⟨_, rfl⟩
          have q_51 : 0 ≤ v_50.toInt ∧ v_50.toInt ≤ 6 := by rw [ev_50]; exact hI 0 16
          have q_52 : (f_40 0 16).toInt = v_50.toInt := (congrArg Int32.toInt (show f_40 0 16 = v_50 from ev_50.symm))
          obtain ⟨v_53, ev_53⟩ : ∃ z : Int32, z = f_40 0 15 := ⟨_, rfl⟩
          have q_54 : (-1) ≤ v_53.toInt ∧ v_53.toInt ≤ 120 := by rw [ev_53]; exact hI 0 15
          have q_55 : (f_40 0 15).toInt = v_53.toInt := (congrArg Int32.toInt (show f_40 0 15 = v_53 from ev_53.symm))
          have q_56 : (f_40 0 16).toInt = v_50.toInt := (congrArg Int32.toInt (show f_40 0 16 = v_50 from ev_50.symm))
          refine lv_istore_n (lv' := [(3, .int r_43), (0, .ref (h 0)), (1, .int y1_10), (2, .int y2_10)]) hx hb dX12_product_49 rfl hl (by decide) rfl (fun ls hl => ?_)
          refine lv_iload_n hx hb dX12_product_50 rfl (lv_at hl 3 rfl) ?_
          refine lv_bipush (v := 42) hx hb dX12_product_51 (by decide) ?_
          refine lv_icmp_ne (tgt := 62) hx hb dX12_product_53 (by decide) (fun c => ?_) (fun c => ?_)
          · skip
            exfalso; have c_57 : y2_10.toInt ≠ 42 := (by have z := bn_ne c; have k1 : (42 : Int32).toInt = 42 := (by decide); omega); omega
          · skip
            have c_58 : y2_10.toInt = 42 := (by have z := Int32.toInt_inj.mpr c; have k1 : (42 : Int32).toInt = 42 := (by decide); omega)
            refine lv_iload_n hx hb dX12_product_56 rfl (lv_at hl 2 rfl) ?_
            refine lv_iload_n hx hb dX12_product_57 rfl (lv_at hl 0 rfl) ?_
            refine lv_imul hx hb dX12_product_58 ?_
            refine lv_topi (fun v_59 ev_59 => ?_)
            refine lv_goto (tgt := 85) hx hb dX12_product_59 (by decide) ?_
            refine lv_istore_n (lv' := [(1, .int v_59), (3, .int r_43), (0, .ref (h 0)), (2, .int y2_10)]) hx hb dX12_product_85 rfl hl (by decide) rfl (fun ls hl => ?_)
            refine lv_aload_n hx hb dX12_product_86 rfl (lv_at hl 2 rfl) ?_
            have q_60 : (f_40 0 13).toInt = v_47.toInt := (congrArg Int32.toInt (show f_40 0 13 = v_47 from ev_47.symm))
            have q_61 : (f_40 0 14).toInt = v_22.toInt := (congrArg Int32.toInt (show f_40 0 14 = v_22 from ((hk_f_40 0 14 (by decide)).trans (by rw [ef_35, sg_up_s, sgu_n (by decide)]; exact ev_22.symm))))
            refine sg_calli (va_runV (As := []) (rest := []) ⟨hx, hb, hml, hown, hts⟩ (kX12_byteAt l D ca za h hh f_40 L Q hI H.size) (cwV 0 hts (gw_V (fun _ h => List.mem_cons_of_mem _ h) mw_840 mw_841 mw_842 mw_619 mw_839) rfl rfl rfl (by decide +kernel) ⟨Nat.le_of_ble_eq_true rfl, Nat.le_of_ble_eq_true rfl⟩) (sg_preV (ci := 12) (C := RX12) (T := TX12) (N := 55) hA hK hP hS hZ 0 (by decide) rfl rfl) rfl rfl hl.1 rfl (lv_room (Nat.le_of_ble_eq_true rfl)) dX12_product_87 ⟨Nat.le_refl _, Nat.le_refl _⟩) hA hS (fun r_65 f_62 L_63 Q_64 H locs hq hP hS => ?_)
            obtain ⟨⟨ef9, eL9, eQ9⟩, hq, p_66⟩ := hq
            rw [ef9, eL9, eQ9] at hP; clear ef9 eL9 eQ9
            refine lv_istore_n (lv' := [(2, .int r_65), (1, .int v_59), (3, .int r_43), (0, .ref (h 0))]) hx hb dX12_product_90 rfl hl (by decide) rfl (fun ls hl => ?_)
            refine lv_goto (tgt := 10) hx hb dX12_product_91 (by decide) ?_
            exact ih_10 v_59 r_65 f_40 _ _ _ (by have zz0_13 : (f_40 0 13).toInt = v_47.toInt := (congrArg Int32.toInt (show f_40 0 13 = v_47 from ev_47.symm)); omega) (by omega) (by have zz0_13 : (f_40 0 13).toInt = v_47.toInt := (congrArg Int32.toInt (show f_40 0 13 = v_47 from ev_47.symm)); omega) (by have zz0_16 : (f_40 0 16).toInt = v_50.toInt := (congrArg Int32.toInt (show f_40 0 16 = v_50 from ev_50.symm)); omega) (by have zz0_15 : (f_40 0 15).toInt = v_53.toInt := (congrArg Int32.toInt (show f_40 0 15 = v_53 from ev_53.symm)); have zz0_16 : (f_40 0 16).toInt = v_50.toInt := (congrArg Int32.toInt (show f_40 0 16 = v_50 from ev_50.symm)); omega) (by have zz0_13 : (f_40 0 13).toInt = v_47.toInt := (congrArg Int32.toInt (show f_40 0 13 = v_47 from ev_47.symm)); have zz0_14 : (f_40 0 14).toInt = v_22.toInt := (congrArg Int32.toInt (show f_40 0 14 = v_22 from ((hk_f_40 0 14 (by decide)).trans (by rw [ef_35, sg_up_s, sgu_n (by decide)]; exact ev_22.symm)))); omega) hI hF hP hS (lv_sub hl [3, 1, 0] rfl)
        · skip
          have c_32 : y2_10.toInt ≠ 42 := (by have z := bn_ne c; have k1 : (42 : Int32).toInt = 42 := (by decide); omega)
          refine lv_iload_n hx hb dX12_product_23 rfl (lv_at hl 2 rfl) ?_
          refine lv_bipush (v := 47) hx hb dX12_product_24 (by decide) ?_
          refine lv_icmp_eq (tgt := 35) hx hb dX12_product_26 (by decide) (fun c => ?_) (fun c => ?_)
          · skip
            have c_67 : y2_10.toInt = 47 := (by have z := Int32.toInt_inj.mpr c; have k1 : (47 : Int32).toInt = 47 := (by decide); omega)
            refine lv_aload_n hx hb dX12_product_35 rfl (lv_at hl 0 rfl) ?_
            refine lv_dup hx hb dX12_product_36 rfl ?_
            refine sg_get (ci := 12) (v := .int v_13) (C := RX12) (T := TX12) (N := 55) hx hb hts (fun w h => List.mem_cons_of_mem _ (gx_12 w h)) hown hK hP 0 (by decide) rfl rfl 13 (by decide) (hts _ (List.mem_cons_of_mem _ mw_625)) (fun _ h9 => h9) (congrArg (fun z => some (Value.int z)) (show fp_10 0 13 = v_13 from ev_13.symm)) dX12_product_37 ?_
            refine lv_iconst (v := 1) hx hb dX12_product_40 (by decide) ?_
            refine lv_iadd hx hb dX12_product_41 ?_
            refine lv_topi (fun v_69 ev_69 => ?_)
            have q_70 : v_69.toInt = v_13.toInt + 1 := by rw [ev_69]; have k1 : (1 : Int32).toInt = 1 := (by decide); exact (bn_addI (by omega) (by omega)).trans (by omega)
            refine sg_put (ci := 12) (x := v_69) (ty := .int) (C := RX12) (T := TX12) (N := 55) hx hb hts (fun w h => List.mem_cons_of_mem _ (gx_12 w h)) tyX12 tyX12_ok nmX12 hown hh hA hK hP hS 0 (by decide) rfl rfl 13 (by decide) (hts _ (List.mem_cons_of_mem _ mw_625)) (fun _ h9 => h9) rfl rfl (by decide +kernel) rfl rfl (Nat.le_of_ble_eq_true rfl) dX12_product_42 (fun f_71 H locs ef_71 hP hS => ?_)
            have hI : sgI loM hiM f_71 := by rw [ef_71]; exact sgI.put hI 0 13 (show 0 ≤ (v_69 : Int32).toInt ∧ (v_69 : Int32).toInt ≤ 120 from by omega)
            have hF : sgK WkX12_product_5 f f_71 := sgK.put hF ef_71 (by rfl)
            refine lv_aload_n hx hb dX12_product_45 rfl (lv_at hl 0 rfl) ?_
            have q_72 : (f_71 0 16).toInt = v_16.toInt := (congrArg Int32.toInt (show f_71 0 16 = v_16 from (by rw [ef_71, sg_up_s, sgu_n (by decide)]; exact ev_16.symm)))
            have q_73 : (f_71 0 15).toInt = v_19.toInt := (congrArg Int32.toInt (show f_71 0 15 = v_19 from (by rw [ef_71, sg_up_s, sgu_n (by decide)]; exact ev_19.symm)))
            have q_74 : (f_71 0 16).toInt = v_16.toInt := (congrArg Int32.toInt (show f_71 0 16 = v_16 from (by rw [ef_71, sg_up_s, sgu_n (by decide)]; exact ev_16.symm)))
            have q_75 : (f_71 0 13).toInt = v_69.toInt := (congrArg Int32.toInt (show f_71 0 13 = v_69 from (by rw [ef_71, sg_up_s, sgu_s])))
            refine sg_calli (va_runV (As := []) (rest := []) ⟨hx, hb, hml, hown, hts⟩ (kX12_one_5 l D ca za h hh f_71 L Q hI (by omega) (by omega) H.size) (cwV 0 hts (gw_V (fun _ h => List.mem_cons_of_mem _ h) mw_789 mw_790 mw_791 mw_619 mw_788) rfl rfl rfl (by decide +kernel) ⟨Nat.le_of_ble_eq_true rfl, Nat.le_of_ble_eq_true rfl⟩) (sg_preV (ci := 12) (C := RX12) (T := TX12) (N := 55) hA hK hP hS hZ 0 (by decide) rfl rfl) rfl rfl hl.1 rfl (lv_room (Nat.le_of_ble_eq_true rfl)) dX12_product_46 ⟨Nat.le_refl _, Nat.le_refl _⟩) hA hS (fun r_79 f_76 L_77 Q_78 H locs hq hP hS => ?_)
            obtain ⟨⟨hI, hk_f_76, eL9, eQ9⟩, hq, p_80, p_81, p_82⟩ := hq
            rw [eL9, eQ9] at hP; clear eL9 eQ9
            have hF : sgK WkX12_product_5 f f_76 := sgK.tr hF hk_f_76 (by decide)
            obtain ⟨v_83, ev_83⟩ : ∃ z : Int32, z = f_76 0 13 := ⟨_, rfl⟩
            have q_84 : 0 ≤ v_83.toInt ∧ v_83.toInt ≤ 120 := by rw [ev_83]; exact hI 0 13
            have q_85 : (f_76 0 13).toInt = v_83.toInt := (congrArg Int32.toInt (show f_76 0 13 = v_83 from ev_83.symm))
            obtain ⟨v_86, ev_86⟩ : ∃ z : Int32, z = f_76 0 16 := ⟨_, rfl⟩
            have q_87 : 0 ≤ v_86.toInt ∧ v_86.toInt ≤ 6 := by rw [ev_86]; exact hI 0 16
            have q_88 : (f_76 0 16).toInt = v_86.toInt := (congrArg Int32.toInt (show f_76 0 16 = v_86 from ev_86.symm))
            obtain ⟨v_89, ev_89⟩ : ∃ z : Int32, z = f_76 0 15 := ⟨_, rfl⟩
            have q_90 : (-1) ≤ v_89.toInt ∧ v_89.toInt ≤ 120 := by rw [ev_89]; exact hI 0 15
            have q_91 : (f_76 0 15).toInt = v_89.toInt := (congrArg Int32.toInt (show f_76 0 15 = v_89 from ev_89.symm))
            have q_92 : (f_76 0 16).toInt = v_86.toInt := (congrArg Int32.toInt (show f_76 0 16 = v_86 from ev_86.symm))
            refine lv_istore_n (lv' := [(3, .int r_79), (0, .ref (h 0)), (1, .int y1_10), (2, .int y2_10)]) hx hb dX12_product_49 rfl hl (by decide) rfl (fun ls hl => ?_)
            refine lv_iload_n hx hb dX12_product_50 rfl (lv_at hl 3 rfl) ?_
            refine lv_bipush (v := 42) hx hb dX12_product_51 (by decide) ?_
            refine lv_icmp_ne (tgt := 62) hx hb dX12_product_53 (by decide) (fun c => ?_) (fun c => ?_)
            · skip
              have c_93 : y2_10.toInt ≠ 42 := (by have z := bn_ne c; have k1 : (42 : Int32).toInt = 42 := (by decide); omega)
              refine lv_iload_n hx hb dX12_product_62 rfl (lv_at hl 0 rfl) ?_
              refine lv_if_ne (tgt := 70) hx hb dX12_product_63 (by decide) (fun c => ?_) (fun c => ?_)
              · skip
                have c_95 : r_79.toInt ≠ 0 := (by have z := bn_ne c; have k1 : (0 : Int32).toInt = 0 := (by decide); omega)
                refine lv_iload_n hx hb dX12_product_70 rfl (lv_at hl 3 rfl) ?_
                refine lv_bipush (v := 47) hx hb dX12_product_71 (by decide) ?_
                refine lv_icmp_ne (tgt := 82) hx hb dX12_product_73 (by decide) (fun c => ?_) (fun c => ?_)
                · skip
                  exfalso; have c_97 : y2_10.toInt ≠ 47 := (by have z := bn_ne c; have k1 : (47 : Int32).toInt = 47 := (by decide); omega); omega
                · skip
                  have c_98 : y2_10.toInt = 47 := (by have z := Int32.toInt_inj.mpr c; have k1 : (47 : Int32).toInt = 47 := (by decide); omega)
                  refine lv_iload_n hx hb dX12_product_76 rfl (lv_at hl 2 rfl) ?_
                  refine lv_iload_n hx hb dX12_product_77 rfl (lv_at hl 0 rfl) ?_
                  refine lv_idiv hx hb dX12_product_78 (bn_nz (by omega)) ?_
                  refine lv_topi (fun v_99 ev_99 => ?_)
                  refine lv_goto (tgt := 85) hx hb dX12_product_79 (by decide) ?_
                  refine lv_istore_n (lv' := [(1, .int v_99), (3, .int r_79), (0, .ref (h 0)), (2, .int y2_10)]) hx hb dX12_product_85 rfl hl (by decide) rfl (fun ls hl => ?_)
                  refine lv_aload_n hx hb dX12_product_86 rfl (lv_at hl 2 rfl) ?_
                  have q_100 : (f_76 0 13).toInt = v_83.toInt := (congrArg Int32.toInt (show f_76 0 13 = v_83 from ev_83.symm))
                  have q_101 : (f_76 0 14).toInt = v_22.toInt := (congrArg Int32.toInt (show f_76 0 14 = v_22 from ((hk_f_76 0 14 (by decide)).trans (by rw [ef_71, sg_up_s, sgu_n (by decide)]; exact ev_22.symm))))
                  refine sg_calli (va_runV (As := []) (rest := []) ⟨hx, hb, hml, hown, hts⟩ (kX12_byteAt l D ca za h hh f_76 L Q hI H.size) (cwV 0 hts (gw_V (fun _ h => List.mem_cons_of_mem _ h) mw_840 mw_841 mw_842 mw_619 mw_839) rfl rfl rfl (by decide +kernel) ⟨Nat.le_of_ble_eq_true rfl, Nat.le_of_ble_eq_true rfl⟩) (sg_preV (ci := 12) (C := RX12) (T := TX12) (N := 55) hA hK hP hS hZ 0 (by decide) rfl rfl) rfl rfl hl.1 rfl (lv_room (Nat.le_of_ble_eq_true rfl)) dX12_product_87 ⟨Nat.le_refl _, Nat.le_refl _⟩) hA hS (fun r_105 f_102 L_103 Q_104 H locs hq hP hS => ?_)
                  obtain ⟨⟨ef9, eL9, eQ9⟩, hq, p_106⟩ := hq
                  rw [ef9, eL9, eQ9] at hP; clear ef9 eL9 eQ9
                  refine lv_istore_n (lv' := [(2, .int r_105), (1, .int v_99), (3, .int r_79), (0, .ref (h 0))]) hx hb dX12_product_90 rfl hl (by decide) rfl (fun ls hl => ?_)
                  refine lv_goto (tgt := 10) hx hb dX12_product_91 (by decide) ?_
                  exact ih_10 v_99 r_105 f_76 _ _ _ (by have zz0_13 : (f_76 0 13).toInt = v_83.toInt := (congrArg Int32.toInt (show f_76 0 13 = v_83 from ev_83.symm)); omega) (by omega) (by have zz0_13 : (f_76 0 13).toInt = v_83.toInt := (congrArg Int32.toInt (show f_76 0 13 = v_83 from ev_83.symm)); omega) (by have zz0_16 : (f_76 0 16).toInt = v_86.toInt := (congrArg Int32.toInt (show f_76 0 16 = v_86 from ev_86.symm)); omega) (by have zz0_15 : (f_76 0 15).toInt = v_89.toInt := (congrArg Int32.toInt (show f_76 0 15 = v_89 from ev_89.symm)); have zz0_16 : (f_76 0 16).toInt = v_86.toInt := (congrArg Int32.toInt (show f_76 0 16 = v_86 from ev_86.symm)); omega) (by have zz0_13 : (f_76 0 13).toInt = v_83.toInt := (congrArg Int32.toInt (show f_76 0 13 = v_83 from ev_83.symm)); have zz0_14 : (f_76 0 14).toInt = v_22.toInt := (congrArg Int32.toInt (show f_76 0 14 = v_22 from ((hk_f_76 0 14 (by decide)).trans (by rw [ef_71, sg_up_s, sgu_n (by decide)]; exact ev_22.symm)))); omega) hI hF hP hS (lv_sub hl [3, 1, 0] rfl)
              · skip
                have c_96 : r_79.toInt = 0 := (by have z := Int32.toInt_inj.mpr c; have k1 : (0 : Int32).toInt = 0 := (by decide); omega)
                refine lv_iconst (v := 0) hx hb dX12_product_66 (by decide) ?_
                refine lv_goto (tgt := 85) hx hb dX12_product_67 (by decide) ?_
                refine lv_istore_n (lv' := [(1, .int 0), (3, .int r_79), (0, .ref (h 0)), (2, .int y2_10)]) hx hb dX12_product_85 rfl hl (by decide) rfl (fun ls hl => ?_)
                refine lv_aload_n hx hb dX12_product_86 rfl (lv_at hl 2 rfl) ?_
                have q_107 : (f_76 0 13).toInt = v_83.toInt := (congrArg Int32.toInt (show f_76 0 13 = v_83 from ev_83.symm))
                have q_108 : (f_76 0 14).toInt = v_22.toInt := (congrArg Int32.toInt (show f_76 0 14 = v_22 from ((hk_f_76 0 14 (by decide)).trans (by rw [ef_71, sg_up_s, sgu_n (by decide)]; exact ev_22.symm))))
                refine sg_calli (va_runV (As := []) (rest := []) ⟨hx, hb, hml, hown, hts⟩ (kX12_byteAt l D ca za h hh f_76 L Q hI H.size) (cwV 0 hts (gw_V (fun _ h => List.mem_cons_of_mem _ h) mw_840 mw_841 mw_842 mw_619 mw_839) rfl rfl rfl (by decide +kernel) ⟨Nat.le_of_ble_eq_true rfl, Nat.le_of_ble_eq_true rfl⟩) (sg_preV (ci := 12) (C := RX12) (T := TX12) (N := 55) hA hK hP hS hZ 0 (by decide) rfl rfl) rfl rfl hl.1 rfl (lv_room (Nat.le_of_ble_eq_true rfl)) dX12_product_87 ⟨Nat.le_refl _, Nat.le_refl _⟩) hA hS (fun r_112 f_109 L_110 Q_111 H locs hq hP hS => ?_)
                obtain ⟨⟨ef9, eL9, eQ9⟩, hq, p_113⟩ := hq
                rw [ef9, eL9, eQ9] at hP; clear ef9 eL9 eQ9
                refine lv_istore_n (lv' := [(2, .int r_112), (1, .int 0), (3, .int r_79), (0, .ref (h 0))]) hx hb dX12_product_90 rfl hl (by decide) rfl (fun ls hl => ?_)
                refine lv_goto (tgt := 10) hx hb dX12_product_91 (by decide) ?_
                exact ih_10 0 r_112 f_76 _ _ _ (by have kc0 : (0 : Int32).toInt = 0 := (by decide); have zz0_13 : (f_76 0 13).toInt = v_83.toInt := (congrArg Int32.toInt (show f_76 0 13 = v_83 from ev_83.symm)); omega) (by omega) (by have kc0 : (0 : Int32).toInt = 0 := (by decide); have zz0_13 : (f_76 0 13).toInt = v_83.toInt := (congrArg Int32.toInt (show f_76 0 13 = v_83 from ev_83.symm)); omega) (by have kc0 : (0 : Int32).toInt = 0 := (by decide); have zz0_16 : (f_76 0 16).toInt = v_86.toInt := (congrArg Int32.toInt (show f_76 0 16 = v_86 from ev_86.symm)); omega) (by have kc0 : (0 : Int32).toInt = 0 := (by decide); have zz0_15 : (f_76 0 15).toInt = v_89.toInt := (congrArg Int32.toInt (show f_76 0 15 = v_89 from ev_89.symm)); have zz0_16 : (f_76 0 16).toInt = v_86.toInt := (congrArg Int32.toInt (show f_76 0 16 = v_86 from ev_86.symm)); omega) (by have kc0 : (0 : Int32).toInt = 0 := (by decide); have zz0_13 : (f_76 0 13).toInt = v_83.toInt := (congrArg Int32.toInt (show f_76 0 13 = v_83 from ev_83.symm)); have zz0_14 : (f_76 0 14).toInt = v_22.toInt := (congrArg Int32.toInt (show f_76 0 14 = v_22 from ((hk_f_76 0 14 (by decide)).trans (by rw [ef_71, sg_up_s, sgu_n (by decide)]; exact ev_22.symm)))); omega) hI hF hP hS (lv_sub hl [3, 1, 0] rfl)
            · skip
              exfalso; have c_94 : y2_10.toInt = 42 := (by have z := Int32.toInt_inj.mpr c; have k1 : (42 : Int32).toInt = 42 := (by decide); omega); omega
          · skip
            have c_68 : y2_10.toInt ≠ 47 := (by have z := bn_ne c; have k1 : (47 : Int32).toInt = 47 := (by decide); omega)
            refine lv_iload_n hx hb dX12_product_29 rfl (lv_at hl 2 rfl) ?_
            refine lv_bipush (v := 37) hx hb dX12_product_30 (by decide) ?_
            refine lv_icmp_ne (tgt := 94) hx hb dX12_product_32 (by decide) (fun c => ?_) (fun c => ?_)
            · skip
              have c_114 : y2_10.toInt ≠ 37 := (by have z := bn_ne c; have k1 : (37 : Int32).toInt = 37 := (by decide); omega)
              refine lv_iload_n hx hb dX12_product_94 rfl (lv_at hl 1 rfl) ?_
              have q_116 : (fp_10 0 13).toInt = v_13.toInt := (congrArg Int32.toInt (show fp_10 0 13 = v_13 from ev_13.symm))
              have q_117 : (fp_10 0 16).toInt = v_16.toInt := (congrArg Int32.toInt (show fp_10 0 16 = v_16 from ev_16.symm))
              have q_118 : (fp_10 0 15).toInt = v_19.toInt := (congrArg Int32.toInt (show fp_10 0 15 = v_19 from ev_19.symm))
              have q_119 : (fp_10 0 16).toInt = v_16.toInt := (congrArg Int32.toInt (show fp_10 0 16 = v_16 from ev_16.symm))
              exact hret _ _ _ _ (y1_10) fp_10 L Q dX12_product_95 hP hS ⟨⟨hI, hF, rfl, rfl⟩, trivial, (by omega), (by omega), (by omega)⟩
            · skip
              have c_115 : y2_10.toInt = 37 := (by have z := Int32.toInt_inj.mpr c; have k1 : (37 : Int32).toInt = 37 := (by decide); omega)
              refine lv_aload_n hx hb dX12_product_35 rfl (lv_at hl 0 rfl) ?_
              refine lv_dup hx hb dX12_product_36 rfl ?_
              refine sg_get (ci := 12) (v := .int v_13) (C := RX12) (T := TX12) (N := 55) hx hb hts (fun w h => List.mem_cons_of_mem _ (gx_12 w h)) hown hK hP 0 (by decide) rfl rfl 13 (by decide) (hts _ (List.mem_cons_of_mem _ mw_625)) (fun _ h9 => h9) (congrArg (fun z => some (Value.int z)) (show fp_10 0 13 = v_13 from ev_13.symm)) dX12_product_37 ?_
              refine lv_iconst (v := 1) hx hb dX12_product_40 (by decide) ?_
              refine lv_iadd hx hb dX12_product_41 ?_
              refine lv_topi (fun v_120 ev_120 => ?_)
              have q_121 : v_120.toInt = v_13.toInt + 1 := by rw [ev_120]; have k1 : (1 : Int32).toInt = 1 := (by decide); exact (bn_addI (by omega) (by omega)).trans (by omega)
              refine sg_put (ci := 12) (x := v_120) (ty := .int) (C := RX12) (T := TX12) (N := 55) hx hb hts (fun w h => List.mem_cons_of_mem _ (gx_12 w h)) tyX12 tyX12_ok nmX12 hown hh hA hK hP hS 0 (by decide) rfl rfl 13 (by decide) (hts _ (List.mem_cons_of_mem _ mw_625)) (fun _ h9 => h9) rfl rfl (by decide +kernel) rfl rfl (Nat.le_of_ble_eq_true rfl) dX12_product_42 (fun f_122 H locs ef_122 hP hS => ?_)
              have hI : sgI loM hiM f_122 := by rw [ef_122]; exact sgI.put hI 0 13 (show 0 ≤ (v_120 : Int32).toInt ∧ (v_120 : Int32).toInt ≤ 120 from by omega)
              have hF : sgK WkX12_product_5 f f_122 := sgK.put hF ef_122 (by rfl)
              refine lv_aload_n hx hb dX12_product_45 rfl (lv_at hl 0 rfl) ?_
              have q_123 : (f_122 0 16).toInt = v_16.toInt := (congrArg Int32.toInt (show f_122 0 16 = v_16 from (by rw [ef_122, sg_up_s, sgu_n (by decide)]; exact ev_16.symm)))
              have q_124 : (f_122 0 15).toInt = v_19.toInt := (congrArg Int32.toInt (show f_122 0 15 = v_19 from (by rw [ef_122, sg_up_s, sgu_n (by decide)]; exact ev_19.symm)))
              have q_125 : (f_122 0 16).toInt = v_16.toInt := (congrArg Int32.toInt (show f_122 0 16 = v_16 from (by rw [ef_122, sg_up_s, sgu_n (by decide)]; exact ev_16.symm)))
              have q_126 : (f_122 0 13).toInt = v_120.toInt := (congrArg Int32.toInt (show f_122 0 13 = v_120 from (by rw [ef_122, sg_up_s, sgu_s])))
              refine sg_calli (va_runV (As := []) (rest := []) ⟨hx, hb, hml, hown, hts⟩ (kX12_one_5 l D ca za h hh f_122 L Q hI (by omega) (by omega) H.size) (cwV 0 hts (gw_V (fun _ h => List.mem_cons_of_mem _ h) mw_789 mw_790 mw_791 mw_619 mw_788) rfl rfl rfl (by decide +kernel) ⟨Nat.le_of_ble_eq_true rfl, Nat.le_of_ble_eq_true rfl⟩) (sg_preV (ci := 12) (C := RX12) (T := TX12) (N := 55) hA hK hP hS hZ 0 (by decide) rfl rfl) rfl rfl hl.1 rfl (lv_room (Nat.le_of_ble_eq_true rfl)) dX12_product_46 ⟨Nat.le_refl _, Nat.le_refl _⟩) hA hS (fun r_130 f_127 L_128 Q_129 H locs hq hP hS => ?_)
              obtain ⟨⟨hI, hk_f_127, eL9, eQ9⟩, hq, p_131, p_132, p_133⟩ := hq
              rw [eL9, eQ9] at hP; clear eL9 eQ9
              have hF : sgK WkX12_product_5 f f_127 := sgK.tr hF hk_f_127 (by decide)
              obtain ⟨v_134, ev_134⟩ : ∃ z : Int32, z = f_127 0 13 := ⟨_, rfl⟩
              have q_135 : 0 ≤ v_134.toInt ∧ v_134.toInt ≤ 120 := by rw [ev_134]; exact hI 0 13
              have q_136 : (f_127 0 13).toInt = v_134.toInt := (congrArg Int32.toInt (show f_127 0 13 = v_134 from ev_134.symm))
              obtain ⟨v_137, ev_137⟩ : ∃ z : Int32, z = f_127 0 16 := ⟨_, rfl⟩
              have q_138 : 0 ≤ v_137.toInt ∧ v_137.toInt ≤ 6 := by rw [ev_137]; exact hI 0 16
              have q_139 : (f_127 0 16).toInt = v_137.toInt := (congrArg Int32.toInt (show f_127 0 16 = v_137 from ev_137.symm))
              obtain ⟨v_140, ev_140⟩ : ∃ z : Int32, z = f_127 0 15 := ⟨_, rfl⟩
              have q_141 : (-1) ≤ v_140.toInt ∧ v_140.toInt ≤ 120 := by rw [ev_140]; exact hI 0 15
              have q_142 : (f_127 0 15).toInt = v_140.toInt := (congrArg Int32.toInt (show f_127 0 15 = v_140 from ev_140.symm))
              have q_143 : (f_127 0 16).toInt = v_137.toInt := (congrArg Int32.toInt (show f_127 0 16 = v_137 from ev_137.symm))
              refine lv_istore_n (lv' := [(3, .int r_130), (0, .ref (h 0)), (1, .int y1_10), (2, .int y2_10)]) hx hb dX12_product_49 rfl hl (by decide) rfl (fun ls hl => ?_)
              refine lv_iload_n hx hb dX12_product_50 rfl (lv_at hl 3 rfl) ?_
              refine lv_bipush (v := 42) hx hb dX12_product_51 (by decide) ?_
              refine lv_icmp_ne (tgt := 62) hx hb dX12_product_53 (by decide) (fun c => ?_) (fun c => ?_)
              · skip
                have c_144 : y2_10.toInt ≠ 42 := (by have z := bn_ne c; have k1 : (42 : Int32).toInt = 42 := (by decide); omega)
                refine lv_iload_n hx hb dX12_product_62 rfl (lv_at hl 0 rfl) ?_
                refine lv_if_ne (tgt := 70) hx hb dX12_product_63 (by decide) (fun c => ?_) (fun c => ?_)
                · skip
                  have c_146 : r_130.toInt ≠ 0 := (by have z := bn_ne c; have k1 : (0 : Int32).toInt = 0 := (by decide); omega)
                  refine lv_iload_n hx hb dX12_product_70 rfl (lv_at hl 3 rfl) ?_
                  refine lv_bipush (v := 47) hx hb dX12_product_71 (by decide) ?_
                  refine lv_icmp_ne (tgt := 82) hx hb dX12_product_73 (by decide) (fun c => ?_) (fun c => ?_)
                  · skip
                    have c_148 : y2_10.toInt ≠ 47 := (by have z := bn_ne c; have k1 : (47 : Int32).toInt = 47 := (by decide); omega)
                    refine lv_iload_n hx hb dX12_product_82 rfl (lv_at hl 2 rfl) ?_
                    refine lv_iload_n hx hb dX12_product_83 rfl (lv_at hl 0 rfl) ?_
                    refine lv_irem hx hb dX12_product_84 (bn_nz (by omega)) ?_
                    refine lv_topi (fun v_150 ev_150 => ?_)
                    refine lv_istore_n (lv' := [(1, .int v_150), (3, .int r_130), (0, .ref (h 0)), (2, .int y2_10)]) hx hb dX12_product_85 rfl hl (by decide) rfl (fun ls hl => ?_)
                    refine lv_aload_n hx hb dX12_product_86 rfl (lv_at hl 2 rfl) ?_
                    have q_151 : (f_127 0 13).toInt = v_134.toInt := (congrArg Int32.toInt (show f_127 0 13 = v_134 from ev_134.symm))
                    have q_152 : (f_127 0 14).toInt = v_22.toInt := (congrArg Int32.toInt (show f_127 0 14 = v_22 from ((hk_f_127 0 14 (by decide)).trans (by rw [ef_122, sg_up_s, sgu_n (by decide)]; exact ev_22.symm))))
                    refine sg_calli (va_runV (As := []) (rest := []) ⟨hx, hb, hml, hown, hts⟩ (kX12_byteAt l D ca za h hh f_127 L Q hI H.size) (cwV 0 hts (gw_V (fun _ h => List.mem_cons_of_mem _ h) mw_840 mw_841 mw_842 mw_619 mw_839) rfl rfl rfl (by decide +kernel) ⟨Nat.le_of_ble_eq_true rfl, Nat.le_of_ble_eq_true rfl⟩) (sg_preV (ci := 12) (C := RX12) (T := TX12) (N := 55) hA hK hP hS hZ 0 (by decide) rfl rfl) rfl rfl hl.1 rfl (lv_room (Nat.le_of_ble_eq_true rfl)) dX12_product_87 ⟨Nat.le_refl _, Nat.le_refl _⟩) hA hS (fun r_156 f_153 L_154 Q_155 H locs hq hP hS => ?_)
                    obtain ⟨⟨ef9, eL9, eQ9⟩, hq, p_157⟩ := hq
                    rw [ef9, eL9, eQ9] at hP; clear ef9 eL9 eQ9
                    refine lv_istore_n (lv' := [(2, .int r_156), (1, .int v_150), (3, .int r_130), (0, .ref (h 0))]) hx hb dX12_product_90 rfl hl (by decide) rfl (fun ls hl => ?_)
                    refine lv_goto (tgt := 10) hx hb dX12_product_91 (by decide) ?_
                    exact ih_10 v_150 r_156 f_127 _ _ _ (by have zz0_13 : (f_127 0 13).toInt = v_134.toInt := (congrArg Int32.toInt (show f_127 0 13 = v_134 from ev_134.symm)); omega) (by omega) (by have zz0_13 : (f_127 0 13).toInt = v_134.toInt := (congrArg Int32.toInt (show f_127 0 13 = v_134 from ev_134.symm)); omega) (by have zz0_16 : (f_127 0 16).toInt = v_137.toInt := (congrArg Int32.toInt (show f_127 0 16 = v_137 from ev_137.symm)); omega) (by have zz0_15 : (f_127 0 15).toInt = v_140.toInt := (congrArg Int32.toInt (show f_127 0 15 = v_140 from ev_140.symm)); have zz0_16 : (f_127 0 16).toInt = v_137.toInt := (congrArg Int32.toInt (show f_127 0 16 = v_137 from ev_137.symm)); omega) (by have zz0_13 : (f_127 0 13).toInt = v_134.toInt := (congrArg Int32.toInt (show f_127 0 13 = v_134 from ev_134.symm)); have zz0_14 : (f_127 0 14).toInt = v_22.toInt := (congrArg Int32.toInt (show f_127 0 14 = v_22 from ((hk_f_127 0 14 (by decide)).trans (by rw [ef_122, sg_up_s, sgu_n (by decide)]; exact ev_22.symm)))); omega) hI hF hP hS (lv_sub hl [3, 1, 0] rfl)
                  · skip
                    exfalso; have c_149 : y2_10.toInt = 47 := (by have z := Int32.toInt_inj.mpr c; have k1 : (47 : Int32).toInt = 47 := (by decide); omega); omega
                · skip
                  have c_147 : r_130.toInt = 0 := (by have z := Int32.toInt_inj.mpr c; have k1 : (0 : Int32).toInt = 0 := (by decide); omega)
                  refine lv_iconst (v := 0) hx hb dX12_product_66 (by decide) ?_
                  refine lv_goto (tgt := 85) hx hb dX12_product_67 (by decide) ?_
                  refine lv_istore_n (lv' := [(1, .int 0), (3, .int r_130), (0, .ref (h 0)), (2, .int y2_10)]) hx hb dX12_product_85 rfl hl (by decide) rfl (fun ls hl => ?_)
                  refine lv_aload_n hx hb dX12_product_86 rfl (lv_at hl 2 rfl) ?_
                  have q_158 : (f_127 0 13).toInt = v_134.toInt := (congrArg Int32.toInt (show f_127 0 13 = v_134 from ev_134.symm))
                  have q_159 : (f_127 0 14).toInt = v_22.toInt := (congrArg Int32.toInt (show f_127 0 14 = v_22 from ((hk_f_127 0 14 (by decide)).trans (by rw [ef_122, sg_up_s, sgu_n (by decide)]; exact ev_22.symm))))
                  refine sg_calli (va_runV (As := []) (rest := []) ⟨hx, hb, hml, hown, hts⟩ (kX12_byteAt l D ca za h hh f_127 L Q hI H.size) (cwV 0 hts (gw_V (fun _ h => List.mem_cons_of_mem _ h) mw_840 mw_841 mw_842 mw_619 mw_839) rfl rfl rfl (by decide +kernel) ⟨Nat.le_of_ble_eq_true rfl, Nat.le_of_ble_eq_true rfl⟩) (sg_preV (ci := 12) (C := RX12) (T := TX12) (N := 55) hA hK hP hS hZ 0 (by decide) rfl rfl) rfl rfl hl.1 rfl (lv_room (Nat.le_of_ble_eq_true rfl)) dX12_product_87 ⟨Nat.le_refl _, Nat.le_refl _⟩) hA hS (fun r_163 f_160 L_161 Q_162 H locs hq hP hS => ?_)
                  obtain ⟨⟨ef9, eL9, eQ9⟩, hq, p_164⟩ := hq
                  rw [ef9, eL9, eQ9] at hP; clear ef9 eL9 eQ9
                  refine lv_istore_n (lv' := [(2, .int r_163), (1, .int 0), (3, .int r_130), (0, .ref (h 0))]) hx hb dX12_product_90 rfl hl (by decide) rfl (fun ls hl => ?_)
                  refine lv_goto (tgt := 10) hx hb dX12_product_91 (by decide) ?_
                  exact ih_10 0 r_163 f_127 _ _ _ (by have kc0 : (0 : Int32).toInt = 0 := (by decide); have zz0_13 : (f_127 0 13).toInt = v_134.toInt := (congrArg Int32.toInt (show f_127 0 13 = v_134 from ev_134.symm)); omega) (by omega) (by have kc0 : (0 : Int32).toInt = 0 := (by decide); have zz0_13 : (f_127 0 13).toInt = v_134.toInt := (congrArg Int32.toInt (show f_127 0 13 = v_134 from ev_134.symm)); omega) (by have kc0 : (0 : Int32).toInt = 0 := (by decide); have zz0_16 : (f_127 0 16).toInt = v_137.toInt := (congrArg Int32.toInt (show f_127 0 16 = v_137 from ev_137.symm)); omega) (by have kc0 : (0 : Int32).toInt = 0 := (by decide); have zz0_15 : (f_127 0 15).toInt = v_140.toInt := (congrArg Int32.toInt (show f_127 0 15 = v_140 from ev_140.symm)); have zz0_16 : (f_127 0 16).toInt = v_137.toInt := (congrArg Int32.toInt (show f_127 0 16 = v_137 from ev_137.symm)); omega) (by have kc0 : (0 : Int32).toInt = 0 := (by decide); have zz0_13 : (f_127 0 13).toInt = v_134.toInt := (congrArg Int32.toInt (show f_127 0 13 = v_134 from ev_134.symm)); have zz0_14 : (f_127 0 14).toInt = v_22.toInt := (congrArg Int32.toInt (show f_127 0 14 = v_22 from ((hk_f_127 0 14 (by decide)).trans (by rw [ef_122, sg_up_s, sgu_n (by decide)]; exact ev_22.symm)))); omega) hI hF hP hS (lv_sub hl [3, 1, 0] rfl)
              · skip
                exfalso; have c_145 : y2_10.toInt = 42 := (by have z := Int32.toInt_inj.mpr c; have k1 : (42 : Int32).toInt = 42 := (by decide); omega); omega
  refine lv_aload_n hx hb dX12_product_0 rfl (lv_at hl 0 rfl) ?_
  have q_165 : (f 0 16).toInt = v_1.toInt := (congrArg Int32.toInt (show f 0 16 = v_1 from ev_1.symm))
  have q_166 : (f 0 15).toInt = v_3.toInt := (congrArg Int32.toInt (show f 0 15 = v_3 from ev_3.symm))
  have q_167 : (f 0 16).toInt = v_1.toInt := (congrArg Int32.toInt (show f 0 16 = v_1 from ev_1.symm))
  have q_168 : (f 0 13).toInt = v_5.toInt := (congrArg Int32.toInt (show f 0 13 = v_5 from ev_5.symm))
  refine sg_calli (va_runV (As := []) (rest := []) ⟨hx, hb, hml, hown, hts⟩ (kX12_one_5 l D ca za h hh f L Q hI (by omega) (by omega) H.size) (cwV 0 hts (gw_V (fun _ h => List.mem_cons_of_mem _ h) mw_789 mw_790 mw_791 mw_619 mw_788) rfl rfl rfl (by decide +kernel) ⟨Nat.le_of_ble_eq_true rfl, Nat.le_of_ble_eq_true rfl⟩) (sg_preV (ci := 12) (C := RX12) (T := TX12) (N := 55) hA hK hP hS hZ 0 (by decide) rfl rfl) rfl rfl hl.1 rfl (lv_room (Nat.le_of_ble_eq_true rfl)) dX12_product_1 ⟨Nat.le_refl _, Nat.le_refl _⟩) hA hS (fun r_172 f_169 L_170 Q_171 H locs hq hP hS => ?_)
  obtain ⟨⟨hI, hk_f_169, eL9, eQ9⟩, hq, p_173, p_174, p_175⟩ := hq
  rw [eL9, eQ9] at hP; clear eL9 eQ9
  have hF : sgK WkX12_product_5 f f_169 := sgK.tr hF hk_f_169 (by decide)
  obtain ⟨v_176, ev_176⟩ : ∃ z : Int32, z = f_169 0 13 := ⟨_, rfl⟩
  have q_177 : 0 ≤ v_176.toInt ∧ v_176.toInt ≤ 120 := by rw [ev_176]; exact hI 0 13
  have q_178 : (f_169 0 13).toInt = v_176.toInt := (congrArg Int32.toInt (show f_169 0 13 = v_176 from ev_176.symm))
  obtain ⟨v_179, ev_179⟩ : ∃ z : Int32, z = f_169 0 16 := ⟨_, rfl⟩
  have q_180 : 0 ≤ v_179.toInt ∧ v_179.toInt ≤ 6 := by rw [ev_179]; exact hI 0 16
  have q_181 : (f_169 0 16).toInt = v_179.toInt := (congrArg Int32.toInt (show f_169 0 16 = v_179 from ev_179.symm))
  obtain ⟨v_182, ev_182⟩ : ∃ z : Int32, z = f_169 0 15 := ⟨_, rfl⟩
  have q_183 : (-1) ≤ v_182.toInt ∧ v_182.toInt ≤ 120 := by rw [ev_182]; exact hI 0 15
  have q_184 : (f_169 0 15).toInt = v_182.toInt := (congrArg Int32.toInt (show f_169 0 15 = v_182 from ev_182.symm))
  have q_185 : (f_169 0 16).toInt = v_179.toInt := (congrArg Int32.toInt (show f_169 0 16 = v_179 from ev_179.symm))
  refine lv_istore_n (lv' := [(1, .int r_172), (0, .ref (h 0))]) hx hb dX12_product_4 rfl hl (by decide) rfl (fun ls hl => ?_)
  refine lv_aload_n hx hb dX12_product_5 rfl (lv_at hl 1 rfl) ?_
  have q_186 : (f_169 0 13).toInt = v_176.toInt := (congrArg Int32.toInt (show f_169 0 13 = v_176 from ev_176.symm))
  have q_187 : (f_169 0 14).toInt = v_7.toInt := (congrArg Int32.toInt (show f_169 0 14 = v_7 from ((hk_f_169 0 14 (by decide)).trans ev_7.symm)))
  refine sg_calli (va_runV (As := []) (rest := []) ⟨hx, hb, hml, hown, hts⟩ (kX12_byteAt l D ca za h hh f_169 L Q hI H.size) (cwV 0 hts (gw_V (fun _ h => List.mem_cons_of_mem _ h) mw_840 mw_841 mw_842 mw_619 mw_839) rfl rfl rfl (by decide +kernel) ⟨Nat.le_of_ble_eq_true rfl, Nat.le_of_ble_eq_true rfl⟩) (sg_preV (ci := 12) (C := RX12) (T := TX12) (N := 55) hA hK hP hS hZ 0 (by decide) rfl rfl) rfl rfl hl.1 rfl (lv_room (Nat.le_of_ble_eq_true rfl)) dX12_product_6 ⟨Nat.le_refl _, Nat.le_refl _⟩) hA hS (fun r_191 f_188 L_189 Q_190 H locs hq hP hS => ?_)
  obtain ⟨⟨ef9, eL9, eQ9⟩, hq, p_192⟩ := hq
  rw [ef9, eL9, eQ9] at hP; clear ef9 eL9 eQ9
  refine lv_istore_n (lv' := [(2, .int r_191), (1, .int r_172), (0, .ref (h 0))]) hx hb dX12_product_9 rfl hl (by decide) rfl (fun ls hl => ?_)
  exact loop_10 121 r_172 r_191 f_169 _ _ _ (by have zz0_13 : (f_169 0 13).toInt = v_176.toInt := (congrArg Int32.toInt (show f_169 0 13 = v_176 from ev_176.symm)); omega) (by omega) (by have zz0_13 : (f_169 0 13).toInt = v_176.toInt := (congrArg Int32.toInt (show f_169 0 13 = v_176 from ev_176.symm)); omega) (by have zz0_16 : (f_169 0 16).toInt = v_179.toInt := (congrArg Int32.toInt (show f_169 0 16 = v_179 from ev_179.symm)); omega) (by have zz0_15 : (f_169 0 15).toInt = v_182.toInt := (congrArg Int32.toInt (show f_169 0 15 = v_182 from ev_182.symm)); have zz0_16 : (f_169 0 16).toInt = v_179.toInt := (congrArg Int32.toInt (show f_169 0 16 = v_179 from ev_179.symm)); omega) (by have zz0_13 : (f_169 0 13).toInt = v_176.toInt := (congrArg Int32.toInt (show f_169 0 13 = v_176 from ev_176.symm)); have zz0_14 : (f_169 0 14).toInt = v_7.toInt := (congrArg Int32.toInt (show f_169 0 14 = v_7 from ((hk_f_169 0 14 (by decide)).trans ev_7.symm))); omega) hI hF hP hS (lv_sub hl [2, 1, 0] rfl)

abbrev WkX12_sums_5 : List (Nat × Nat × Option Nat) := [(0, 0, some 13), (0, 0, some 15), (0, 0, some 16)]
set_option maxHeartbeats 4000000 in
set_option maxRecDepth 100000 in
theorem kX12_sums_5 (l : Launch) (D : va_G) (ca : Nat → ClassId) (za h : Nat → Nat) (hh : sgH 26 h) (f : sg_F) (L : sg_L) (Q : sg_Q) (hI : sgI loM hiM f) (p0 : 5 ≤ (f 0 16).toInt) (p1 : 0 ≤ (f 0 15).toInt ∨ (f 0 16).toInt = 5) (sz : Nat) : Met l yX12_sums gwX12_sums { frames := 9, cells := 0, slots := 0, locals := 204 } (sgP D vwCl (tyX ca) 26 h (eM ca h) zcM za f L Q sz [.ref (h 0)]) (sgQi D vwCl 26 h (eM ca h) sz (fun r f1 L1 Q1 => ((sgI loM hiM f1 ∧ sgK WkX12_sums_5 f f1 ∧ L1 = L ∧ Q1 = Q) ∧ True ∧ ((f 0 13).toInt ≤ (f1 0 13).toInt) ∧ (5 ≤ (f1 0 16).toInt) ∧ (0 ≤ (f1 0 15).toInt ∨ (f1 0 16).toInt = 5)))) 0 0 (sgA 26 h sz) := by
  refine sg_ofWi (cc := cX12_sums) (maxL := 4) RX12 (by decide) rfl rfl (Nat.le_of_ble_eq_true rfl) ?_
  intro p e s m below meth cd Qz ls hx hb hml hown hts hK hZ hP hS hl hret
  have hA := sgY.self (n := 26) (h := h) (sz := s.heap.size)
  have hl : lv_has ls 4 [(0, .ref (h 0))] := hl
  obtain ⟨H, hH⟩ : ∃ z : Heap, z = s.heap := ⟨_, rfl⟩
  obtain ⟨locs, hlo⟩ : ∃ z : List Loc, z = [] := ⟨_, rfl⟩
  have hP : va_P D vwCl (sgw 26 h (eM ca h) f L Q) H := by rw [hH]; exact hP
  have hS : va_S (sgA 26 h s.heap.size) s.heap H locs := by rw [hH, hlo]; exact hS
  suffices hgo : W p l e ({ frames := 9, cells := 0, slots := 0, locals := 204 }) s m ([.ref (h 0)] : List Value).toArray below meth cd H locs 0 0 Qz (F0 m 0 ls []) by rw [hH, hlo] at hgo; exact hgo
  clear hH hlo
  obtain ⟨v_1, ev_1⟩ : ∃ z : Int32, z = f 0 16 := ⟨_, rfl⟩
  have q_2 : 0 ≤ v_1.toInt ∧ v_1.toInt ≤ 6 := by rw [ev_1]; exact hI 0 16
  obtain ⟨v_3, ev_3⟩ : ∃ z : Int32, z = f 0 15 := ⟨_, rfl⟩
  have q_4 : (-1) ≤ v_3.toInt ∧ v_3.toInt ≤ 120 := by rw [ev_3]; exact hI 0 15
  obtain ⟨v_5, ev_5⟩ : ∃ z : Int32, z = f 0 13 := ⟨_, rfl⟩
  have q_6 : 0 ≤ v_5.toInt ∧ v_5.toInt ≤ 120 := by rw [ev_5]; exact hI 0 13
  have o_7 : (f 0 16).toInt = v_1.toInt := (congrArg Int32.toInt (show f 0 16 = v_1 from ev_1.symm))
  have o_8 : (f 0 15).toInt = v_3.toInt := (congrArg Int32.toInt (show f 0 15 = v_3 from ev_3.symm))
  have o_9 : (f 0 13).toInt = v_5.toInt := (congrArg Int32.toInt (show f 0 13 = v_5 from ev_5.symm))
  have hF : sgK WkX12_sums_5 f f := sgK.rf
  have loop_5 : ∀ (n_5 : Nat) (y1_5 : Int32) (fp_5 : sg_F) (H : Heap) (locs : List Loc) (ls : Array Slot), 120 - (fp_5 0 13).toInt < (n_5 : Int) → (f 0 13).toInt ≤ (fp_5 0 13).toInt → 5 ≤ (fp_5 0 16).toInt → 0 ≤ (fp_5 0 15).toInt ∨ (fp_5 0 16).toInt = 5 → sgI loM hiM fp_5 → sgK WkX12_sums_5 f fp_5 → va_P D vwCl (sgw 26 h (eM ca h) fp_5 L Q) H → va_S (sgA 26 h s.heap.size) s.heap H locs → lv_has ls 4 [(0, .ref (h 0)), (1, .int y1_5)] → W p l e ({ frames := 9, cells := 0, slots := 0, locals := 204 }) s m ([.ref (h 0)] : List Value).toArray below meth cd H locs 0 0 Qz (F0 m 5 ls []) := by
    intro n_5
    induction n_5 with
    | zero => intro y1_5 fp_5 H locs ls hm_5 hg0_5 hg1_5 hg2_5 hI hF hP hS hl; have zb := (show 0 ≤ (fp_5 0 13).toInt ∧ (fp_5 0 13).toInt ≤ 120 from hI 0 13); exact absurd hm_5 (by omega)
    | succ n_5 ih_5 =>
      intro y1_5 fp_5 H locs ls hm_5 hg0_5 hg1_5 hg2_5 hI hF hP hS hl
      obtain ⟨v_10, ev_10⟩ : ∃ z : Int32, z = fp_5 0 13 := ⟨_, rfl⟩
      have q_11 : 0 ≤ v_10.toInt ∧ v_10.toInt ≤ 120 := by rw [ev_10]; exact hI 0 13
      have q_12 : (fp_5 0 13).toInt = v_10.toInt := by rw [ev_10]
      obtain ⟨v_13, ev_13⟩ : ∃ z : Int32, z = fp_5 0 16 := ⟨_, rfl⟩
      have q_14 : 0 ≤ v_13.toInt ∧ v_13.toInt ≤ 6 := by rw [ev_13]; exact hI 0 16
      have q_15 : (fp_5 0 16).toInt = v_13.toInt := by rw [ev_13]
      obtain ⟨v_16, ev_16⟩ : ∃ z : Int32, z = fp_5 0 15 := ⟨_, rfl⟩
      have q_17 : (-1) ≤ v_16.toInt ∧ v_16.toInt ≤ 120 := by rw [ev_16]; exact hI 0 15
      have q_18 : (fp_5 0 15).toInt = v_16.toInt := by rw [ev_16]
      refine lv_aload_n hx hb dX12_sums_5 rfl (lv_at hl 0 rfl) ?_
      refine sg_get (ci := 12) (v := .int v_16) (C := RX12) (T := TX12) (N := 55) hx hb hts (fun w h => List.mem_cons_of_mem _ (gx_12 w h)) hown hK hP 0 (by decide) rfl rfl 15 (by decide) (hts _ (List.mem_cons_of_mem _ mw_627)) (fun _ h9 => h9) (congrArg (fun z => some (Value.int z)) (show fp_5 0 15 = v_16 from ev_16.symm)) dX12_sums_6 ?_
      refine lv_if_ge (tgt := 77) hx hb dX12_sums_9 (by decide) (fun c => ?_) (fun c => ?_)
      · skip
        have c_19 : 0 ≤ v_16.toInt := (by have z := bn_le c; have k1 : (0 : Int32).toInt = 0 := (by decide); omega)
        refine lv_iload_n hx hb dX12_sums_77 rfl (lv_at hl 1 rfl) ?_
        have q_21 : (fp_5 0 13).toInt = v_10.toInt := (congrArg Int32.toInt (show fp_5 0 13 = v_10 from ev_10.symm))
        have q_22 : (fp_5 0 16).toInt = v_13.toInt := (congrArg Int32.toInt (show fp_5 0 16 = v_13 from ev_13.symm))
        have q_23 : (fp_5 0 15).toInt = v_16.toInt := (congrArg Int32.toInt (show fp_5 0 15 = v_16 from ev_16.symm))
        have q_24 : (fp_5 0 16).toInt = v_13.toInt := (congrArg Int32.toInt (show fp_5 0 16 = v_13 from ev_13.symm))
        exact hret _ _ _ _ (y1_5) fp_5 L Q dX12_sums_78 hP hS ⟨⟨hI, hF, rfl, rfl⟩, trivial, (by omega), (by omega), (by omega)⟩
      · skip
        have c_20 : v_16.toInt < 0 := (by have z := bn_nle c; have k1 : (0 : Int32).toInt = 0 := (by decide); omega)
        refine lv_aload_n hx hb dX12_sums_12 rfl (lv_at hl 0 rfl) ?_
        have q_25 : (fp_5 0 13).toInt = v_10.toInt := (congrArg Int32.toInt (show fp_5 0 13 = v_10 from ev_10.symm))
        obtain ⟨v_26, ev_26⟩ : ∃ z : Int32, z = fp_5 0 14 := ⟨_, rfl⟩
        have q_27 : 0 ≤ v_26.toInt ∧ v_26.toInt ≤ 120 := by rw [ev_26]; exact hI 0 14
        have q_28 : (fp_5 0 14).toInt = v_26.toInt := (congrArg Int32.toInt (show fp_5 0 14 = v_26 from ev_26.symm))
        refine sg_calli (va_runV (As := []) (rest := []) ⟨hx, hb, hml, hown, hts⟩ (kX12_byteAt l D ca za h hh fp_5 L Q hI H.size) (cwV 0 hts (gw_V (fun _ h => List.mem_cons_of_mem _ h) mw_840 mw_841 mw_842 mw_619 mw_839) rfl rfl rfl (by decide +kernel) ⟨Nat.le_of_ble_eq_true rfl, Nat.le_of_ble_eq_true rfl⟩) (sg_preV (ci := 12) (C := RX12) (T := TX12) (N := 55) hA hK hP hS hZ 0 (by decide) rfl rfl) rfl rfl hl.1 rfl (lv_room (Nat.le_of_ble_eq_true rfl)) dX12_sums_13 ⟨Nat.le_refl _, Nat.le_refl _⟩) hA hS (fun r_32 f_29 L_30 Q_31 H locs hq hP hS => ?_)
        obtain ⟨⟨ef9, eL9, eQ9⟩, hq, p_33⟩ := hq
        rw [ef9, eL9, eQ9] at hP; clear ef9 eL9 eQ9
        refine lv_bipush (v := 43) hx hb dX12_sums_16 (by decide) ?_
        refine lv_icmp_eq (tgt := 30) hx hb dX12_sums_18 (by decide) (fun c => ?_) (fun c => ?_)
        · skip
          have c_34 : r_32.toInt = 43 := (by have z := Int32.toInt_inj.mpr c; have k1 : (43 : Int32).toInt = 43 := (by decide); omega)
          refine lv_aload_n hx hb dX12_sums_30 rfl (lv_at hl 0 rfl) ?_
          have q_36 : (fp_5 0 13).toInt = v_10.toInt := (congrArg Int32.toInt (show fp_5 0 13 = v_10 from ev_10.symm))
          have q_37 : (fp_5 0 14).toInt = v_26.toInt := (congrArg Int32.toInt (show fp_5 0 14 = v_26 from ev_26.symm))
          refine sg_calli (va_runV (As := []) (rest := []) ⟨hx, hb, hml, hown, hts⟩ (kX12_byteAt l D ca za h hh fp_5 L Q hI H.size) (cwV 0 hts (gw_V (fun _ h => List.mem_cons_of_mem _ h) mw_840 mw_841 mw_842 mw_619 mw_839) rfl rfl rfl (by decide +kernel) ⟨Nat.le_of_ble_eq_true rfl, Nat.le_of_ble_eq_true rfl⟩) (sg_preV (ci := 12) (C := RX12) (T := TX12) (N := 55) hA hK hP hS hZ 0 (by decide) rfl rfl) rfl rfl hl.1 rfl (lv_room (Nat.le_of_ble_eq_true rfl)) dX12_sums_31 ⟨Nat.le_refl _, Nat.le_refl _⟩) hA hS (fun r_41 f_38 L_39 Q_40 H locs hq hP hS => ?_)
          obtain ⟨⟨ef9, eL9, eQ9⟩, hq, p_42⟩ := hq
          rw [ef9, eL9, eQ9] at hP; clear ef9 eL9 eQ9
          refine lv_bipush (v := 43) hx hb dX12_sums_34 (by decide) ?_
          refine lv_icmp_ne (tgt := 43) hx hb dX12_sums_36 (by decide) (fun c => ?_) (fun c => ?_)
          · skip
            have c_43 : r_41.toInt ≠ 43 := (by have z := bn_ne c; have k1 : (43 : Int32).toInt = 43 := (by decide); omega)
            refine lv_iconst (v := 0) hx hb dX12_sums_43 (by decide) ?_
            refine lv_istore_n (lv' := [(2, .int 0), (0, .ref (h 0)), (1, .int y1_5)]) hx hb dX12_sums_44 rfl hl (by decide) rfl (fun ls hl => ?_)
            refine lv_aload_n hx hb dX12_sums_45 rfl (lv_at hl 1 rfl) ?_
            refine lv_dup hx hb dX12_sums_46 rfl ?_
            refine sg_get (ci := 12) (v := .int v_10) (C := RX12) (T := TX12) (N := 55) hx hb hts (fun w h => List.mem_cons_of_mem _ (gx_12 w h)) hown hK hP 0 (by decide) rfl rfl 13 (by decide) (hts _ (List.mem_cons_of_mem _ mw_625)) (fun _ h9 => h9) (congrArg (fun z => some (Value.int z)) (show fp_5 0 13 = v_10 from ev_10.symm)) dX12_sums_47 ?_
            refine lv_iconst (v := 1) hx hb dX12_sums_50 (by decide) ?_
            refine lv_iadd hx hb dX12_sums_51 ?_
            refine lv_topi (fun v_45 ev_45 => ?_)
            have q_46 : v_45.toInt = v_10.toInt + 1 := by rw [ev_45]; have k1 : (1 : Int32).toInt = 1 := (by decide); exact (bn_addI (by omega) (by omega)).trans (by omega)
            refine sg_put (ci := 12) (x := v_45) (ty := .int) (C := RX12) (T := TX12) (N := 55) hx hb hts (fun w h => List.mem_cons_of_mem _ (gx_12 w h)) tyX12 tyX12_ok nmX12 hown hh hA hK hP hS 0 (by decide) rfl rfl 13 (by decide) (hts _ (List.mem_cons_of_mem _ mw_625)) (fun _ h9 => h9) rfl rfl (by decide +kernel) rfl rfl (Nat.le_of_ble_eq_true rfl) dX12_sums_52 (fun f_47 H locs ef_47 hP hS => ?_)
            have hI : sgI loM hiM f_47 := by rw [ef_47]; exact sgI.put hI 0 13 (show 0 ≤ (v_45 : Int32).toInt ∧ (v_45 : Int32).toInt ≤ 120 from by omega)
            have hF : sgK WkX12_sums_5 f f_47 := sgK.put hF ef_47 (by rfl)
            refine lv_aload_n hx hb dX12_sums_55 rfl (lv_at hl 1 rfl) ?_
            have q_48 : (f_47 0 16).toInt = v_13.toInt := (congrArg Int32.toInt (show f_47 0 16 = v_13 from (by rw [ef_47, sg_up_s, sgu_n (by decide)]; exact ev_13.symm)))
            have q_49 : (f_47 0 15).toInt = v_16.toInt := (congrArg Int32.toInt (show f_47 0 15 = v_16 from (by rw [ef_47, sg_up_s, sgu_n (by decide)]; exact ev_16.symm)))
            have q_50 : (f_47 0 16).toInt = v_13.toInt := (congrArg Int32.toInt (show f_47 0 16 = v_13 from (by rw [ef_47, sg_up_s, sgu_n (by decide)]; exact ev_13.symm)))
            have q_51 : (f_47 0 13).toInt = v_45.toInt := (congrArg Int32.toInt (show f_47 0 13 = v_45 from (by rw [ef_47, sg_up_s, sgu_s])))
            refine sg_calli (va_runV (As := []) (rest := []) ⟨hx, hb, hml, hown, hts⟩ (kX12_product_5 l D ca za h hh f_47 L Q hI (by omega) (by omega) H.size) (cwV 0 hts (gw_V (fun _ h => List.mem_cons_of_mem _ h) mw_848 mw_849 mw_850 mw_619 mw_847) rfl rfl rfl (by decide +kernel) ⟨Nat.le_of_ble_eq_true rfl, Nat.le_of_ble_eq_true rfl⟩) (sg_preV (ci := 12) (C := RX12) (T := TX12) (N := 55) hA hK hP hS hZ 0 (by decide) rfl rfl) rfl rfl hl.1 rfl (lv_room (Nat.le_of_ble_eq_true rfl)) dX12_sums_56 ⟨Nat.le_refl _, Nat.le_refl _⟩) hA hS (fun r_55 f_52 L_53 Q_54 H locs hq hP hS => ?_)
            obtain ⟨⟨hI, hk_f_52, eL9, eQ9⟩, hq, p_56, p_57, p_58⟩ := hq
            rw [eL9, eQ9] at hP; clear eL9 eQ9
            have hF : sgK WkX12_sums_5 f f_52 := sgK.tr hF hk_f_52 (by decide)
            obtain ⟨v_59, ev_59⟩ : ∃ z : Int32, z = f_52 0 13 := ⟨_, rfl⟩
            have q_60 : 0 ≤ v_59.toInt ∧ v_59.toInt ≤ 120 := by rw [ev_59]; exact hI 0 13
            have q_61 : (f_52 0 13).toInt = v_59.toInt := (congrArg Int32.toInt (show f_52 0 13 = v_59 from ev_59.symm))
            obtain ⟨v_62, ev_62⟩ : ∃ z : Int32, z = f_52 0 16 := ⟨_, rfl⟩
            have q_63 : 0 ≤ v_62.toInt ∧ v_62.toInt ≤ 6 := by rw [ev_62]; exact hI 0 16
            have q_64 : (f_52 0 16).toInt = v_62.toInt := (congrArg Int32.toInt (show f_52 0 16 = v_62 from ev_62.symm))
            obtain ⟨v_65, ev_65⟩ : ∃ z : Int32, z = f_52 0 15 := ⟨_, rfl⟩
            have q_66 : (-1) ≤ v_65.toInt ∧ v_65.toInt ≤ 120 := by rw [ev_65]; exact hI 0 15
            have q_67 : (f_52 0 15).toInt = v_65.toInt := (congrArg Int32.toInt (show f_52 0 15 = v_65 from ev_65.symm))
            have q_68 : (f_52 0 16).toInt = v_62.toInt := (congrArg Int32.toInt (show f_52 0 16 = v_62 from ev_62.symm))
            refine lv_istore_n (lv' := [(3, .int r_55), (2, .int 0), (0, .ref (h 0)), (1, .int y1_5)]) hx hb dX12_sums_59 rfl hl (by decide) rfl (fun ls hl => ?_)
            refine lv_iload_n hx hb dX12_sums_60 rfl (lv_at hl 1 rfl) ?_
            refine lv_if_eq (tgt := 70) hx hb dX12_sums_61 (by decide) (fun c => ?_) (fun c => absurd c (by decide))
            refine lv_iload_n hx hb dX12_sums_70 rfl (lv_at hl 3 rfl) ?_
            refine lv_iload_n hx hb dX12_sums_71 rfl (lv_at hl 0 rfl) ?_
            refine lv_isub hx hb dX12_sums_72 ?_
            refine lv_topi (fun v_69 ev_69 => ?_)
            refine lv_istore_n (lv' := [(1, .int v_69), (3, .int r_55), (2, .int 0), (0, .ref (h 0))]) hx hb dX12_sums_73 rfl hl (by decide) rfl (fun ls hl => ?_)
            refine lv_goto (tgt := 5) hx hb dX12_sums_74 (by decide) ?_
            exact ih_5 v_69 f_52 _ _ _ (by have zz0_13 : (f_52 0 13).toInt = v_59.toInt := (congrArg Int32.toInt (show f_52 0 13 = v_59 from ev_59.symm)); omega) (by have zz0_13 : (f_52 0 13).toInt = v_59.toInt := (congrArg Int32.toInt (show f_52 0 13 = v_59 from ev_59.symm)); omega) (by have zz0_16 : (f_52 0 16).toInt = v_62.toInt := (congrArg Int32.toInt (show f_52 0 16 = v_62 from ev_62.symm)); omega) (by have zz0_15 : (f_52 0 15).toInt = v_65.toInt := (congrArg Int32.toInt (show f_52 0 15 = v_65 from ev_65.symm)); have zz0_16 : (f_52 0 16).toInt = v_62.toInt := (congrArg Int32.toInt (show f_52 0 16 = v_62 from ev_62.symm)); omega) hI hF hP hS (lv_sub hl [3, 0] rfl)
          · skip
            have c_44 : r_41.toInt = 43 := (by have z := Int32.toInt_inj.mpr c; have k1 : (43 : Int32).toInt = 43 := (by decide); omega)
            refine lv_iconst (v := 1) hx hb dX12_sums_39 (by decide) ?_
            refine lv_goto (tgt := 44) hx hb dX12_sums_40 (by decide) ?_
            refine lv_istore_n (lv' := [(2, .int 1), (0, .ref (h 0)), (1, .int y1_5)]) hx hb dX12_sums_44 rfl hl (by decide) rfl (fun ls hl => ?_)
            refine lv_aload_n hx hb dX12_sums_45 rfl (lv_at hl 1 rfl) ?_
            refine lv_dup hx hb dX12_sums_46 rfl ?_
            refine sg_get (ci := 12) (v := .int v_10) (C := RX12) (T := TX12) (N := 55) hx hb hts (fun w h => List.mem_cons_of_mem _ (gx_12 w h)) hown hK hP 0 (by decide) rfl rfl 13 (by decide) (hts _ (List.mem_cons_of_mem _ mw_625)) (fun _ h9 => h9) (congrArg (fun z => some (Value.int z)) (show fp_5 0 13 = v_10 from ev_10.symm)) dX12_sums_47 ?_
            refine lv_iconst (v := 1) hx hb dX12_sums_50 (by decide) ?_
            refine lv_iadd hx hb dX12_sums_51 ?_
            refine lv_topi (fun v_70 ev_70 => ?_)
            have q_71 : v_70.toInt = v_10.toInt + 1 := by rw [ev_70]; have k1 : (1 : Int32).toInt = 1 := (by decide); exact (bn_addI (by omega) (by omega)).trans (by omega)
            refine sg_put (ci := 12) (x := v_70) (ty := .int) (C := RX12) (T := TX12) (N := 55) hx hb hts (fun w h => List.mem_cons_of_mem _ (gx_12 w h)) tyX12 tyX12_ok nmX12 hown hh hA hK hP hS 0 (by decide) rfl rfl 13 (by decide) (hts _ (List.mem_cons_of_mem _ mw_625)) (fun _ h9 => h9) rfl rfl (by decide +kernel) rfl rfl (Nat.le_of_ble_eq_true rfl) dX12_sums_52 (fun f_72 H locs ef_72 hP hS => ?_)
            have hI : sgI loM hiM f_72 := by rw [ef_72]; exact sgI.put hI 0 13 (show 0 ≤ (v_70 : Int32).toInt ∧ (v_70 : Int32).toInt ≤ 120 from by omega)
            have hF : sgK WkX12_sums_5 f f_72 := sgK.put hF ef_72 (by rfl)
            refine lv_aload_n hx hb dX12_sums_55 rfl (lv_at hl 1 rfl) ?_
            have q_73 : (f_72 0 16).toInt = v_13.toInt := (congrArg Int32.toInt (show f_72 0 16 = v_13 from (by rw [ef_72, sg_up_s, sgu_n (by decide)]; exact ev_13.symm)))
            have q_74 : (f_72 0 15).toInt = v_16.toInt := (congrArg Int32.toInt (show f_72 0 15 = v_16 from (by rw [ef_72, sg_up_s, sgu_n (by decide)]; exact ev_16.symm)))
            have q_75 : (f_72 0 16).toInt = v_13.toInt := (congrArg Int32.toInt (show f_72 0 16 = v_13 from (by rw [ef_72, sg_up_s, sgu_n (by decide)]; exact ev_13.symm)))
            have q_76 : (f_72 0 13).toInt = v_70.toInt := (congrArg Int32.toInt (show f_72 0 13 = v_70 from (by rw [ef_72, sg_up_s, sgu_s])))
            refine sg_calli (va_runV (As := []) (rest := []) ⟨hx, hb, hml, hown, hts⟩ (kX12_product_5 l D ca za h hh f_72 L Q hI (by omega) (by omega) H.size) (cwV 0 hts (gw_V (fun _ h => List.mem_cons_of_mem _ h) mw_848 mw_849 mw_850 mw_619 mw_847) rfl rfl rfl (by decide +kernel) ⟨Nat.le_of_ble_eq_true rfl, Nat.le_of_ble_eq_true rfl⟩) (sg_preV (ci := 12) (C := RX12) (T := TX12) (N := 55) hA hK hP hS hZ 0 (by decide) rfl rfl) rfl rfl hl.1 rfl (lv_room (Nat.le_of_ble_eq_true rfl)) dX12_sums_56 ⟨Nat.le_refl _, Nat.le_refl _⟩) hA hS (fun r_80 f_77 L_78 Q_79 H locs hq hP hS => ?_)
            obtain ⟨⟨hI, hk_f_77, eL9, eQ9⟩, hq, p_81, p_82, p_83⟩ := hq
            rw [eL9, eQ9] at hP; clear eL9 eQ9
            have hF : sgK WkX12_sums_5 f f_77 := sgK.tr hF hk_f_77 (by decide)
            obtain ⟨v_84, ev_84⟩ : ∃ z : Int32, z = f_77 0 13 := ⟨_, rfl⟩
            have q_85 : 0 ≤ v_84.toInt ∧ v_84.toInt ≤ 120 := by rw [ev_84]; exact hI 0 13
            have q_86 : (f_77 0 13).toInt = v_84.toInt := (congrArg Int32.toInt (show f_77 0 13 = v_84 from ev_84.symm))
            obtain ⟨v_87, ev_87⟩ : ∃ z : Int32, z = f_77 0 16 := ⟨_, rfl⟩
            have q_88 : 0 ≤ v_87.toInt ∧ v_87.toInt ≤ 6 := by rw [ev_87]; exact hI 0 16
            have q_89 : (f_77 0 16).toInt = v_87.toInt := (congrArg Int32.toInt (show f_77 0 16 = v_87 from ev_87.symm))
            obtain ⟨v_90, ev_90⟩ : ∃ z : Int32, z = f_77 0 15 := ⟨_, rfl⟩
            have q_91 : (-1) ≤ v_90.toInt ∧ v_90.toInt ≤ 120 := by rw [ev_90]; exact hI 0 15
            have q_92 : (f_77 0 15).toInt = v_90.toInt := (congrArg Int32.toInt (show f_77 0 15 = v_90 from ev_90.symm))
            have q_93 : (f_77 0 16).toInt = v_87.toInt := (congrArg Int32.toInt (show f_77 0 16 = v_87 from ev_87.symm))
            refine lv_istore_n (lv' := [(3, .int r_80), (2, .int 1), (0, .ref (h 0)), (1, .int y1_5)]) hx hb dX12_sums_59 rfl hl (by decide) rfl (fun ls hl => ?_)
            refine lv_iload_n hx hb dX12_sums_60 rfl (lv_at hl 1 rfl) ?_
            refine lv_if_eq (tgt := 70) hx hb dX12_sums_61 (by decide) (fun c => absurd c (by decide)) (fun c => ?_)
            refine lv_iload_n hx hb dX12_sums_64 rfl (lv_at hl 3 rfl) ?_
            refine lv_iload_n hx hb dX12_sums_65 rfl (lv_at hl 0 rfl) ?_
            refine lv_iadd hx hb dX12_sums_66 ?_
            refine lv_topi (fun v_94 ev_94 => ?_)
            refine lv_goto (tgt := 73) hx hb dX12_sums_67 (by decide) ?_
            refine lv_istore_n (lv' := [(1, .int v_94), (3, .int r_80), (2, .int 1), (0, .ref (h 0))]) hx hb dX12_sums_73 rfl hl (by decide) rfl (fun ls hl => ?_)
            refine lv_goto (tgt := 5) hx hb dX12_sums_74 (by decide) ?_
            exact ih_5 v_94 f_77 _ _ _ (by have zz0_13 : (f_77 0 13).toInt = v_84.toInt := (congrArg Int32.toInt (show f_77 0 13 = v_84 from ev_84.symm)); omega) (by have zz0_13 : (f_77 0 13).toInt = v_84.toInt := (congrArg Int32.toInt (show f_77 0 13 = v_84 from ev_84.symm)); omega) (by have zz0_16 : (f_77 0 16).toInt = v_87.toInt := (congrArg Int32.toInt (show f_77 0 16 = v_87 from ev_87.symm)); omega) (by have zz0_15 : (f_77 0 15).toInt = v_90.toInt := (congrArg Int32.toInt (show f_77 0 15 = v_90 from ev_90.symm)); have zz0_16 : (f_77 0 16).toInt = v_87.toInt := (congrArg Int32.toInt (show f_77 0 16 = v_87 from ev_87.symm)); omega) hI hF hP hS (lv_sub hl [3, 0] rfl)
        · skip
          have c_35 : r_32.toInt ≠ 43 := (by have z := bn_ne c; have k1 : (43 : Int32).toInt = 43 := (by decide); omega)
          refine lv_aload_n hx hb dX12_sums_21 rfl (lv_at hl 0 rfl) ?_
          have q_95 : (fp_5 0 13).toInt = v_10.toInt := (congrArg Int32.toInt (show fp_5 0 13 = v_10 from ev_10.symm))
          have q_96 : (fp_5 0 14).toInt = v_26.toInt := (congrArg Int32.toInt (show fp_5 0 14 = v_26 from ev_26.symm))
          refine sg_calli (va_runV (As := []) (rest := []) ⟨hx, hb, hml, hown, hts⟩ (kX12_byteAt l D ca za h hh fp_5 L Q hI H.size) (cwV 0 hts (gw_V (fun _ h => List.mem_cons_of_mem _ h) mw_840 mw_841 mw_842 mw_619 mw_839) rfl rfl rfl (by decide +kernel) ⟨Nat.le_of_ble_eq_true rfl, Nat.le_of_ble_eq_true rfl⟩) (sg_preV (ci := 12) (C := RX12) (T := TX12) (N := 55) hA hK hP hS hZ 0 (by decide) rfl rfl) rfl rfl hl.1 rfl (lv_room (Nat.le_of_ble_eq_true rfl)) dX12_sums_22 ⟨Nat.le_refl _, Nat.le_refl _⟩) hA hS (fun r_100 f_97 L_98 Q_99 H locs hq hP hS => ?_)
          obtain ⟨⟨ef9, eL9, eQ9⟩, hq, p_101⟩ := hq
          rw [ef9, eL9, eQ9] at hP; clear ef9 eL9 eQ9
          refine lv_bipush (v := 45) hx hb dX12_sums_25 (by decide) ?_
          refine lv_icmp_ne (tgt := 77) hx hb dX12_sums_27 (by decide) (fun c => ?_) (fun c => ?_)
          · skip
            have c_102 : r_100.toInt ≠ 45 := (by have z := bn_ne c; have k1 : (45 : Int32).toInt = 45 := (by decide); omega)
            refine lv_iload_n hx hb dX12_sums_77 rfl (lv_at hl 1 rfl) ?_
            have q_104 : (fp_5 0 13).toInt = v_10.toInt := (congrArg Int32.toInt (show fp_5 0 13 = v_10 from ev_10.symm))
            have q_105 : (fp_5 0 16).toInt = v_13.toInt := (congrArg Int32.toInt (show fp_5 0 16 = v_13 from ev_13.symm))
            have q_106 : (fp_5 0 15).toInt = v_16.toInt := (congrArg Int32.toInt (show fp_5 0 15 = v_16 from ev_16.symm))
            have q_107 : (fp_5 0 16).toInt = v_13.toInt := (congrArg Int32.toInt (show fp_5 0 16 = v_13 from ev_13.symm))
            exact hret _ _ _ _ (y1_5) fp_5 L Q dX12_sums_78 hP hS ⟨⟨hI, hF, rfl, rfl⟩, trivial, (by omega), (by omega), (by omega)⟩
          · skip
            have c_103 : r_100.toInt = 45 := (by have z := Int32.toInt_inj.mpr c; have k1 : (45 : Int32).toInt = 45 := (by decide); omega)
            refine lv_aload_n hx hb dX12_sums_30 rfl (lv_at hl 0 rfl) ?_
            have q_108 : (fp_5 0 13).toInt = v_10.toInt := (congrArg Int32.toInt (show fp_5 0 13 = v_10 from ev_10.symm))
            have q_109 : (fp_5 0 14).toInt = v_26.toInt := (congrArg Int32.toInt (show fp_5 0 14 = v_26 from ev_26.symm))
            refine sg_calli (va_runV (As := []) (rest := []) ⟨hx, hb, hml, hown, hts⟩ (kX12_byteAt l D ca za h hh fp_5 L Q hI H.size) (cwV 0 hts (gw_V (fun _ h => List.mem_cons_of_mem _ h) mw_840 mw_841 mw_842 mw_619 mw_839) rfl rfl rfl (by decide +kernel) ⟨Nat.le_of_ble_eq_true rfl, Nat.le_of_ble_eq_true rfl⟩) (sg_preV (ci := 12) (C := RX12) (T := TX12) (N := 55) hA hK hP hS hZ 0 (by decide) rfl rfl) rfl rfl hl.1 rfl (lv_room (Nat.le_of_ble_eq_true rfl)) dX12_sums_31 ⟨Nat.le_refl _, Nat.le_refl _⟩) hA hS (fun r_113 f_110 L_111 Q_112 H locs hq hP hS => ?_)
            obtain ⟨⟨ef9, eL9, eQ9⟩, hq, p_114⟩ := hq
            rw [ef9, eL9, eQ9] at hP; clear ef9 eL9 eQ9
            refine lv_bipush (v := 43) hx hb dX12_sums_34 (by decide) ?_
            refine lv_icmp_ne (tgt := 43) hx hb dX12_sums_36 (by decide) (fun c => ?_) (fun c => ?_)
            · skip
              have c_115 : r_113.toInt ≠ 43 := (by have z := bn_ne c; have k1 : (43 : Int32).toInt = 43 := (by decide); omega)
              refine lv_iconst (v := 0) hx hb dX12_sums_43 (by decide) ?_
              refine lv_istore_n (lv' := [(2, .int 0), (0, .ref (h 0)), (1, .int y1_5)]) hx hb dX12_sums_44 rfl hl (by decide) rfl (fun ls hl => ?_)
              refine lv_aload_n hx hb dX12_sums_45 rfl (lv_at hl 1 rfl) ?_
              refine lv_dup hx hb dX12_sums_46 rfl ?_
              refine sg_get (ci := 12) (v := .int v_10) (C := RX12) (T := TX12) (N := 55) hx hb hts (fun w h => List.mem_cons_of_mem _ (gx_12 w h)) hown hK hP 0 (by decide) rfl rfl 13 (by decide) (hts _ (List.mem_cons_of_mem _ mw_625)) (fun _ h9 => h9) (congrArg (fun z => some (Value.int z)) (show fp_5 0 13 = v_10 from ev_10.symm)) dX12_sums_47 ?_
              refine lv_iconst (v := 1) hx hb dX12_sums_50 (by decide) ?_
              refine lv_iadd hx hb dX12_sums_51 ?_
              refine lv_topi (fun v_117 ev_117 => ?_)
              have q_118 : v_117.toInt = v_10.toInt + 1 := by rw [ev_117]; have k1 : (1 : Int32).toInt = 1 := (by decide); exact (bn_addI (by omega) (by omega)).trans (by omega)
              refine sg_put (ci := 12) (x := v_117) (ty := .int) (C := RX12) (T := TX12) (N := 55) hx hb hts (fun w h => List.mem_cons_of_mem _ (gx_12 w h)) tyX12 tyX12_ok nmX12 hown hh hA hK hP hS 0 (by decide) rfl rfl 13 (by decide) (hts _ (List.mem_cons_of_mem _ mw_625)) (fun _ h9 => h9) rfl rfl (by decide +kernel) rfl rfl (Nat.le_of_ble_eq_true rfl) dX12_sums_52 (fun f_119 H locs ef_119 hP hS => ?_)
              have hI : sgI loM hiM f_119 := by rw [ef_119]; exact sgI.put hI 0 13 (show 0 ≤ (v_117 : Int32).toInt ∧ (v_117 : Int32).toInt ≤ 120 from by omega)
              have hF : sgK WkX12_sums_5 f f_119 := sgK.put hF ef_119 (by rfl)
              refine lv_aload_n hx hb dX12_sums_55 rfl (lv_at hl 1 rfl) ?_
              have q_120 : (f_119 0 16).toInt = v_13.toInt := (congrArg Int32.toInt (show f_119 0 16 = v_13 from (by rw [ef_119, sg_up_s, sgu_n (by decide)]; exact ev_13.symm)))
              have q_121 : (f_119 0 15).toInt = v_16.toInt := (congrArg Int32.toInt (show f_119 0 15 = v_16 from (by rw [ef_119, sg_up_s, sgu_n (by decide)]; exact ev_16.symm)))
              have q_122 : (f_119 0 16).toInt = v_13.toInt := (congrArg Int32.toInt (show f_119 0 16 = v_13 from (by rw [ef_119, sg_up_s, sgu_n (by decide)]; exact ev_13.symm)))
              have q_123 : (f_119 0 13).toInt = v_117.toInt := (congrArg Int32.toInt (show f_119 0 13 = v_117 from (by rw [ef_119, sg_up_s, sgu_s])))
              refine sg_calli (va_runV (As := []) (rest := []) ⟨hx, hb, hml, hown, hts⟩ (kX12_product_5 l D ca za h hh f_119 L Q hI (by omega) (by omega) H.size) (cwV 0 hts (gw_V (fun _ h => List.mem_cons_of_mem _ h) mw_848 mw_849 mw_850 mw_619 mw_847) rfl rfl rfl (by decide +kernel) ⟨Nat.le_of_ble_eq_true rfl, Nat.le_of_ble_eq_true rfl⟩) (sg_preV (ci := 12) (C := RX12) (T := TX12) (N := 55) hA hK hP hS hZ 0 (by decide) rfl rfl) rfl rfl hl.1 rfl (lv_room (Nat.le_of_ble_eq_true rfl)) dX12_sums_56 ⟨Nat.le_refl _, Nat.le_refl _⟩) hA hS (fun r_127 f_124 L_125 Q_126 H locs hq hP hS => ?_)
              obtain ⟨⟨hI, hk_f_124, eL9, eQ9⟩, hq, p_128, p_129, p_130⟩ := hq
              rw [eL9, eQ9] at hP; clear eL9 eQ9
              have hF : sgK WkX12_sums_5 f f_124 := sgK.tr hF hk_f_124 (by decide)
              obtain ⟨v_131, ev_131⟩ : ∃ z : Int32, z = f_124 0 13 := ⟨_, rfl⟩
              have q_132 : 0 ≤ v_131.toInt ∧ v_131.toInt ≤ 120 := by rw [ev_131]; exact hI 0 13
              have q_133 : (f_124 0 13).toInt = v_131.toInt := (congrArg Int32.toInt (show f_124 0 13 = v_131 from ev_131.symm))
              obtain ⟨v_134, ev_134⟩ : ∃ z : Int32, z = f_124 0 16 := ⟨_, rfl⟩
              have q_135 : 0 ≤ v_134.toInt ∧ v_134.toInt ≤ 6 := by rw [ev_134]; exact hI 0 16
              have q_136 : (f_124 0 16).toInt = v_134.toInt := (congrArg Int32.toInt (show f_124 0 16 = v_134 from ev_134.symm))
              obtain ⟨v_137, ev_137⟩ : ∃ z : Int32, z = f_124 0 15 := ⟨_, rfl⟩
              have q_138 : (-1) ≤ v_137.toInt ∧ v_137.toInt ≤ 120 := by rw [ev_137]; exact hI 0 15
              have q_139 : (f_124 0 15).toInt = v_137.toInt := (congrArg Int32.toInt (show f_124 0 15 = v_137 from ev_137.symm))
              have q_140 : (f_124 0 16).toInt = v_134.toInt := (congrArg Int32.toInt (show f_124 0 16 = v_134 from ev_134.symm))
              refine lv_istore_n (lv' := [(3, .int r_127), (2, .int 0), (0, .ref (h 0)), (1, .int y1_5)]) hx hb dX12_sums_59 rfl hl (by decide) rfl (fun ls hl => ?_)
              refine lv_iload_n hx hb dX12_sums_60 rfl (lv_at hl 1 rfl) ?_
              refine lv_if_eq (tgt := 70) hx hb dX12_sums_61 (by decide) (fun c => ?_) (fun c => absurd c (by decide))
              refine lv_iload_n hx hb dX12_sums_70 rfl (lv_at hl 3 rfl) ?_
              refine lv_iload_n hx hb dX12_sums_71 rfl (lv_at hl 0 rfl) ?_
              refine lv_isub hx hb dX12_sums_72 ?_
              refine lv_topi (fun v_141 ev_141 => ?_)
              refine lv_istore_n (lv' := [(1, .int v_141), (3, .int r_127), (2, .int 0), (0, .ref (h 0))]) hx hb dX12_sums_73 rfl hl (by decide) rfl (fun ls hl => ?_)
              refine lv_goto (tgt := 5) hx hb dX12_sums_74 (by decide) ?_
              exact ih_5 v_141 f_124 _ _ _ (by have zz0_13 : (f_124 0 13).toInt = v_131.toInt := (congrArg Int32.toInt (show f_124 0 13 = v_131 from ev_131.symm)); omega) (by have zz0_13 : (f_124 0 13).toInt = v_131.toInt := (congrArg Int32.toInt (show f_124 0 13 = v_131 from ev_131.symm)); omega) (by have zz0_16 : (f_124 0 16).toInt = v_134.toInt := (congrArg Int32.toInt (show f_124 0 16 = v_134 from ev_134.symm)); omega) (by have zz0_15 : (f_124 0 15).toInt = v_137.toInt := (congrArg Int32.toInt (show f_124 0 15 = v_137 from ev_137.symm)); have zz0_16 : (f_124 0 16).toInt = v_134.toInt := (congrArg Int32.toInt (show f_124 0 16 = v_134 from ev_134.symm)); omega) hI hF hP hS (lv_sub hl [3, 0] rfl)
            · skip
              have c_116 : r_113.toInt = 43 := (by have z := Int32.toInt_inj.mpr c; have k1 : (43 : Int32).toInt = 43 := (by decide); omega)
              refine lv_iconst (v := 1) hx hb dX12_sums_39 (by decide) ?_
              refine lv_goto (tgt := 44) hx hb dX12_sums_40 (by decide) ?_
              refine lv_istore_n (lv' := [(2, .int 1), (0, .ref (h 0)), (1, .int y1_5)]) hx hb dX12_sums_44 rfl hl (by decide) rfl (fun ls hl => ?_)
              refine lv_aload_n hx hb dX12_sums_45 rfl (lv_at hl 1 rfl) ?_
              refine lv_dup hx hb dX12_sums_46 rfl ?_
              refine sg_get (ci := 12) (v := .int v_10) (C := RX12) (T := TX12) (N := 55) hx hb hts (fun w h => List.mem_cons_of_mem _ (gx_12 w h)) hown hK hP 0 (by decide) rfl rfl 13 (by decide) (hts _ (List.mem_cons_of_mem _ mw_625)) (fun _ h9 => h9) (congrArg (fun z => some (Value.int z)) (show fp_5 0 13 = v_10 from ev_10.symm)) dX12_sums_47 ?_
              refine lv_iconst (v := 1) hx hb dX12_sums_50 (by decide) ?_
              refine lv_iadd hx hb dX12_sums_51 ?_
              refine lv_topi (fun v_142 ev_142 => ?_)
              have q_143 : v_142.toInt = v_10.toInt + 1 := by rw [ev_142]; have k1 : (1 : Int32).toInt = 1 := (by decide); exact (bn_addI (by omega) (by omega)).trans (by omega)
              refine sg_put (ci := 12) (x := v_142) (ty := .int) (C := RX12) (T := TX12) (N := 55) hx hb hts (fun w h => List.mem_cons_of_mem _ (gx_12 w h)) tyX12 tyX12_ok nmX12 hown hh hA hK hP hS 0 (by decide) rfl rfl 13 (by decide) (hts _ (List.mem_cons_of_mem _ mw_625)) (fun _ h9 => h9) rfl rfl (by decide +kernel) rfl rfl (Nat.le_of_ble_eq_true rfl) dX12_sums_52 (fun f_144 H locs ef_144 hP hS => ?_)
              have hI : sgI loM hiM f_144 := by rw [ef_144]; exact sgI.put hI 0 13 (show 0 ≤ (v_142 : Int32).toInt ∧ (v_142 : Int32).toInt ≤ 120 from by omega)
              have hF : sgK WkX12_sums_5 f f_144 := sgK.put hF ef_144 (by rfl)
              refine lv_aload_n hx hb dX12_sums_55 rfl (lv_at hl 1 rfl) ?_
              have q_145 : (f_144 0 16).toInt = v_13.toInt := (congrArg Int32.toInt (show f_144 0 16 = v_13 from (by rw [ef_144, sg_up_s, sgu_n (by decide)]; exact ev_13.symm)))
              have q_146 : (f_144 0 15).toInt = v_16.toInt := (congrArg Int32.toInt (show f_144 0 15 = v_16 from (by rw [ef_144, sg_up_s, sgu_n (by decide)]; exact ev_16.symm)))
              have q_147 : (f_144 0 16).toInt = v_13.toInt := (congrArg Int32.toInt (show f_144 0 16 = v_13 from (by rw [ef_144, sg_up_s, sgu_n (by decide)]; exact ev_13.symm)))
              have q_148 : (f_144 0 13).toInt = v_142.toInt := (congrArg Int32.toInt (show f_144 0 13 = v_142 from (by rw [ef_144, sg_up_s, sgu_s])))
              refine sg_calli (va_runV (As := []) (rest := []) ⟨hx, hb, hml, hown, hts⟩ (kX12_product_5 l D ca za h hh f_144 L Q hI (by omega) (by omega) H.size) (cwV 0 hts (gw_V (fun _ h => List.mem_cons_of_mem _ h) mw_848 mw_849 mw_850 mw_619 mw_847) rfl rfl rfl (by decide +kernel) ⟨Nat.le_of_ble_eq_true rfl, Nat.le_of_ble_eq_true rfl⟩) (sg_preV (ci := 12) (C := RX12) (T := TX12) (N := 55) hA hK hP hS hZ 0 (by decide) rfl rfl) rfl rfl hl.1 rfl (lv_room (Nat.le_of_ble_eq_true rfl)) dX12_sums_56 ⟨Nat.le_refl _, Nat.le_refl _⟩) hA hS (fun r_152 f_149 L_150 Q_151 H locs hq hP hS => ?_)
              obtain ⟨⟨hI, hk_f_149, eL9, eQ9⟩, hq, p_153, p_154, p_155⟩ := hq
              rw [eL9, eQ9] at hP; clear eL9 eQ9
              have hF : sgK WkX12_sums_5 f f_149 := sgK.tr hF hk_f_149 (by decide)
              obtain ⟨v_156, ev_156⟩ : ∃ z : Int32, z = f_149 0 13 := ⟨_, rfl⟩
              have q_157 : 0 ≤ v_156.toInt ∧ v_156.toInt ≤ 120 := by rw [ev_156]; exact hI 0 13
              have q_158 : (f_149 0 13).toInt = v_156.toInt := (congrArg Int32.toInt (show f_149 0 13 = v_156 from ev_156.symm))
              obtain ⟨v_159, ev_159⟩ : ∃ z : Int32, z = f_149 0 16 := ⟨_, rfl⟩
              have q_160 : 0 ≤ v_159.toInt ∧ v_159.toInt ≤ 6 := by rw [ev_159]; exact hI 0 16
              have q_161 : (f_149 0 16).toInt = v_159.toInt := (congrArg Int32.toInt (show f_149 0 16 = v_159 from ev_159.symm))
              obtain ⟨v_162, ev_162⟩ : ∃ z : Int32, z = f_149 0 15 := ⟨_, rfl⟩
              have q_163 : (-1) ≤ v_162.toInt ∧ v_162.toInt ≤ 120 := by rw [ev_162]; exact hI 0 15
              have q_164 : (f_149 0 15).toInt = v_162.toInt := (congrArg Int32.toInt (show f_149 0 15 = v_162 from ev_162.symm))
              have q_165 : (f_149 0 16).toInt = v_159.toInt := (congrArg Int32.toInt (show f_149 0 16 = v_159 from ev_159.symm))
              refine lv_istore_n (lv' := [(3, .int r_152), (2, .int 1), (0, .ref (h 0)), (1, .int y1_5)]) hx hb dX12_sums_59 rfl hl (by decide) rfl (fun ls hl => ?_)
              refine lv_iload_n hx hb dX12_sums_60 rfl (lv_at hl 1 rfl) ?_
              refine lv_if_eq (tgt := 70) hx hb dX12_sums_61 (by decide) (fun c => absurd c (by decide)) (fun c => ?_)
              refine lv_iload_n hx hb dX12_sums_64 rfl (lv_at hl 3 rfl) ?_
              refine lv_iload_n hx hb dX12_sums_65 rfl (lv_at hl 0 rfl) ?_
              refine lv_iadd hx hb dX12_sums_66 ?_
              refine lv_topi (fun v_166 ev_166 => ?_)
              refine lv_goto (tgt := 73) hx hb dX12_sums_67 (by decide) ?_
              refine lv_istore_n (lv' := [(1, .int v_166), (3, .int r_152), (2, .int 1), (0, .ref (h 0))]) hx hb dX12_sums_73 rfl hl (by decide) rfl (fun ls hl => ?_)
              refine lv_goto (tgt := 5) hx hb dX12_sums_74 (by decide) ?_
              exact ih_5 v_166 f_149 _ _ _ (by have zz0_13 : (f_149 0 13).toInt = v_156.toInt := (congrArg Int32.toInt (show f_149 0 13 = v_156 from ev_156.symm)); omega) (by have zz0_13 : (f_149 0 13).toInt = v_156.toInt := (congrArg Int32.toInt (show f_149 0 13 = v_156 from ev_156.symm)); omega) (by have zz0_16 : (f_149 0 16).toInt = v_159.toInt := (congrArg Int32.toInt (show f_149 0 16 = v_159 from ev_159.symm)); omega) (by have zz0_15 : (f_149 0 15).toInt = v_162.toInt := (congrArg Int32.toInt (show f_149 0 15 = v_162 from ev_162.symm)); have zz0_16 : (f_149 0 16).toInt = v_159.toInt := (congrArg Int32.toInt (show f_149 0 16 = v_159 from ev_159.symm)); omega) hI hF hP hS (lv_sub hl [3, 0] rfl)
  refine lv_aload_n hx hb dX12_sums_0 rfl (lv_at hl 0 rfl) ?_
  have q_167 : (f 0 16).toInt = v_1.toInt := (congrArg Int32.toInt (show f 0 16 = v_1 from ev_1.symm))
  have q_168 : (f 0 15).toInt = v_3.toInt := (congrArg Int32.toInt (show f 0 15 = v_3 from ev_3.symm))
  have q_169 : (f 0 16).toInt = v_1.toInt := (congrArg Int32.toInt (show f 0 16 = v_1 from ev_1.symm))
  have q_170 : (f 0 13).toInt = v_5.toInt := (congrArg Int32.toInt (show f 0 13 = v_5 from ev_5.symm))
  refine sg_calli (va_runV (As := []) (rest := []) ⟨hx, hb, hml, hown, hts⟩ (kX12_product_5 l D ca za h hh f L Q hI (by omega) (by omega) H.size) (cwV 0 hts (gw_V (fun _ h => List.mem_cons_of_mem _ h) mw_848 mw_849 mw_850 mw_619 mw_847) rfl rfl rfl (by decide +kernel) ⟨Nat.le_of_ble_eq_true rfl, Nat.le_of_ble_eq_true rfl⟩) (sg_preV (ci := 12) (C := RX12) (T := TX12) (N := 55) hA hK hP hS hZ 0 (by decide) rfl rfl) rfl rfl hl.1 rfl (lv_room (Nat.le_of_ble_eq_true rfl)) dX12_sums_1 ⟨Nat.le_refl _, Nat.le_refl _⟩) hA hS (fun r_174 f_171 L_172 Q_173 H locs hq hP hS => ?_)
  obtain ⟨⟨hI, hk_f_171, eL9, eQ9⟩, hq, p_175, p_176, p_177⟩ := hq
  rw [eL9, eQ9] at hP; clear eL9 eQ9
  have hF : sgK WkX12_sums_5 f f_171 := sgK.tr hF hk_f_171 (by decide)
  obtain ⟨v_178, ev_178⟩ : ∃ z : Int32, z = f_171 0 13 := ⟨_, rfl⟩
  have q_179 : 0 ≤ v_178.toInt ∧ v_178.toInt ≤ 120 := by rw [ev_178]; exact hI 0 13
  have q_180 : (f_171 0 13).toInt = v_178.toInt := (congrArg Int32.toInt (show f_171 0 13 = v_178 from ev_178.symm))
  obtain ⟨v_181, ev_181⟩ : ∃ z : Int32, z = f_171 0 16 := ⟨_, rfl⟩
  have q_182 : 0 ≤ v_181.toInt ∧ v_181.toInt ≤ 6 := by rw [ev_181]; exact hI 0 16
  have q_183 : (f_171 0 16).toInt = v_181.toInt := (congrArg Int32.toInt (show f_171 0 16 = v_181 from ev_181.symm))
  obtain ⟨v_184, ev_184⟩ : ∃ z : Int32, z = f_171 0 15 := ⟨_, rfl⟩
  have q_185 : (-1) ≤ v_184.toInt ∧ v_184.toInt ≤ 120 := by rw [ev_184]; exact hI 0 15
  have q_186 : (f_171 0 15).toInt = v_184.toInt := (congrArg Int32.toInt (show f_171 0 15 = v_184 from ev_184.symm))
  have q_187 : (f_171 0 16).toInt = v_181.toInt := (congrArg Int32.toInt (show f_171 0 16 = v_181 from ev_181.symm))
  refine lv_istore_n (lv' := [(1, .int r_174), (0, .ref (h 0))]) hx hb dX12_sums_4 rfl hl (by decide) rfl (fun ls hl => ?_)
  exact loop_5 121 r_174 f_171 _ _ _ (by have zz0_13 : (f_171 0 13).toInt = v_178.toInt := (congrArg Int32.toInt (show f_171 0 13 = v_178 from ev_178.symm)); omega) (by have zz0_13 : (f_171 0 13).toInt = v_178.toInt := (congrArg Int32.toInt (show f_171 0 13 = v_178 from ev_178.symm)); omega) (by have zz0_16 : (f_171 0 16).toInt = v_181.toInt := (congrArg Int32.toInt (show f_171 0 16 = v_181 from ev_181.symm)); omega) (by have zz0_15 : (f_171 0 15).toInt = v_184.toInt := (congrArg Int32.toInt (show f_171 0 15 = v_184 from ev_184.symm)); have zz0_16 : (f_171 0 16).toInt = v_181.toInt := (congrArg Int32.toInt (show f_171 0 16 = v_181 from ev_181.symm)); omega) hI hF hP hS (lv_sub hl [1, 0] rfl)

abbrev WkX12_compared_5 : List (Nat × Nat × Option Nat) := [(0, 0, some 13), (0, 0, some 15), (0, 0, some 16)]
set_option maxHeartbeats 4000000 in
set_option maxRecDepth 100000 in
theorem kX12_compared_5 (l : Launch) (D : va_G) (ca : Nat → ClassId) (za h : Nat → Nat) (hh : sgH 26 h) (f : sg_F) (L : sg_L) (Q : sg_Q) (hI : sgI loM hiM f) (p0 : 5 ≤ (f 0 16).toInt) (p1 : 0 ≤ (f 0 15).toInt ∨ (f 0 16).toInt = 5) (sz : Nat) : Met l yX12_compared gwX12_compared { frames := 10, cells := 0, slots := 0, locals := 227 } (sgP D vwCl (tyX ca) 26 h (eM ca h) zcM za f L Q sz [.ref (h 0)]) (sgQi D vwCl 26 h (eM ca h) sz (fun r f1 L1 Q1 => ((sgI loM hiM f1 ∧ sgK WkX12_compared_5 f f1 ∧ L1 = L ∧ Q1 = Q) ∧ True ∧ ((f 0 13).toInt ≤ (f1 0 13).toInt) ∧ (5 ≤ (f1 0 16).toInt) ∧ (0 ≤ (f1 0 15).toInt ∨ (f1 0 16).toInt = 5)))) 0 0 (sgA 26 h sz) := by
  refine sg_ofWi (cc := cX12_compared) (maxL := 4) RX12 (by decide) rfl rfl (Nat.le_of_ble_eq_true rfl) ?_
  intro p e s m below meth cd Qz ls hx hb hml hown hts hK hZ hP hS hl hret
  have hA := sgY.self (n := 26) (h := h) (sz := s.heap.size)
  have hl : lv_has ls 4 [(0, .ref (h 0))] := hl
  obtain ⟨H, hH⟩ : ∃ z : Heap, z = s.heap := ⟨_, rfl⟩
  obtain ⟨locs, hlo⟩ : ∃ z : List Loc, z = [] := ⟨_, rfl⟩
  have hP : va_P D vwCl (sgw 26 h (eM ca h) f L Q) H := by rw [hH]; exact hP
  have hS : va_S (sgA 26 h s.heap.size) s.heap H locs := by rw [hH, hlo]; exact hS
  suffices hgo : W p l e ({ frames := 10, cells := 0, slots := 0, locals := 227 }) s m ([.ref (h 0)] : List Value).toArray below meth cd H locs 0 0 Qz (F0 m 0 ls []) by rw [hH, hlo] at hgo; exact hgo
  clear hH hlo
  obtain ⟨v_1, ev_1⟩ : ∃ z : Int32, z = f 0 16 := ⟨_, rfl⟩
  have q_2 : 0 ≤ v_1.toInt ∧ v_1.toInt ≤ 6 := by rw [ev_1]; exact hI 0 16
  obtain ⟨v_3, ev_3⟩ : ∃ z : Int32, z = f 0 15 := ⟨_, rfl⟩
  have q_4 : (-1) ≤ v_3.toInt ∧ v_3.toInt ≤ 120 := by rw [ev_3]; exact hI 0 15
  obtain ⟨v_5, ev_5⟩ : ∃ z : Int32, z = f 0 13 := ⟨_, rfl⟩
  have q_6 : 0 ≤ v_5.toInt ∧ v_5.toInt ≤ 120 := by rw [ev_5]; exact hI 0 13
  have o_7 : (f 0 16).toInt = v_1.toInt := (congrArg Int32.toInt (show f 0 16 = v_1 from ev_1.symm))
  have o_8 : (f 0 15).toInt = v_3.toInt := (congrArg Int32.toInt (show f 0 15 = v_3 from ev_3.symm))
  have o_9 : (f 0 13).toInt = v_5.toInt := (congrArg Int32.toInt (show f 0 13 = v_5 from ev_5.symm))
  have hF : sgK WkX12_compared_5 f f := sgK.rf
  refine lv_aload_n hx hb dX12_compared_0 rfl (lv_at hl 0 rfl) ?_
  have q_10 : (f 0 16).toInt = v_1.toInt := (congrArg Int32.toInt (show f 0 16 = v_1 from ev_1.symm))
  have q_11 : (f 0 15).toInt = v_3.toInt := (congrArg Int32.toInt (show f 0 15 = v_3 from ev_3.symm))
  have q_12 : (f 0 16).toInt = v_1.toInt := (congrArg Int32.toInt (show f 0 16 = v_1 from ev_1.symm))
  have q_13 : (f 0 13).toInt = v_5.toInt := (congrArg Int32.toInt (show f 0 13 = v_5 from ev_5.symm))
  refine sg_calli (va_runV (As := []) (rest := []) ⟨hx, hb, hml, hown, hts⟩ (kX12_sums_5 l D ca za h hh f L Q hI (by omega) (by omega) H.size) (cwV 0 hts (gw_V (fun _ h => List.mem_cons_of_mem _ h) mw_852 mw_853 mw_854 mw_619 mw_851) rfl rfl rfl (by decide +kernel) ⟨Nat.le_of_ble_eq_true rfl, Nat.le_of_ble_eq_true rfl⟩) (sg_preV (ci := 12) (C := RX12) (T := TX12) (N := 55) hA hK hP hS hZ 0 (by decide) rfl rfl) rfl rfl hl.1 rfl (lv_room (Nat.le_of_ble_eq_true rfl)) dX12_compared_1 ⟨Nat.le_refl _, Nat.le_refl _⟩) hA hS (fun r_17 f_14 L_15 Q_16 H locs hq hP hS => ?_)
  obtain ⟨⟨hI, hk_f_14, eL9, eQ9⟩, hq, p_18, p_19, p_20⟩ := hq
  rw [eL9, eQ9] at hP; clear eL9 eQ9
  have hF : sgK WkX12_compared_5 f f_14 := sgK.tr hF hk_f_14 (by decide)
  obtain ⟨v_21, ev_21⟩ : ∃ z : Int32, z = f_14 0 13 := ⟨_, rfl⟩
  have q_22 : 0 ≤ v_21.toInt ∧ v_21.toInt ≤ 120 := by rw [ev_21]; exact hI 0 13
  have q_23 : (f_14 0 13).toInt = v_21.toInt := (congrArg Int32.toInt (show f_14 0 13 = v_21 from ev_21.symm))
  obtain ⟨v_24, ev_24⟩ : ∃ z : Int32, z = f_14 0 16 := ⟨_, rfl⟩
  have q_25 : 0 ≤ v_24.toInt ∧ v_24.toInt ≤ 6 := by rw [ev_24]; exact hI 0 16
  have q_26 : (f_14 0 16).toInt = v_24.toInt := (congrArg Int32.toInt (show f_14 0 16 = v_24 from ev_24.symm))
  obtain ⟨v_27, ev_27⟩ : ∃ z : Int32, z = f_14 0 15 := ⟨_, rfl⟩
  have q_28 : (-1) ≤ v_27.toInt ∧ v_27.toInt ≤ 120 := by rw [ev_27]; exact hI 0 15
  have q_29 : (f_14 0 15).toInt = v_27.toInt := (congrArg Int32.toInt (show f_14 0 15 = v_27 from ev_27.symm))
  have q_30 : (f_14 0 16).toInt = v_24.toInt := (congrArg Int32.toInt (show f_14 0 16 = v_24 from ev_24.symm))
  refine lv_istore_n (lv' := [(1, .int r_17), (0, .ref (h 0))]) hx hb dX12_compared_4 rfl hl (by decide) rfl (fun ls hl => ?_)
  refine lv_aload_n hx hb dX12_compared_5 rfl (lv_at hl 1 rfl) ?_
  have q_31 : (f_14 0 13).toInt = v_21.toInt := (congrArg Int32.toInt (show f_14 0 13 = v_21 from ev_21.symm))
  obtain ⟨v_32, ev_32⟩ : ∃ z : Int32, z = f_14 0 14 := ⟨_, rfl⟩
  have q_33 : 0 ≤ v_32.toInt ∧ v_32.toInt ≤ 120 := by rw [ev_32]; exact hI 0 14
  have q_34 : (f_14 0 14).toInt = v_32.toInt := (congrArg Int32.toInt (show f_14 0 14 = v_32 from ev_32.symm))
  refine sg_calli (va_runV (As := []) (rest := []) ⟨hx, hb, hml, hown, hts⟩ (kX12_byteAt l D ca za h hh f_14 L Q hI H.size) (cwV 0 hts (gw_V (fun _ h => List.mem_cons_of_mem _ h) mw_840 mw_841 mw_842 mw_619 mw_839) rfl rfl rfl (by decide +kernel) ⟨Nat.le_of_ble_eq_true rfl, Nat.le_of_ble_eq_true rfl⟩) (sg_preV (ci := 12) (C := RX12) (T := TX12) (N := 55) hA hK hP hS hZ 0 (by decide) rfl rfl) rfl rfl hl.1 rfl (lv_room (Nat.le_of_ble_eq_true rfl)) dX12_compared_6 ⟨Nat.le_refl _, Nat.le_refl _⟩) hA hS (fun r_38 f_35 L_36 Q_37 H locs hq hP hS => ?_)
  obtain ⟨⟨ef9, eL9, eQ9⟩, hq, p_39⟩ := hq
  rw [ef9, eL9, eQ9] at hP; clear ef9 eL9 eQ9
  refine lv_istore_n (lv' := [(2, .int r_38), (1, .int r_17), (0, .ref (h 0))]) hx hb dX12_compared_9 rfl hl (by decide) rfl (fun ls hl => ?_)
  refine lv_aload_n hx hb dX12_compared_10 rfl (lv_at hl 2 rfl) ?_
  refine sg_get (ci := 12) (v := .int v_27) (C := RX12) (T := TX12) (N := 55) hx hb hts (fun w h => List.mem_cons_of_mem _ (gx_12 w h)) hown hK hP 0 (by decide) rfl rfl 15 (by decide) (hts _ (List.mem_cons_of_mem _ mw_627)) (fun _ h9 => h9) (congrArg (fun z => some (Value.int z)) (show f_14 0 15 = v_27 from ev_27.symm)) dX12_compared_11 ?_
  refine lv_if_ge (tgt := 35) hx hb dX12_compared_14 (by decide) (fun c => ?_) (fun c => ?_)
  · skip
    have c_40 : 0 ≤ v_27.toInt := (by have z := bn_le c; have k1 : (0 : Int32).toInt = 0 := (by decide); omega)
    refine lv_iload_n hx hb dX12_compared_35 rfl (lv_at hl 1 rfl) ?_
    have q_42 : (f_14 0 13).toInt = v_21.toInt := (congrArg Int32.toInt (show f_14 0 13 = v_21 from ev_21.symm))
    have q_43 : (f_14 0 16).toInt = v_24.toInt := (congrArg Int32.toInt (show f_14 0 16 = v_24 from ev_24.symm))
    have q_44 : (f_14 0 15).toInt = v_27.toInt := (congrArg Int32.toInt (show f_14 0 15 = v_27 from ev_27.symm))
    have q_45 : (f_14 0 16).toInt = v_24.toInt := (congrArg Int32.toInt (show f_14 0 16 = v_24 from ev_24.symm))
    exact hret _ _ _ _ (r_17) f_14 L Q dX12_compared_36 hP hS ⟨⟨hI, hF, rfl, rfl⟩, trivial, (by omega), (by omega), (by omega)⟩
  · skip
    have c_41 : v_27.toInt < 0 := (by have z := bn_nle c; have k1 : (0 : Int32).toInt = 0 := (by decide); omega)
    refine lv_iload_n hx hb dX12_compared_17 rfl (lv_at hl 0 rfl) ?_
    refine lv_bipush (v := 60) hx hb dX12_compared_18 (by decide) ?_
    refine lv_icmp_eq (tgt := 37) hx hb dX12_compared_20 (by decide) (fun c => ?_) (fun c => ?_)
    · skip
      have c_46 : r_38.toInt = 60 := (by have z := Int32.toInt_inj.mpr c; have k1 : (60 : Int32).toInt = 60 := (by decide); omega)
      refine lv_aload_n hx hb dX12_compared_37 rfl (lv_at hl 2 rfl) ?_
      refine lv_dup hx hb dX12_compared_38 rfl ?_
      refine sg_get (ci := 12) (v := .int v_21) (C := RX12) (T := TX12) (N := 55) hx hb hts (fun w h => List.mem_cons_of_mem _ (gx_12 w h)) hown hK hP 0 (by decide) rfl rfl 13 (by decide) (hts _ (List.mem_cons_of_mem _ mw_625)) (fun _ h9 => h9) (congrArg (fun z => some (Value.int z)) (show f_14 0 13 = v_21 from ev_21.symm)) dX12_compared_39 ?_
      refine lv_iconst (v := 1) hx hb dX12_compared_42 (by decide) ?_
      refine lv_iadd hx hb dX12_compared_43 ?_
      refine lv_topi (fun v_48 ev_48 => ?_)
      have q_49 : v_48.toInt = v_21.toInt + 1 := by rw [ev_48]; have k1 : (1 : Int32).toInt = 1 := (by decide); exact (bn_addI (by omega) (by omega)).trans (by omega)
      refine sg_put (ci := 12) (x := v_48) (ty := .int) (C := RX12) (T := TX12) (N := 55) hx hb hts (fun w h => List.mem_cons_of_mem _ (gx_12 w h)) tyX12 tyX12_ok nmX12 hown hh hA hK hP hS 0 (by decide) rfl rfl 13 (by decide) (hts _ (List.mem_cons_of_mem _ mw_625)) (fun _ h9 => h9) rfl rfl (by decide +kernel) rfl rfl (Nat.le_of_ble_eq_true rfl) dX12_compared_44 (fun f_50 H locs ef_50 hP hS => ?_)
      have hI : sgI loM hiM f_50 := by rw [ef_50]; exact sgI.put hI 0 13 (show 0 ≤ (v_48 : Int32).toInt ∧ (v_48 : Int32).toInt ≤ 120 from by omega)
      have hF : sgK WkX12_compared_5 f f_50 := sgK.put hF ef_50 (by rfl)
      refine lv_aload_n hx hb dX12_compared_47 rfl (lv_at hl 2 rfl) ?_
      have q_51 : (f_50 0 16).toInt = v_24.toInt := (congrArg Int32.toInt (show f_50 0 16 = v_24 from (by rw [ef_50, sg_up_s, sgu_n (by decide)]; exact ev_24.symm)))
      have q_52 : (f_50 0 15).toInt = v_27.toInt := (congrArg Int32.toInt (show f_50 0 15 = v_27 from (by rw [ef_50, sg_up_s, sgu_n (by decide)]; exact ev_27.symm)))
      have q_53 : (f_50 0 16).toInt = v_24.toInt := (congrArg Int32.toInt (show f_50 0 16 = v_24 from (by rw [ef_50, sg_up_s, sgu_n (by decide)]; exact ev_24.symm)))
      have q_54 : (f_50 0 13).toInt = v_48.toInt := (congrArg Int32.toInt (show f_50 0 13 = v_48 from (by rw [ef_50, sg_up_s, sgu_s])))
      refine sg_calli (va_runV (As := []) (rest := []) ⟨hx, hb, hml, hown, hts⟩ (kX12_sums_5 l D ca za h hh f_50 L Q hI (by omega) (by omega) H.size) (cwV 0 hts (gw_V (fun _ h => List.mem_cons_of_mem _ h) mw_852 mw_853 mw_854 mw_619 mw_851) rfl rfl rfl (by decide +kernel) ⟨Nat.le_of_ble_eq_true rfl, Nat.le_of_ble_eq_true rfl⟩) (sg_preV (ci := 12) (C := RX12) (T := TX12) (N := 55) hA hK hP hS hZ 0 (by decide) rfl rfl) rfl rfl hl.1 rfl (lv_room (Nat.le_of_ble_eq_true rfl)) dX12_compared_48 ⟨Nat.le_refl _, Nat.le_refl _⟩) hA hS (fun r_58 f_55 L_56 Q_57 H locs hq hP hS => ?_)
      obtain ⟨⟨hI, hk_f_55, eL9, eQ9⟩, hq, p_59, p_60, p_61⟩ := hq
      rw [eL9, eQ9] at hP; clear eL9 eQ9
      have hF : sgK WkX12_compared_5 f f_55 := sgK.tr hF hk_f_55 (by decide)
      obtain ⟨v_62, ev_62⟩ : ∃ z : Int32, z = f_55 0 13 := ⟨_, rfl⟩
      have q_63 : 0 ≤ v_62.toInt ∧ v_62.toInt ≤ 120 := by rw [ev_62]; exact hI 0 13
      have q_64 : (f_55 0 13).toInt = v_62.toInt := (congrArg Int32.toInt (show f_55 0 13 = v_62 from ev_62.symm))
      obtain ⟨v_65, ev_65⟩ : ∃ z : Int32, z = f_55 0 16 := ⟨_, rfl⟩
      have q_66 : 0 ≤ v_65.toInt ∧ v_65.toInt ≤ 6 := by rw [ev_65]; exact hI 0 16
      have q_67 : (f_55 0 16).toInt = v_65.toInt := (congrArg Int32.toInt (show f_55 0 16 = v_65 from ev_65.symm))
      obtain ⟨v_68, ev_68⟩ : ∃ z : Int32, z = f_55 0 15 := ⟨_, rfl⟩
      have q_69 : (-1) ≤ v_68.toInt ∧ v_68.toInt ≤ 120 := by rw [ev_68]; exact hI 0 15
      have q_70 : (f_55 0 15).toInt = v_68.toInt := (congrArg Int32.toInt (show f_55 0 15 = v_68 from ev_68.symm))
      have q_71 : (f_55 0 16).toInt = v_65.toInt := (congrArg Int32.toInt (show f_55 0 16 = v_65 from ev_65.symm))
      refine lv_istore_n (lv' := [(3, .int r_58), (2, .int r_38), (1, .int r_17), (0, .ref (h 0))]) hx hb dX12_compared_51 rfl hl (by decide) rfl (fun ls hl => ?_)
      refine lv_iload_n hx hb dX12_compared_52 rfl (lv_at hl 1 rfl) ?_
      refine lv_bipush (v := 60) hx hb dX12_compared_53 (by decide) ?_
      refine lv_icmp_ne (tgt := 66) hx hb dX12_compared_55 (by decide) (fun c => ?_) (fun c => ?_)
      · skip
        exfalso; have c_72 : r_38.toInt ≠ 60 := (by have z := bn_ne c; have k1 : (60 : Int32).toInt = 60 := (by decide); omega); omega
      · skip
        have c_73 : r_38.toInt = 60 := (by have z := Int32.toInt_inj.mpr c; have k1 : (60 : Int32).toInt = 60 := (by decide); omega)
        refine lv_iload_n hx hb dX12_compared_58 rfl (lv_at hl 2 rfl) ?_
        refine lv_iload_n hx hb dX12_compared_59 rfl (lv_at hl 0 rfl) ?_
        refine lv_icmp_ge (tgt := 89) hx hb dX12_compared_60 (by decide) (fun c => ?_) (fun c => ?_)
        · skip
          have c_74 : r_58.toInt ≤ r_17.toInt := (by have z := bn_le c; omega)
          refine lv_iconst (v := 0) hx hb dX12_compared_89 (by decide) ?_
          have q_76 : (f_55 0 13).toInt = v_62.toInt := (congrArg Int32.toInt (show f_55 0 13 = v_62 from ev_62.symm))
          have q_77 : (f_55 0 16).toInt = v_65.toInt := (congrArg Int32.toInt (show f_55 0 16 = v_65 from ev_65.symm))
          have q_78 : (f_55 0 15).toInt = v_68.toInt := (congrArg Int32.toInt (show f_55 0 15 = v_68 from ev_68.symm))
          have q_79 : (f_55 0 16).toInt = v_65.toInt := (congrArg Int32.toInt (show f_55 0 16 = v_65 from ev_65.symm))
          have k99 : (0 : Int32).toInt = 0 := (by decide)
          exact hret _ _ _ _ (0) f_55 L Q dX12_compared_90 hP hS ⟨⟨hI, hF, rfl, rfl⟩, trivial, (by omega), (by omega), (by omega)⟩
        · skip
          have c_75 : r_17.toInt < r_58.toInt := (by have z := bn_nle c; omega)
          refine lv_goto (tgt := 85) hx hb dX12_compared_63 (by decide) ?_
          refine lv_iconst (v := 1) hx hb dX12_compared_85 (by decide) ?_
          refine lv_goto (tgt := 90) hx hb dX12_compared_86 (by decide) ?_
          have q_80 : (f_55 0 13).toInt = v_62.toInt := (congrArg Int32.toInt (show f_55 0 13 = v_62 from ev_62.symm))
          have q_81 : (f_55 0 16).toInt = v_65.toInt := (congrArg Int32.toInt (show f_55 0 16 = v_65 from ev_65.symm))
          have q_82 : (f_55 0 15).toInt = v_68.toInt := (congrArg Int32.toInt (show f_55 0 15 = v_68 from ev_68.symm))
          have q_83 : (f_55 0 16).toInt = v_65.toInt := (congrArg Int32.toInt (show f_55 0 16 = v_65 from ev_65.symm))
          have k99 : (1 : Int32).toInt = 1 := (by decide)
          exact hret _ _ _ _ (1) f_55 L Q dX12_compared_90 hP hS ⟨⟨hI, hF, rfl, rfl⟩, trivial, (by omega), (by omega), (by omega)⟩
    · skip
      have c_47 : r_38.toInt ≠ 60 := (by have z := bn_ne c; have k1 : (60 : Int32).toInt = 60 := (by decide); omega)
      refine lv_iload_n hx hb dX12_compared_23 rfl (lv_at hl 0 rfl) ?_
      refine lv_bipush (v := 61) hx hb dX12_compared_24 (by decide) ?_
      refine lv_icmp_eq (tgt := 37) hx hb dX12_compared_26 (by decide) (fun c => ?_) (fun c => ?_)
      · skip
        have c_84 : r_38.toInt = 61 := (by have z := Int32.toInt_inj.mpr c; have k1 : (61 : Int32).toInt = 61 := (by decide); omega)
        refine lv_aload_n hx hb dX12_compared_37 rfl (lv_at hl 2 rfl) ?_
        refine lv_dup hx hb dX12_compared_38 rfl ?_
        refine sg_get (ci := 12) (v := .int v_21) (C := RX12) (T := TX12) (N := 55) hx hb hts (fun w h => List.mem_cons_of_mem _ (gx_12 w h)) hown hK hP 0 (by decide) rfl rfl 13 (by decide) (hts _ (List.mem_cons_of_mem _ mw_625)) (fun _ h9 => h9) (congrArg (fun z => some (Value.int z)) (show f_14 0 13 = v_21 from ev_21.symm)) dX12_compared_39 ?_
        refine lv_iconst (v := 1) hx hb dX12_compared_42 (by decide) ?_
        refine lv_iadd hx hb dX12_compared_43 ?_
        refine lv_topi (fun v_86 ev_86 => ?_)
        have q_87 : v_86.toInt = v_21.toInt + 1 := by rw [ev_86]; have k1 : (1 : Int32).toInt = 1 := (by decide); exact (bn_addI (by omega) (by omega)).trans (by omega)
        refine sg_put (ci := 12) (x := v_86) (ty := .int) (C := RX12) (T := TX12) (N := 55) hx hb hts (fun w h => List.mem_cons_of_mem _ (gx_12 w h)) tyX12 tyX12_ok nmX12 hown hh hA hK hP hS 0 (by decide) rfl rfl 13 (by decide) (hts _ (List.mem_cons_of_mem _ mw_625)) (fun _ h9 => h9) rfl rfl (by decide +kernel) rfl rfl (Nat.le_of_ble_eq_true rfl) dX12_compared_44 (fun f_88 H locs ef_88 hP hS => ?_)
        have hI : sgI loM hiM f_88 := by rw [ef_88]; exact sgI.put hI 0 13 (show 0 ≤ (v_86 : Int32).toInt ∧ (v_86 : Int32).toInt ≤ 120 from by omega)
        have hF : sgK WkX12_compared_5 f f_88 := sgK.put hF ef_88 (by rfl)
        refine lv_aload_n hx hb dX12_compared_47 rfl (lv_at hl 2 rfl) ?_
        have q_89 : (f_88 0 16).toInt = v_24.toInt := (congrArg Int32.toInt (show f_88 0 16 = v_24 from (by rw [ef_88, sg_up_s, sgu_n (by decide)]; exact ev_24.symm)))
        have q_90 : (f_88 0 15).toInt = v_27.toInt := (congrArg Int32.toInt (show f_88 0 15 = v_27 from (by rw [ef_88, sg_up_s, sgu_n (by decide)]; exact ev_27.symm)))
        have q_91 : (f_88 0 16).toInt = v_24.toInt := (congrArg Int32.toInt (show f_88 0 16 = v_24 from (by rw [ef_88, sg_up_s, sgu_n (by decide)]; exact ev_24.symm)))
        have q_92 : (f_88 0 13).toInt = v_86.toInt := (congrArg Int32.toInt (show f_88 0 13 = v_86 from (by rw [ef_88, sg_up_s, sgu_s])))
        refine sg_calli (va_runV (As := []) (rest := []) ⟨hx, hb, hml, hown, hts⟩ (kX12_sums_5 l D ca za h hh f_88 L Q hI (by omega) (by omega) H.size) (cwV 0 hts (gw_V (fun _ h => List.mem_cons_of_mem _ h) mw_852 mw_853 mw_854 mw_619 mw_851) rfl rfl rfl (by decide +kernel) ⟨Nat.le_of_ble_eq_true rfl, Nat.le_of_ble_eq_true rfl⟩) (sg_preV (ci := 12) (C := RX12) (T := TX12) (N := 55) hA hK hP hS hZ 0 (by decide) rfl rfl) rfl rfl hl.1 rfl (lv_room (Nat.le_of_ble_eq_true rfl)) dX12_compared_48 ⟨Nat.le_refl _, Nat.le_refl _⟩) hA hS (fun r_96 f_93 L_94 Q_95 H locs hq hP hS => ?_)
        obtain ⟨⟨hI, hk_f_93, eL9, eQ9⟩, hq, p_97, p_98, p_99⟩ := hq
        rw [eL9, eQ9] at hP; clear eL9 eQ9
        have hF : sgK WkX12_compared_5 f f_93 := sgK.tr hF hk_f_93 (by decide)
        obtain ⟨v_100, ev_100⟩ : ∃ z : Int32, z = f_93 0 13 := ⟨_, rfl⟩
        have q_101 : 0 ≤ v_100.toInt ∧ v_100.toInt ≤ 120 := by rw [ev_100]; exact hI 0 13
        have q_102 : (f_93 0 13).toInt = v_100.toInt := (congrArg Int32.toInt (show f_93 0 13 = v_100 from ev_100.symm))
        obtain ⟨v_103, ev_103⟩ : ∃ z : Int32, z = f_93 0 16 := ⟨_, rfl⟩
        have q_104 : 0 ≤ v_103.toInt ∧ v_103.toInt ≤ 6 := by rw [ev_103]; exact hI 0 16
        have q_105 : (f_93 0 16).toInt = v_103.toInt := (congrArg Int32.toInt (show f_93 0 16 = v_103 from ev_103.symm))
        obtain ⟨v_106, ev_106⟩ : ∃ z : Int32, z = f_93 0 15 := ⟨_, rfl⟩
        have q_107 : (-1) ≤ v_106.toInt ∧ v_106.toInt ≤ 120 := by rw [ev_106]; exact hI 0 15
        have q_108 : (f_93 0 15).toInt = v_106.toInt := (congrArg Int32.toInt (show f_93 0 15 = v_106 from ev_106.symm))
        have q_109 : (f_93 0 16).toInt = v_103.toInt := (congrArg Int32.toInt (show f_93 0 16 = v_103 from ev_103.symm))
        refine lv_istore_n (lv' := [(3, .int r_96), (2, .int r_38), (1, .int r_17), (0, .ref (h 0))]) hx hb dX12_compared_51 rfl hl (by decide) rfl (fun ls hl => ?_)
        refine lv_iload_n hx hb dX12_compared_52 rfl (lv_at hl 1 rfl) ?_
        refine lv_bipush (v := 60) hx hb dX12_compared_53 (by decide) ?_
        refine lv_icmp_ne (tgt := 66) hx hb dX12_compared_55 (by decide) (fun c => ?_) (fun c => ?_)
        · skip
          have c_110 : r_38.toInt ≠ 60 := (by have z := bn_ne c; have k1 : (60 : Int32).toInt = 60 := (by decide); omega)
          refine lv_iload_n hx hb dX12_compared_66 rfl (lv_at hl 1 rfl) ?_
          refine lv_bipush (v := 61) hx hb dX12_compared_67 (by decide) ?_
          refine lv_icmp_ne (tgt := 80) hx hb dX12_compared_69 (by decide) (fun c => ?_) (fun c => ?_)
          · skip
            exfalso; have c_112 : r_38.toInt ≠ 61 := (by have z := bn_ne c; have k1 : (61 : Int32).toInt = 61 := (by decide); omega); omega
          · skip
            have c_113 : r_38.toInt = 61 := (by have z := Int32.toInt_inj.mpr c; have k1 : (61 : Int32).toInt = 61 := (by decide); omega)
            refine lv_iload_n hx hb dX12_compared_72 rfl (lv_at hl 2 rfl) ?_
            refine lv_iload_n hx hb dX12_compared_73 rfl (lv_at hl 0 rfl) ?_
            refine lv_icmp_ne (tgt := 89) hx hb dX12_compared_74 (by decide) (fun c => ?_) (fun c => ?_)
            · skip
              have c_114 : r_17.toInt ≠ r_96.toInt := (by have z := bn_ne c; omega)
              refine lv_iconst (v := 0) hx hb dX12_compared_89 (by decide) ?_
              have q_116 : (f_93 0 13).toInt = v_100.toInt := (congrArg Int32.toInt (show f_93 0 13 = v_100 from ev_100.symm))
              have q_117 : (f_93 0 16).toInt = v_103.toInt := (congrArg Int32.toInt (show f_93 0 16 = v_103 from ev_103.symm))
              have q_118 : (f_93 0 15).toInt = v_106.toInt := (congrArg Int32.toInt (show f_93 0 15 = v_106 from ev_106.symm))
              have q_119 : (f_93 0 16).toInt = v_103.toInt := (congrArg Int32.toInt (show f_93 0 16 = v_103 from ev_103.symm))
              have k99 : (0 : Int32).toInt = 0 := (by decide)
              exact hret _ _ _ _ (0) f_93 L Q dX12_compared_90 hP hS ⟨⟨hI, hF, rfl, rfl⟩, trivial, (by omega), (by omega), (by omega)⟩
            · skip
              have c_115 : r_17.toInt = r_96.toInt := (by have z := Int32.toInt_inj.mpr c; omega)
              refine lv_goto (tgt := 85) hx hb dX12_compared_77 (by decide) ?_
              refine lv_iconst (v := 1) hx hb dX12_compared_85 (by decide) ?_
              refine lv_goto (tgt := 90) hx hb dX12_compared_86 (by decide) ?_
              have q_120 : (f_93 0 13).toInt = v_100.toInt := (congrArg Int32.toInt (show f_93 0 13 = v_100 from ev_100.symm))
              have q_121 : (f_93 0 16).toInt = v_103.toInt := (congrArg Int32.toInt (show f_93 0 16 = v_103 from ev_103.symm))
              have q_122 : (f_93 0 15).toInt = v_106.toInt := (congrArg Int32.toInt (show f_93 0 15 = v_106 from ev_106.symm))
              have q_123 : (f_93 0 16).toInt = v_103.toInt := (congrArg Int32.toInt (show f_93 0 16 = v_103 from ev_103.symm))
              have k99 : (1 : Int32).toInt = 1 := (by decide)
              exact hret _ _ _ _ (1) f_93 L Q dX12_compared_90 hP hS ⟨⟨hI, hF, rfl, rfl⟩, trivial, (by omega), (by omega), (by omega)⟩
        · skip
          exfalso; have c_111 : r_38.toInt = 60 := (by have z := Int32.toInt_inj.mpr c; have k1 : (60 : Int32).toInt = 60 := (by decide); omega); omega
      · skip
        have c_85 : r_38.toInt ≠ 61 := (by have z := bn_ne c; have k1 : (61 : Int32).toInt = 61 := (by decide); omega)
        refine lv_iload_n hx hb dX12_compared_29 rfl (lv_at hl 0 rfl) ?_
        refine lv_bipush (v := 62) hx hb dX12_compared_30 (by decide) ?_
        refine lv_icmp_eq (tgt := 37) hx hb dX12_compared_32 (by decide) (fun c => ?_) (fun c => ?_)
        · skip
          have c_124 : r_38.toInt = 62 := (by have z := Int32.toInt_inj.mpr c; have k1 : (62 : Int32).toInt = 62 := (by decide); omega)
          refine lv_aload_n hx hb dX12_compared_37 rfl (lv_at hl 2 rfl) ?_
          refine lv_dup hx hb dX12_compared_38 rfl ?_
          refine sg_get (ci := 12) (v := .int v_21) (C := RX12) (T := TX12) (N := 55) hx hb hts (fun w h => List.mem_cons_of_mem _ (gx_12 w h)) hown hK hP 0 (by decide) rfl rfl 13 (by decide) (hts _ (List.mem_cons_of_mem _ mw_625)) (fun _ h9 => h9) (congrArg (fun z => some (Value.int z)) (show f_14 0 13 = v_21 from ev_21.symm)) dX12_compared_39 ?_
          refine lv_iconst (v := 1) hx hb dX12_compared_42 (by decide) ?_
          refine lv_iadd hx hb dX12_compared_43 ?_
          refine lv_topi (fun v_126 ev_126 => ?_)
          have q_127 : v_126.toInt = v_21.toInt + 1 := by rw [ev_126]; have k1 : (1 : Int32).toInt = 1 := (by decide); exact (bn_addI (by omega) (by omega)).trans (by omega)
          refine sg_put (ci := 12) (x := v_126) (ty := .int) (C := RX12) (T := TX12) (N := 55) hx hb hts (fun w h => List.mem_cons_of_mem _ (gx_12 w h)) tyX12 tyX12_ok nmX12 hown hh hA hK hP hS 0 (by decide) rfl rfl 13 (by decide) (hts _ (List.mem_cons_of_mem _ mw_625)) (fun _ h9 => h9) rfl rfl (by decide +kernel) rfl rfl (Nat.le_of_ble_eq_true rfl) dX12_compared_44 (fun f_128 H locs ef_128 hP hS => ?_)
          have hI : sgI loM hiM f_128 := by rw [ef_128]; exact sgI.put hI 0 13 (show 0 ≤ (v_126 : Int32).toInt ∧ (v_126 : Int32).toInt ≤ 120 from by omega)
          have hF : sgK WkX12_compared_5 f f_128 := sgK.put hF ef_128 (by rfl)
          refine lv_aload_n hx hb dX12_compared_47 rfl (lv_at hl 2 rfl) ?_
          have q_129 : (f_128 0 16).toInt = v_24.toInt := (congrArg Int32.toInt (show f_128 0 16 = v_24 from (by rw [ef_128, sg_up_s, sgu_n (by decide)]; exact ev_24.symm)))
          have q_130 : (f_128 0 15).toInt = v_27.toInt := (congrArg Int32.toInt (show f_128 0 15 = v_27 from (by rw [ef_128, sg_up_s, sgu_n (by decide)]; exact ev_27.symm)))
          have q_131 : (f_128 0 16).toInt = v_24.toInt := (congrArg Int32.toInt (show f_128 0 16 = v_24 from (by rw [ef_128, sg_up_s, sgu_n (by decide)]; exact ev_24.symm)))
          have q_132 : (f_128 0 13).toInt = v_126.toInt := (congrArg Int32.toInt (show f_128 0 13 = v_126 from (by rw [ef_128, sg_up_s, sgu_s])))
          refine sg_calli (va_runV (As := []) (rest := []) ⟨hx, hb, hml, hown, hts⟩ (kX12_sums_5 l D ca za h hh f_128 L Q hI (by omega) (by omega) H.size) (cwV 0 hts (gw_V (fun _ h => List.mem_cons_of_mem _ h) mw_852 mw_853 mw_854 mw_619 mw_851) rfl rfl rfl (by decide +kernel) ⟨Nat.le_of_ble_eq_true rfl, Nat.le_of_ble_eq_true rfl⟩) (sg_preV (ci := 12) (C := RX12) (T := TX12) (N := 55) hA hK hP hS hZ 0 (by decide) rfl rfl) rfl rfl hl.1 rfl (lv_room (Nat.le_of_ble_eq_true rfl)) dX12_compared_48 ⟨Nat.le_refl _, Nat.le_refl _⟩) hA hS (fun r_136 f_133 L_134 Q_135 H locs hq hP hS => ?_)
          obtain ⟨⟨hI, hk_f_133, eL9, eQ9⟩, hq, p_137, p_138, p_139⟩ := hq
          rw [eL9, eQ9] at hP; clear eL9 eQ9
          have hF : sgK WkX12_compared_5 f f_133 := sgK.tr hF hk_f_133 (by decide)
          obtain ⟨v_140, ev_140⟩ : ∃ z : Int32, z = f_133 0 13 := ⟨_, rfl⟩
          have q_141 : 0 ≤ v_140.toInt ∧ v_140.toInt ≤ 120 := by rw [ev_140]; exact hI 0 13
          have q_142 : (f_133 0 13).toInt = v_140.toInt := (congrArg Int32.toInt (show f_133 0 13 = v_140 from ev_140.symm))
          obtain ⟨v_143, ev_143⟩ : ∃ z : Int32, z = f_133 0 16 := ⟨_, rfl⟩
          have q_144 : 0 ≤ v_143.toInt ∧ v_143.toInt ≤ 6 := by rw [ev_143]; exact hI 0 16
          have q_145 : (f_133 0 16).toInt = v_143.toInt := (congrArg Int32.toInt (show f_133 0 16 = v_143 from ev_143.symm))
          obtain ⟨v_146, ev_146⟩ : ∃ z : Int32, z = f_133 0 15 := ⟨_, rfl⟩
          have q_147 : (-1) ≤ v_146.toInt ∧ v_146.toInt ≤ 120 := by rw [ev_146]; exact hI 0 15
          have q_148 : (f_133 0 15).toInt = v_146.toInt := (congrArg Int32.toInt (show f_133 0 15 = v_146 from ev_146.symm))
          have q_149 : (f_133 0 16).toInt = v_143.toInt := (congrArg Int32.toInt (show f_133 0 16 = v_143 from ev_143.symm))
          refine lv_istore_n (lv' := [(3, .int r_136), (2, .int r_38), (1, .int r_17), (0, .ref (h 0))]) hx hb dX12_compared_51 rfl hl (by decide) rfl (fun ls hl => ?_)
          refine lv_iload_n hx hb dX12_compared_52 rfl (lv_at hl 1 rfl) ?_
          refine lv_bipush (v := 60) hx hb dX12_compared_53 (by decide) ?_
          refine lv_icmp_ne (tgt := 66) hx hb dX12_compared_55 (by decide) (fun c => ?_) (fun c => ?_)
          · skip
            have c_150 : r_38.toInt ≠ 60 := (by have z := bn_ne c; have k1 : (60 : Int32).toInt = 60 := (by decide); omega)
            refine lv_iload_n hx hb dX12_compared_66 rfl (lv_at hl 1 rfl) ?_
            refine lv_bipush (v := 61) hx hb dX12_compared_67 (by decide) ?_
            refine lv_icmp_ne (tgt := 80) hx hb dX12_compared_69 (by decide) (fun c => ?_) (fun c => ?_)
            · skip
              have c_152 : r_38.toInt ≠ 61 := (by have z := bn_ne c; have k1 : (61 : Int32).toInt = 61 := (by decide); omega)
              refine lv_iload_n hx hb dX12_compared_80 rfl (lv_at hl 2 rfl) ?_
              refine lv_iload_n hx hb dX12_compared_81 rfl (lv_at hl 0 rfl) ?_
              refine lv_icmp_le (tgt := 89) hx hb dX12_compared_82 (by decide) (fun c => ?_) (fun c => ?_)
              · skip
                have c_154 : r_17.toInt ≤ r_136.toInt := (by have z := bn_le c; omega)
                refine lv_iconst (v := 0) hx hb dX12_compared_89 (by decide) ?_
                have q_156 : (f_133 0 13).toInt = v_140.toInt := (congrArg Int32.toInt (show f_133 0 13 = v_140 from ev_140.symm))
                have q_157 : (f_133 0 16).toInt = v_143.toInt := (congrArg Int32.toInt (show f_133 0 16 = v_143 from ev_143.symm))
                have q_158 : (f_133 0 15).toInt = v_146.toInt := (congrArg Int32.toInt (show f_133 0 15 = v_146 from ev_146.symm))
                have q_159 : (f_133 0 16).toInt = v_143.toInt := (congrArg Int32.toInt (show f_133 0 16 = v_143 from ev_143.symm))
                have k99 : (0 : Int32).toInt = 0 := (by decide)
                exact hret _ _ _ _ (0) f_133 L Q dX12_compared_90 hP hS ⟨⟨hI, hF, rfl, rfl⟩, trivial, (by omega), (by omega), (by omega)⟩
              · skip
                have c_155 : r_136.toInt < r_17.toInt := (by have z := bn_nle c; omega)
                refine lv_iconst (v := 1) hx hb dX12_compared_85 (by decide) ?_
                refine lv_goto (tgt := 90) hx hb dX12_compared_86 (by decide) ?_
                have q_160 : (f_133 0 13).toInt = v_140.toInt := (congrArg Int32.toInt (show f_133 0 13 = v_140 from ev_140.symm))
                have q_161 : (f_133 0 16).toInt = v_143.toInt := (congrArg Int32.toInt (show f_133 0 16 = v_143 from ev_143.symm))
                have q_162 : (f_133 0 15).toInt = v_146.toInt := (congrArg Int32.toInt (show f_133 0 15 = v_146 from ev_146.symm))
                have q_163 : (f_133 0 16).toInt = v_143.toInt := (congrArg Int32.toInt (show f_133 0 16 = v_143 from ev_143.symm))
                have k99 : (1 : Int32).toInt = 1 := (by decide)
                exact hret _ _ _ _ (1) f_133 L Q dX12_compared_90 hP hS ⟨⟨hI, hF, rfl, rfl⟩, trivial, (by omega), (by omega), (by omega)⟩
            · skip
              exfalso; have c_153 : r_38.toInt = 61 := (by have z := Int32.toInt_inj.mpr c; have k1 : (61 : Int32).toInt = 61 := (by decide); omega); omega
          · skip
            exfalso; have c_151 : r_38.toInt = 60 := (by have z := Int32.toInt_inj.mpr c; have k1 : (60 : Int32).toInt = 60 := (by decide); omega); omega
        · skip
          have c_125 : r_38.toInt ≠ 62 := (by have z := bn_ne c; have k1 : (62 : Int32).toInt = 62 := (by decide); omega)
          refine lv_iload_n hx hb dX12_compared_35 rfl (lv_at hl 1 rfl) ?_
          have q_164 : (f_14 0 13).toInt = v_21.toInt := (congrArg Int32.toInt (show f_14 0 13 = v_21 from ev_21.symm))
          have q_165 : (f_14 0 16).toInt = v_24.toInt := (congrArg Int32.toInt (show f_14 0 16 = v_24 from ev_24.symm))
          have q_166 : (f_14 0 15).toInt = v_27.toInt := (congrArg Int32.toInt (show f_14 0 15 = v_27 from ev_27.symm))
          have q_167 : (f_14 0 16).toInt = v_24.toInt := (congrArg Int32.toInt (show f_14 0 16 = v_24 from ev_24.symm))
          exact hret _ _ _ _ (r_17) f_14 L Q dX12_compared_36 hP hS ⟨⟨hI, hF, rfl, rfl⟩, trivial, (by omega), (by omega), (by omega)⟩

abbrev WkX12_both_5 : List (Nat × Nat × Option Nat) := [(0, 0, some 13), (0, 0, some 15), (0, 0, some 16)]
set_option maxHeartbeats 4000000 in
set_option maxRecDepth 100000 in
theorem kX12_both_5 (l : Launch) (D : va_G) (ca : Nat → ClassId) (za h : Nat → Nat) (hh : sgH 26 h) (f : sg_F) (L : sg_L) (Q : sg_Q) (hI : sgI loM hiM f) (p0 : 5 ≤ (f 0 16).toInt) (p1 : 0 ≤ (f 0 15).toInt ∨ (f 0 16).toInt = 5) (sz : Nat) : Met l yX12_both gwX12_both { frames := 11, cells := 0, slots := 0, locals := 250 } (sgP D vwCl (tyX ca) 26 h (eM ca h) zcM za f L Q sz [.ref (h 0)]) (sgQi D vwCl 26 h (eM ca h) sz (fun r f1 L1 Q1 => ((sgI loM hiM f1 ∧ sgK WkX12_both_5 f f1 ∧ L1 = L ∧ Q1 = Q) ∧ True ∧ ((f 0 13).toInt ≤ (f1 0 13).toInt) ∧ (5 ≤ (f1 0 16).toInt) ∧ (0 ≤ (f1 0 15).toInt ∨ (f1 0 16).toInt = 5)))) 0 0 (sgA 26 h sz) := by
  refine sg_ofWi (cc := cX12_both) (maxL := 3) RX12 (by decide) rfl rfl (Nat.le_of_ble_eq_true rfl) ?_
  intro p e s m below meth cd Qz ls hx hb hml hown hts hK hZ hP hS hl hret
  have hA := sgY.self (n := 26) (h := h) (sz := s.heap.size)
  have hl : lv_has ls 3 [(0, .ref (h 0))] := hl
  obtain ⟨H, hH⟩ : ∃ z : Heap, z = s.heap := ⟨_, rfl⟩
  obtain ⟨locs, hlo⟩ : ∃ z : List Loc, z = [] := ⟨_, rfl⟩
  have hP : va_P D vwCl (sgw 26 h (eM ca h) f L Q) H := by rw [hH]; exact hP
  have hS : va_S (sgA 26 h s.heap.size) s.heap H locs := by rw [hH, hlo]; exact hS
  suffices hgo : W p l e ({ frames := 11, cells := 0, slots := 0, locals := 250 }) s m ([.ref (h 0)] : List Value).toArray below meth cd H locs 0 0 Qz (F0 m 0 ls []) by rw [hH, hlo] at hgo; exact hgo
  clear hH hlo
  obtain ⟨v_1, ev_1⟩ : ∃ z : Int32, z = f 0 16 := ⟨_, rfl⟩
  have q_2 : 0 ≤ v_1.toInt ∧ v_1.toInt ≤ 6 := by rw [ev_1]; exact hI 0 16
  obtain ⟨v_3, ev_3⟩ : ∃ z : Int32, z = f 0 15 := ⟨_, rfl⟩
  have q_4 : (-1) ≤ v_3.toInt ∧ v_3.toInt ≤ 120 := by rw [ev_3]; exact hI 0 15
  obtain ⟨v_5, ev_5⟩ : ∃ z : Int32, z = f 0 13 := ⟨_, rfl⟩
  have q_6 : 0 ≤ v_5.toInt ∧ v_5.toInt ≤ 120 := by rw [ev_5]; exact hI 0 13
  have o_7 : (f 0 16).toInt = v_1.toInt := (congrArg Int32.toInt (show f 0 16 = v_1 from ev_1.symm))
  have o_8 : (f 0 15).toInt = v_3.toInt := (congrArg Int32.toInt (show f 0 15 = v_3 from ev_3.symm))
  have o_9 : (f 0 13).toInt = v_5.toInt := (congrArg Int32.toInt (show f 0 13 = v_5 from ev_5.symm))
  have hF : sgK WkX12_both_5 f f := sgK.rf
  have loop_5 : ∀ (n_5 : Nat) (y1_5 : Int32) (fp_5 : sg_F) (H : Heap) (locs : List Loc) (ls : Array Slot), 120 - (fp_5 0 13).toInt < (n_5 : Int) → (f 0 13).toInt ≤ (fp_5 0 13).toInt → 5 ≤ (fp_5 0 16).toInt → 0 ≤ (fp_5 0 15).toInt ∨ (fp_5 0 16).toInt = 5 → sgI loM hiM fp_5 → sgK WkX12_both_5 f fp_5 → va_P D vwCl (sgw 26 h (eM ca h) fp_5 L Q) H → va_S (sgA 26 h s.heap.size) s.heap H locs → lv_has ls 3 [(0, .ref (h 0)), (1, .int y1_5)] → W p l e ({ frames := 11, cells := 0, slots := 0, locals := 250 }) s m ([.ref (h 0)] : List Value).toArray below meth cd H locs 0 0 Qz (F0 m 5 ls []) := by
    intro n_5
    induction n_5 with
    | zero => intro y1_5 fp_5 H locs ls hm_5 hg0_5 hg1_5 hg2_5 hI hF hP hS hl; have zb := (show 0 ≤ (fp_5 0 13).toInt ∧ (fp_5 0 13).toInt ≤ 120 from hI 0 13); exact absurd hm_5 (by omega)
    | succ n_5 ih_5 =>
      intro y1_5 fp_5 H locs ls hm_5 hg0_5 hg1_5 hg2_5 hI hF hP hS hl
      obtain ⟨v_10, ev_10⟩ : ∃ z : Int32, z = fp_5 0 13 := ⟨_, rfl⟩
      have q_11 : 0 ≤ v_10.toInt ∧ v_10.toInt ≤ 120 := by rw [ev_10]; exact hI 0 13
      have q_12 : (fp_5 0 13).toInt = v_10.toInt := by rw [ev_10]
      obtain ⟨v_13, ev_13⟩ : ∃ z : Int32, z = fp_5 0 16 := ⟨_, rfl⟩
      have q_14 : 0 ≤ v_13.toInt ∧ v_13.toInt ≤ 6 := by rw [ev_13]; exact hI 0 16
      have q_15 : (fp_5 0 16).toInt = v_13.toInt := by rw [ev_13]
      obtain ⟨v_16, ev_16⟩ : ∃ z : Int32, z = fp_5 0 15 := ⟨_, rfl⟩
      have q_17 : (-1) ≤ v_16.toInt ∧ v_16.toInt ≤ 120 := by rw [ev_16]; exact hI 0 15
      have q_18 : (fp_5 0 15).toInt = v_16.toInt := by rw [ev_16]
      refine lv_aload_n hx hb dX12_both_5 rfl (lv_at hl 0 rfl) ?_
      refine lv_bipush (v := 38) hx hb dX12_both_6 (by decide) ?_
      have q_19 : (fp_5 0 15).toInt = v_16.toInt := (congrArg Int32.toInt (show fp_5 0 15 = v_16 from ev_16.symm))
      have q_20 : (fp_5 0 13).toInt = v_10.toInt := (congrArg Int32.toInt (show fp_5 0 13 = v_10 from ev_10.symm))
      obtain ⟨v_21, ev_21⟩ : ∃ z : Int32, z = fp_5 0 14 := ⟨_, rfl⟩
      have q_22 : 0 ≤ v_21.toInt ∧ v_21.toInt ≤ 120 := by rw [ev_21]; exact hI 0 14
      have q_23 : (fp_5 0 14).toInt = v_21.toInt := (congrArg Int32.toInt (show fp_5 0 14 = v_21 from ev_21.symm))
      have q_24 : (fp_5 0 13).toInt = v_10.toInt := (congrArg Int32.toInt (show fp_5 0 13 = v_10 from ev_10.symm))
      have q_25 : (fp_5 0 13).toInt = v_10.toInt := (congrArg Int32.toInt (show fp_5 0 13 = v_10 from ev_10.symm))
      refine sg_calli (va_runV (As := [.int 38]) (rest := []) ⟨hx, hb, hml, hown, hts⟩ (kX12_takes_38 l D ca za h hh fp_5 L Q hI H.size) (cwV 1 hts (gw_V (fun _ h => List.mem_cons_of_mem _ h) mw_877 mw_878 mw_879 mw_619 mw_876) rfl rfl rfl (by decide +kernel) ⟨Nat.le_of_ble_eq_true rfl, Nat.le_of_ble_eq_true rfl⟩) (sg_preV (ci := 12) (C := RX12) (T := TX12) (N := 55) hA hK hP hS hZ 0 (by decide) rfl rfl) rfl rfl hl.1 rfl (lv_room (Nat.le_of_ble_eq_true rfl)) dX12_both_8 ⟨Nat.le_refl _, Nat.le_refl _⟩) hA hS (fun r_29 f_26 L_27 Q_28 H locs hq hP hS => ?_)
      obtain ⟨⟨hI, hk_f_26, eL9, eQ9⟩, hq⟩ := hq
      rw [eL9, eQ9] at hP; clear eL9 eQ9
      have hF : sgK WkX12_both_5 f f_26 := sgK.tr hF hk_f_26 (by decide)
      obtain ⟨v_30, ev_30⟩ : ∃ z : Int32, z = f_26 0 13 := ⟨_, rfl⟩
      have q_31 : 0 ≤ v_30.toInt ∧ v_30.toInt ≤ 120 := by rw [ev_30]; exact hI 0 13
      have q_32 : (f_26 0 13).toInt = v_30.toInt := (congrArg Int32.toInt (show f_26 0 13 = v_30 from ev_30.symm))
      have q_33 : (f_26 0 13).toInt = v_30.toInt := (congrArg Int32.toInt (show f_26 0 13 = v_30 from ev_30.symm))
      have k_34 : (38 : Int32).toInt = 38 := by decide
      rcases hq with ⟨rfl, hq⟩ | ⟨rfl, hq⟩
      · skip
        have q_35 := hq
        refine lv_if_eq (tgt := 36) hx hb dX12_both_11 (by decide) (fun c => absurd c (by decide)) (fun c => ?_)
        refine lv_aload_n hx hb dX12_both_14 rfl (lv_at hl 0 rfl) ?_
        have q_36 : (f_26 0 16).toInt = v_13.toInt := (congrArg Int32.toInt (show f_26 0 16 = v_13 from ((hk_f_26 0 16 (by decide)).trans ev_13.symm)))
        have q_37 : (f_26 0 15).toInt = v_16.toInt := (congrArg Int32.toInt (show f_26 0 15 = v_16 from ((hk_f_26 0 15 (by decide)).trans ev_16.symm)))
        have q_38 : (f_26 0 16).toInt = v_13.toInt := (congrArg Int32.toInt (show f_26 0 16 = v_13 from ((hk_f_26 0 16 (by decide)).trans ev_13.symm)))
        have q_39 : (f_26 0 13).toInt = v_30.toInt := (congrArg Int32.toInt (show f_26 0 13 = v_30 from ev_30.symm))
        refine sg_calli (va_runV (As := []) (rest := []) ⟨hx, hb, hml, hown, hts⟩ (kX12_compared_5 l D ca za h hh f_26 L Q hI (by omega) (by omega) H.size) (cwV 0 hts (gw_V (fun _ h => List.mem_cons_of_mem _ h) mw_856 mw_857 mw_858 mw_619 mw_855) rfl rfl rfl (by decide +kernel) ⟨Nat.le_of_ble_eq_true rfl, Nat.le_of_ble_eq_true rfl⟩) (sg_preV (ci := 12) (C := RX12) (T := TX12) (N := 55) hA hK hP hS hZ 0 (by decide) rfl rfl) rfl rfl hl.1 rfl (lv_room (Nat.le_of_ble_eq_true rfl)) dX12_both_15 ⟨Nat.le_refl _, Nat.le_refl _⟩) hA hS (fun r_43 f_40 L_41 Q_42 H locs hq hP hS => ?_)
        obtain ⟨⟨hI, hk_f_40, eL9, eQ9⟩, hq, p_44, p_45, p_46⟩ := hq
        rw [eL9, eQ9] at hP; clear eL9 eQ9
        have hF : sgK WkX12_both_5 f f_40 := sgK.tr hF hk_f_40 (by decide)
        obtain ⟨v_47, ev_47⟩ : ∃ z : Int32, z = f_40 0 13 := ⟨_, rfl⟩
        have q_48 : 0 ≤ v_47.toInt ∧ v_47.toInt ≤ 120 := by rw [ev_47]; exact hI 0 13
        have q_49 : (f_40 0 13).toInt = v_47.toInt := (congrArg Int32.toInt (show f_40 0 13 = v_47 from ev_47.symm))
        obtain ⟨v_50, ev_50⟩ : ∃ z : Int32, z = f_40 0 16 := ⟨_, rfl⟩
        have q_51 : 0 ≤ v_50.toInt ∧ v_50.toInt ≤ 6 := by rw [ev_50]; exact hI 0 16
        have q_52 : (f_40 0 16).toInt = v_50.toInt := (congrArg Int32.toInt (show f_40 0 16 = v_50 from ev_50.symm))
        obtain ⟨v_53, ev_53⟩ : ∃ z : Int32, z = f_40 0 15 := ⟨_, rfl⟩
        have q_54 : (-1) ≤ v_53.toInt ∧ v_53.toInt ≤ 120 := by rw [ev_53]; exact hI 0 15
        have q_55 : (f_40 0 15).toInt = v_53.toInt := (congrArg Int32.toInt (show f_40 0 15 = v_53 from ev_53.symm))
        have q_56 : (f_40 0 16).toInt = v_50.toInt := (congrArg Int32.toInt (show f_40 0 16 = v_50 from ev_50.symm))
        refine lv_istore_n (lv' := [(2, .int r_43), (0, .ref (h 0)), (1, .int y1_5)]) hx hb dX12_both_18 rfl hl (by decide) rfl (fun ls hl => ?_)
        refine lv_iload_n hx hb dX12_both_19 rfl (lv_at hl 2 rfl) ?_
        refine lv_if_eq (tgt := 31) hx hb dX12_both_20 (by decide) (fun c => ?_) (fun c => ?_)
        · skip
          have c_57 : y1_5.toInt = 0 := (by have z := Int32.toInt_inj.mpr c; have k1 : (0 : Int32).toInt = 0 := (by decide); omega)
          refine lv_iconst (v := 0) hx hb dX12_both_31 (by decide) ?_
          refine lv_istore_n (lv' := [(1, .int 0), (2, .int r_43), (0, .ref (h 0))]) hx hb dX12_both_32 rfl hl (by decide) rfl (fun ls hl => ?_)
          refine lv_goto (tgt := 5) hx hb dX12_both_33 (by decide) ?_
          exact ih_5 0 f_40 _ _ _ (by have kc0 : (0 : Int32).toInt = 0 := (by decide); have zz0_13 : (f_40 0 13).toInt = v_47.toInt := (congrArg Int32.toInt (show f_40 0 13 = v_47 from ev_47.symm)); omega) (by have kc0 : (0 : Int32).toInt = 0 := (by decide); have zz0_13 : (f_40 0 13).toInt = v_47.toInt := (congrArg Int32.toInt (show f_40 0 13 = v_47 from ev_47.symm)); omega) (by have kc0 : (0 : Int32).toInt = 0 := (by decide); have zz0_16 : (f_40 0 16).toInt = v_50.toInt := (congrArg Int32.toInt (show f_40 0 16 = v_50 from ev_50.symm)); omega) (by have kc0 : (0 : Int32).toInt = 0 := (by decide); have zz0_15 : (f_40 0 15).toInt = v_53.toInt := (congrArg Int32.toInt (show f_40 0 15 = v_53 from ev_53.symm)); have zz0_16 : (f_40 0 16).toInt = v_50.toInt := (congrArg Int32.toInt (show f_40 0 16 = v_50 from ev_50.symm)); omega) hI hF hP hS (lv_sub hl [2, 0] rfl)
        · skip
          have c_58 : y1_5.toInt ≠ 0 := (by have z := bn_ne c; have k1 : (0 : Int32).toInt = 0 := (by decide); omega)
          refine lv_iload_n hx hb dX12_both_23 rfl (lv_at hl 0 rfl) ?_
          refine lv_if_eq (tgt := 31) hx hb dX12_both_24 (by decide) (fun c => ?_) (fun c => ?_)
          · skip
            have c_59 : r_43.toInt = 0 := (by have z := Int32.toInt_inj.mpr c; have k1 : (0 : Int32).toInt = 0 := (by decide); omega)
            refine lv_iconst (v := 0) hx hb dX12_both_31 (by decide) ?_
            refine lv_istore_n (lv' := [(1, .int 0), (2, .int r_43), (0, .ref (h 0))]) hx hb dX12_both_32 rfl hl (by decide) rfl (fun ls hl => ?_)
            refine lv_goto (tgt := 5) hx hb dX12_both_33 (by decide) ?_
            exact ih_5 0 f_40 _ _ _ (by have kc0 : (0 : Int32).toInt = 0 := (by decide); have zz0_13 : (f_40 0 13).toInt = v_47.toInt := (congrArg Int32.toInt (show f_40 0 13 = v_47 from ev_47.symm)); omega) (by have kc0 : (0 : Int32).toInt = 0 := (by decide); have zz0_13 : (f_40 0 13).toInt = v_47.toInt := (congrArg Int32.toInt (show f_40 0 13 = v_47 from ev_47.symm)); omega) (by have kc0 : (0 : Int32).toInt = 0 := (by decide); have zz0_16 : (f_40 0 16).toInt = v_50.toInt := (congrArg Int32.toInt (show f_40 0 16 = v_50 from ev_50.symm)); omega) (by have kc0 : (0 : Int32).toInt = 0 := (by decide); have zz0_15 : (f_40 0 15).toInt = v_53.toInt := (congrArg Int32.toInt (show f_40 0 15 = v_53 from ev_53.symm)); have zz0_16 : (f_40 0 16).toInt = v_50.toInt := (congrArg Int32.toInt (show f_40 0 16 = v_50 from ev_50.symm)); omega) hI hF hP hS (lv_sub hl [2, 0] rfl)
          · skip
            have c_60 : r_43.toInt ≠ 0 := (by have z := bn_ne c; have k1 : (0 : Int32).toInt = 0 := (by decide); omega)
            refine lv_iconst (v := 1) hx hb dX12_both_27 (by decide) ?_
            refine lv_goto (tgt := 32) hx hb dX12_both_28 (by decide) ?_
            refine lv_istore_n (lv' := [(1, .int 1), (2, .int r_43), (0, .ref (h 0))]) hx hb dX12_both_32 rfl hl (by decide) rfl (fun ls hl => ?_)
            refine lv_goto (tgt := 5) hx hb dX12_both_33 (by decide) ?_
            exact ih_5 1 f_40 _ _ _ (by have kc0 : (1 : Int32).toInt = 1 := (by decide); have zz0_13 : (f_40 0 13).toInt = v_47.toInt := (congrArg Int32.toInt (show f_40 0 13 = v_47 from ev_47.symm)); omega) (by have kc0 : (1 : Int32).toInt = 1 := (by decide); have zz0_13 : (f_40 0 13).toInt = v_47.toInt := (congrArg Int32.toInt (show f_40 0 13 = v_47 from ev_47.symm)); omega) (by have kc0 : (1 : Int32).toInt = 1 := (by decide); have zz0_16 : (f_40 0 16).toInt = v_50.toInt := (congrArg Int32.toInt (show f_40 0 16 = v_50 from ev_50.symm)); omega) (by have kc0 : (1 : Int32).toInt = 1 := (by decide); have zz0_15 : (f_40 0 15).toInt = v_53.toInt := (congrArg Int32.toInt (show f_40 0 15 = v_53 from ev_53.symm)); have zz0_16 : (f_40 0 16).toInt = v_50.toInt := (congrArg Int32.toInt (show f_40 0 16 = v_50 from ev_50.symm)); omega) hI hF hP hS (lv_sub hl [2, 0] rfl)
      · skip
        have q_61 := hq
        refine lv_if_eq (tgt := 36) hx hb dX12_both_11 (by decide) (fun c => ?_) (fun c => absurd c (by decide))
        refine lv_iload_n hx hb dX12_both_36 rfl (lv_at hl 1 rfl) ?_
        have q_62 : (f_26 0 13).toInt = v_30.toInt := (congrArg Int32.toInt (show f_26 0 13 = v_30 from ev_30.symm))
        have q_63 : (f_26 0 16).toInt = v_13.toInt := (congrArg Int32.toInt (show f_26 0 16 = v_13 from ((hk_f_26 0 16 (by decide)).trans ev_13.symm)))
        have q_64 : (f_26 0 15).toInt = v_16.toInt := (congrArg Int32.toInt (show f_26 0 15 = v_16 from ((hk_f_26 0 15 (by decide)).trans ev_16.symm)))
        have q_65 : (f_26 0 16).toInt = v_13.toInt := (congrArg Int32.toInt (show f_26 0 16 = v_13 from ((hk_f_26 0 16 (by decide)).trans ev_13.symm)))
        exact hret _ _ _ _ (y1_5) f_26 L Q dX12_both_37 hP hS ⟨⟨hI, hF, rfl, rfl⟩, trivial, (by omega), (by omega), (by omega)⟩
  refine lv_aload_n hx hb dX12_both_0 rfl (lv_at hl 0 rfl) ?_
  have q_66 : (f 0 16).toInt = v_1.toInt := (congrArg Int32.toInt (show f 0 16 = v_1 from ev_1.symm))
  have q_67 : (f 0 15).toInt = v_3.toInt := (congrArg Int32.toInt (show f 0 15 = v_3 from ev_3.symm))
  have q_68 : (f 0 16).toInt = v_1.toInt := (congrArg Int32.toInt (show f 0 16 = v_1 from ev_1.symm))
  have q_69 : (f 0 13).toInt = v_5.toInt := (congrArg Int32.toInt (show f 0 13 = v_5 from ev_5.symm))
  refine sg_calli (va_runV (As := []) (rest := []) ⟨hx, hb, hml, hown, hts⟩ (kX12_compared_5 l D ca za h hh f L Q hI (by omega) (by omega) H.size) (cwV 0 hts (gw_V (fun _ h => List.mem_cons_of_mem _ h) mw_856 mw_857 mw_858 mw_619 mw_855) rfl rfl rfl (by decide +kernel) ⟨Nat.le_of_ble_eq_true rfl, Nat.le_of_ble_eq_true rfl⟩) (sg_preV (ci := 12) (C := RX12) (T := TX12) (N := 55) hA hK hP hS hZ 0 (by decide) rfl rfl) rfl rfl hl.1 rfl (lv_room (Nat.le_of_ble_eq_true rfl)) dX12_both_1 ⟨Nat.le_refl _, Nat.le_refl _⟩) hA hS (fun r_73 f_70 L_71 Q_72 H locs hq hP hS => ?_)
  obtain ⟨⟨hI, hk_f_70, eL9, eQ9⟩, hq, p_74, p_75, p_76⟩ := hq
  rw [eL9, eQ9] at hP; clear eL9 eQ9
  have hF : sgK WkX12_both_5 f f_70 := sgK.tr hF hk_f_70 (by decide)
  obtain ⟨v_77, ev_77⟩ : ∃ z : Int32, z = f_70 0 13 := ⟨_, rfl⟩
  have q_78 : 0 ≤ v_77.toInt ∧ v_77.toInt ≤ 120 := by rw [ev_77]; exact hI 0 13
  have q_79 : (f_70 0 13).toInt = v_77.toInt := (congrArg Int32.toInt (show f_70 0 13 = v_77 from ev_77.symm))
  obtain ⟨v_80, ev_80⟩ : ∃ z : Int32, z = f_70 0 16 := ⟨_, rfl⟩
  have q_81 : 0 ≤ v_80.toInt ∧ v_80.toInt ≤ 6 := by rw [ev_80]; exact hI 0 16
  have q_82 : (f_70 0 16).toInt = v_80.toInt := (congrArg Int32.toInt (show f_70 0 16 = v_80 from ev_80.symm))
  obtain ⟨v_83, ev_83⟩ : ∃ z : Int32, z = f_70 0 15 := ⟨_, rfl⟩
  have q_84 : (-1) ≤ v_83.toInt ∧ v_83.toInt ≤ 120 := by rw [ev_83]; exact hI 0 15
  have q_85 : (f_70 0 15).toInt = v_83.toInt := (congrArg Int32.toInt (show f_70 0 15 = v_83 from ev_83.symm))
  have q_86 : (f_70 0 16).toInt = v_80.toInt := (congrArg Int32.toInt (show f_70 0 16 = v_80 from ev_80.symm))
  refine lv_istore_n (lv' := [(1, .int r_73), (0, .ref (h 0))]) hx hb dX12_both_4 rfl hl (by decide) rfl (fun ls hl => ?_)
  exact loop_5 121 r_73 f_70 _ _ _ (by have zz0_13 : (f_70 0 13).toInt = v_77.toInt := (congrArg Int32.toInt (show f_70 0 13 = v_77 from ev_77.symm)); omega) (by have zz0_13 : (f_70 0 13).toInt = v_77.toInt := (congrArg Int32.toInt (show f_70 0 13 = v_77 from ev_77.symm)); omega) (by have zz0_16 : (f_70 0 16).toInt = v_80.toInt := (congrArg Int32.toInt (show f_70 0 16 = v_80 from ev_80.symm)); omega) (by have zz0_15 : (f_70 0 15).toInt = v_83.toInt := (congrArg Int32.toInt (show f_70 0 15 = v_83 from ev_83.symm)); have zz0_16 : (f_70 0 16).toInt = v_80.toInt := (congrArg Int32.toInt (show f_70 0 16 = v_80 from ev_80.symm)); omega) hI hF hP hS (lv_sub hl [1, 0] rfl)

abbrev WkX12_either_5 : List (Nat × Nat × Option Nat) := [(0, 0, some 13), (0, 0, some 15), (0, 0, some 16)]
set_option maxHeartbeats 4000000 in
set_option maxRecDepth 100000 in
theorem kX12_either_5 (l : Launch) (D : va_G) (ca : Nat → ClassId) (za h : Nat → Nat) (hh : sgH 26 h) (f : sg_F) (L : sg_L) (Q : sg_Q) (hI : sgI loM hiM f) (p0 : 5 ≤ (f 0 16).toInt) (p1 : 0 ≤ (f 0 15).toInt ∨ (f 0 16).toInt = 5) (sz : Nat) : Met l yX12_either gwX12_either { frames := 12, cells := 0, slots := 0, locals := 272 } (sgP D vwCl (tyX ca) 26 h (eM ca h) zcM za f L Q sz [.ref (h 0)]) (sgQi D vwCl 26 h (eM ca h) sz (fun r f1 L1 Q1 => ((sgI loM hiM f1 ∧ sgK WkX12_either_5 f f1 ∧ L1 = L ∧ Q1 = Q) ∧ True ∧ ((f 0 13).toInt ≤ (f1 0 13).toInt) ∧ (5 ≤ (f1 0 16).toInt) ∧ (0 ≤ (f1 0 15).toInt ∨ (f1 0 16).toInt = 5)))) 0 0 (sgA 26 h sz) := by
  refine sg_ofWi (cc := cX12_either) (maxL := 3) RX12 (by decide) rfl rfl (Nat.le_of_ble_eq_true rfl) ?_
  intro p e s m below meth cd Qz ls hx hb hml hown hts hK hZ hP hS hl hret
  have hA := sgY.self (n := 26) (h := h) (sz := s.heap.size)
  have hl : lv_has ls 3 [(0, .ref (h 0))] := hl
  obtain ⟨H, hH⟩ : ∃ z : Heap, z = s.heap := ⟨_, rfl⟩
  obtain ⟨locs, hlo⟩ : ∃ z : List Loc, z = [] := ⟨_, rfl⟩
  have hP : va_P D vwCl (sgw 26 h (eM ca h) f L Q) H := by rw [hH]; exact hP
  have hS : va_S (sgA 26 h s.heap.size) s.heap H locs := by rw [hH, hlo]; exact hS
  suffices hgo : W p l e ({ frames := 12, cells := 0, slots := 0, locals := 272 }) s m ([.ref (h 0)] : List Value).toArray below meth cd H locs 0 0 Qz (F0 m 0 ls []) by rw [hH, hlo] at hgo; exact hgo
  clear hH hlo
  obtain ⟨v_1, ev_1⟩ : ∃ z : Int32, z = f 0 16 := ⟨_, rfl⟩
  have q_2 : 0 ≤ v_1.toInt ∧ v_1.toInt ≤ 6 := by rw [ev_1]; exact hI 0 16
  obtain ⟨v_3, ev_3⟩ : ∃ z : Int32, z = f 0 15 := ⟨_, rfl⟩
  have q_4 : (-1) ≤ v_3.toInt ∧ v_3.toInt ≤ 120 := by rw [ev_3]; exact hI 0 15
  obtain ⟨v_5, ev_5⟩ : ∃ z : Int32, z = f 0 13 := ⟨_, rfl⟩
  have q_6 : 0 ≤ v_5.toInt ∧ v_5.toInt ≤ 120 := by rw [ev_5]; exact hI 0 13
  have o_7 : (f 0 16).toInt = v_1.toInt := (congrArg Int32.toInt (show f 0 16 = v_1 from ev_1.symm))
  have o_8 : (f 0 15).toInt = v_3.toInt := (congrArg Int32.toInt (show f 0 15 = v_3 from ev_3.symm))
  have o_9 : (f 0 13).toInt = v_5.toInt := (congrArg Int32.toInt (show f 0 13 = v_5 from ev_5.symm))
  have hF : sgK WkX12_either_5 f f := sgK.rf
  have loop_5 : ∀ (n_5 : Nat) (y1_5 : Int32) (fp_5 : sg_F) (H : Heap) (locs : List Loc) (ls : Array Slot), 120 - (fp_5 0 13).toInt < (n_5 : Int) → (f 0 13).toInt ≤ (fp_5 0 13).toInt → 5 ≤ (fp_5 0 16).toInt → 0 ≤ (fp_5 0 15).toInt ∨ (fp_5 0 16).toInt = 5 → sgI loM hiM fp_5 → sgK WkX12_either_5 f fp_5 → va_P D vwCl (sgw 26 h (eM ca h) fp_5 L Q) H → va_S (sgA 26 h s.heap.size) s.heap H locs → lv_has ls 3 [(0, .ref (h 0)), (1, .int y1_5)] → W p l e ({ frames := 12, cells := 0, slots := 0, locals := 272 }) s m ([.ref (h 0)] : List Value).toArray below meth cd H locs 0 0 Qz (F0 m 5 ls []) := by
    intro n_5
    induction n_5 with
    | zero => intro y1_5 fp_5 H locs ls hm_5 hg0_5 hg1_5 hg2_5 hI hF hP hS hl; have zb := (show 0 ≤ (fp_5 0 13).toInt ∧ (fp_5 0 13).toInt ≤ 120 from hI 0 13); exact absurd hm_5 (by omega)
    | succ n_5 ih_5 =>
      intro y1_5 fp_5 H locs ls hm_5 hg0_5 hg1_5 hg2_5 hI hF hP hS hl
      obtain ⟨v_10, ev_10⟩ : ∃ z : Int32, z = fp_5 0 13 := ⟨_, rfl⟩
      have q_11 : 0 ≤ v_10.toInt ∧ v_10.toInt ≤ 120 := by rw [ev_10]; exact hI 0 13
      have q_12 : (fp_5 0 13).toInt = v_10.toInt := by rw [ev_10]
      obtain ⟨v_13, ev_13⟩ : ∃ z : Int32, z = fp_5 0 16 := ⟨_, rfl⟩
      have q_14 : 0 ≤ v_13.toInt ∧ v_13.toInt ≤ 6 := by rw [ev_13]; exact hI 0 16
      have q_15 : (fp_5 0 16).toInt = v_13.toInt := by rw [ev_13]
      obtain ⟨v_16, ev_16⟩ : ∃ z : Int32, z = fp_5 0 15 := ⟨_, rfl⟩
      have q_17 : (-1) ≤ v_16.toInt ∧ v_16.toInt ≤ 120 := by rw [ev_16]; exact hI 0 15
      have q_18 : (fp_5 0 15).toInt = v_16.toInt := by rw [ev_16]
      refine lv_aload_n hx hb dX12_either_5 rfl (lv_at hl 0 rfl) ?_
      refine lv_bipush (v := 124) hx hb dX12_either_6 (by decide) ?_
      have q_19 : (fp_5 0 15).toInt = v_16.toInt := (congrArg Int32.toInt (show fp_5 0 15 = v_16 from ev_16.symm))
      have q_20 : (fp_5 0 13).toInt = v_10.toInt := (congrArg Int32.toInt (show fp_5 0 13 = v_10 from ev_10.symm))
      obtain ⟨v_21, ev_21⟩ : ∃ z : Int32, z = fp_5 0 14 := ⟨_, rfl⟩
      have q_22 : 0 ≤ v_21.toInt ∧ v_21.toInt ≤ 120 := by rw [ev_21]; exact hI 0 14
      have q_23 : (fp_5 0 14).toInt = v_21.toInt := (congrArg Int32.toInt (show fp_5 0 14 = v_21 from ev_21.symm))
      have q_24 : (fp_5 0 13).toInt = v_10.toInt := (congrArg Int32.toInt (show fp_5 0 13 = v_10 from ev_10.symm))
      have q_25 : (fp_5 0 13).toInt = v_10.toInt := (congrArg Int32.toInt (show fp_5 0 13 = v_10 from ev_10.symm))
      refine sg_calli (va_runV (As := [.int 124]) (rest := []) ⟨hx, hb, hml, hown, hts⟩ (kX12_takes_124 l D ca za h hh fp_5 L Q hI H.size) (cwV 1 hts (gw_V (fun _ h => List.mem_cons_of_mem _ h) mw_877 mw_878 mw_879 mw_619 mw_876) rfl rfl rfl (by decide +kernel) ⟨Nat.le_of_ble_eq_true rfl, Nat.le_of_ble_eq_true rfl⟩) (sg_preV (ci := 12) (C := RX12) (T := TX12) (N := 55) hA hK hP hS hZ 0 (by decide) rfl rfl) rfl rfl hl.1 rfl (lv_room (Nat.le_of_ble_eq_true rfl)) dX12_either_8 ⟨Nat.le_refl _, Nat.le_refl _⟩) hA hS (fun r_29 f_26 L_27 Q_28 H locs hq hP hS => ?_)
      obtain ⟨⟨hI, hk_f_26, eL9, eQ9⟩, hq⟩ := hq
      rw [eL9, eQ9] at hP; clear eL9 eQ9
      have hF : sgK WkX12_either_5 f f_26 := sgK.tr hF hk_f_26 (by decide)
      obtain ⟨v_30, ev_30⟩ : ∃ z : Int32, z = f_26 0 13 := ⟨_, rfl⟩
      have q_31 : 0 ≤ v_30.toInt ∧ v_30.toInt ≤ 120 := by rw [ev_30]; exact hI 0 13
      have q_32 : (f_26 0 13).toInt = v_30.toInt := (congrArg Int32.toInt (show f_26 0 13 = v_30 from ev_30.symm))
      have q_33 : (f_26 0 13).toInt = v_30.toInt := (congrArg Int32.toInt (show f_26 0 13 = v_30 from ev_30.symm))
      have k_34 : (124 : Int32).toInt = 124 := by decide
      rcases hq with ⟨rfl, hq⟩ | ⟨rfl, hq⟩
      · skip
        have q_35 := hq
        refine lv_if_eq (tgt := 36) hx hb dX12_either_11 (by decide) (fun c => absurd c (by decide)) (fun c => ?_)
        refine lv_aload_n hx hb dX12_either_14 rfl (lv_at hl 0 rfl) ?_
        have q_36 : (f_26 0 16).toInt = v_13.toInt := (congrArg Int32.toInt (show f_26 0 16 = v_13 from ((hk_f_26 0 16 (by decide)).trans ev_13.symm)))
        have q_37 : (f_26 0 15).toInt = v_16.toInt := (congrArg Int32.toInt (show f_26 0 15 = v_16 from ((hk_f_26 0 15 (by decide)).trans ev_16.symm)))
        have q_38 : (f_26 0 16).toInt = v_13.toInt := (congrArg Int32.toInt (show f_26 0 16 = v_13 from ((hk_f_26 0 16 (by decide)).trans ev_13.symm)))
        have q_39 : (f_26 0 13).toInt = v_30.toInt := (congrArg Int32.toInt (show f_26 0 13 = v_30 from ev_30.symm))
        refine sg_calli (va_runV (As := []) (rest := []) ⟨hx, hb, hml, hown, hts⟩ (kX12_both_5 l D ca za h hh f_26 L Q hI (by omega) (by omega) H.size) (cwV 0 hts (gw_V (fun _ h => List.mem_cons_of_mem _ h) mw_881 mw_882 mw_883 mw_619 mw_880) rfl rfl rfl (by decide +kernel) ⟨Nat.le_of_ble_eq_true rfl, Nat.le_of_ble_eq_true rfl⟩) (sg_preV (ci := 12) (C := RX12) (T := TX12) (N := 55) hA hK hP hS hZ 0 (by decide) rfl rfl) rfl rfl hl.1 rfl (lv_room (Nat.le_of_ble_eq_true rfl)) dX12_either_15 ⟨Nat.le_refl _, Nat.le_refl _⟩) hA hS (fun r_43 f_40 L_41 Q_42 H locs hq hP hS => ?_)
        obtain ⟨⟨hI, hk_f_40, eL9, eQ9⟩, hq, p_44, p_45, p_46⟩ := hq
        rw [eL9, eQ9] at hP; clear eL9 eQ9
        have hF : sgK WkX12_either_5 f f_40 := sgK.tr hF hk_f_40 (by decide)
        obtain ⟨v_47, ev_47⟩ : ∃ z : Int32, z = f_40 0 13 := ⟨_, rfl⟩
        have q_48 : 0 ≤ v_47.toInt ∧ v_47.toInt ≤ 120 := by rw [ev_47]; exact hI 0 13
        have q_49 : (f_40 0 13).toInt = v_47.toInt := (congrArg Int32.toInt (show f_40 0 13 = v_47 from ev_47.symm))
        obtain ⟨v_50, ev_50⟩ : ∃ z : Int32, z = f_40 0 16 := ⟨_, rfl⟩
        have q_51 : 0 ≤ v_50.toInt ∧ v_50.toInt ≤ 6 := by rw [ev_50]; exact hI 0 16
        have q_52 : (f_40 0 16).toInt = v_50.toInt := (congrArg Int32.toInt (show f_40 0 16 = v_50 from ev_50.symm))
        obtain ⟨v_53, ev_53⟩ : ∃ z : Int32, z = f_40 0 15 := ⟨_, rfl⟩
        have q_54 : (-1) ≤ v_53.toInt ∧ v_53.toInt ≤ 120 := by rw [ev_53]; exact hI 0 15
        have q_55 : (f_40 0 15).toInt = v_53.toInt := (congrArg Int32.toInt (show f_40 0 15 = v_53 from ev_53.symm))
        have q_56 : (f_40 0 16).toInt = v_50.toInt := (congrArg Int32.toInt (show f_40 0 16 = v_50 from ev_50.symm))
        refine lv_istore_n (lv' := [(2, .int r_43), (0, .ref (h 0)), (1, .int y1_5)]) hx hb dX12_either_18 rfl hl (by decide) rfl (fun ls hl => ?_)
        refine lv_iload_n hx hb dX12_either_19 rfl (lv_at hl 2 rfl) ?_
        refine lv_if_ne (tgt := 27) hx hb dX12_either_20 (by decide) (fun c => ?_) (fun c => ?_)
        · skip
          have c_57 : y1_5.toInt ≠ 0 := (by have z := bn_ne c; have k1 : (0 : Int32).toInt = 0 := (by decide); omega)
          refine lv_iconst (v := 1) hx hb dX12_either_27 (by decide) ?_
          refine lv_goto (tgt := 32) hx hb dX12_either_28 (by decide) ?_
          refine lv_istore_n (lv' := [(1, .int 1), (2, .int r_43), (0, .ref (h 0))]) hx hb dX12_either_32 rfl hl (by decide) rfl (fun ls hl => ?_)
          refine lv_goto (tgt := 5) hx hb dX12_either_33 (by decide) ?_
          exact ih_5 1 f_40 _ _ _ (by have kc0 : (1 : Int32).toInt = 1 := (by decide); have zz0_13 : (f_40 0 13).toInt = v_47.toInt := (congrArg Int32.toInt (show f_40 0 13 = v_47 from ev_47.symm)); omega) (by have kc0 : (1 : Int32).toInt = 1 := (by decide); have zz0_13 : (f_40 0 13).toInt = v_47.toInt := (congrArg Int32.toInt (show f_40 0 13 = v_47 from ev_47.symm)); omega) (by have kc0 : (1 : Int32).toInt = 1 := (by decide); have zz0_16 : (f_40 0 16).toInt = v_50.toInt := (congrArg Int32.toInt (show f_40 0 16 = v_50 from ev_50.symm)); omega) (by have kc0 : (1 : Int32).toInt = 1 := (by decide); have zz0_15 : (f_40 0 15).toInt = v_53.toInt := (congrArg Int32.toInt (show f_40 0 15 = v_53 from ev_53.symm)); have zz0_16 : (f_40 0 16).toInt = v_50.toInt := (congrArg Int32.toInt (show f_40 0 16 = v_50 from ev_50.symm)); omega) hI hF hP hS (lv_sub hl [2, 0] rfl)
        · skip
          have c_58 : y1_5.toInt = 0 := (by have z := Int32.toInt_inj.mpr c; have k1 : (0 : Int32).toInt = 0 := (by decide); omega)
          refine lv_iload_n hx hb dX12_either_23 rfl (lv_at hl 0 rfl) ?_
          refine lv_if_eq (tgt := 31) hx hb dX12_either_24 (by decide) (fun c => ?_) (fun c => ?_)
          · skip
            have c_59 : r_43.toInt = 0 := (by have z := Int32.toInt_inj.mpr c; have k1 : (0 : Int32).toInt = 0 := (by decide); omega)
            refine lv_iconst (v := 0) hx hb dX12_either_31 (by decide) ?_
            refine lv_istore_n (lv' := [(1, .int 0), (2, .int r_43), (0, .ref (h 0))]) hx hb dX12_either_32 rfl hl (by decide) rfl (fun ls hl => ?_)
            refine lv_goto (tgt := 5) hx hb dX12_either_33 (by decide) ?_
            exact ih_5 0 f_40 _ _ _ (by have kc0 : (0 : Int32).toInt = 0 := (by decide); have zz0_13 : (f_40 0 13).toInt = v_47.toInt := (congrArg Int32.toInt (show f_40 0 13 = v_47 from ev_47.symm)); omega) (by have kc0 : (0 : Int32).toInt = 0 := (by decide); have zz0_13 : (f_40 0 13).toInt = v_47.toInt := (congrArg Int32.toInt (show f_40 0 13 = v_47 from ev_47.symm)); omega) (by have kc0 : (0 : Int32).toInt = 0 := (by decide); have zz0_16 : (f_40 0 16).toInt = v_50.toInt := (congrArg Int32.toInt (show f_40 0 16 = v_50 from ev_50.symm)); omega) (by have kc0 : (0 : Int32).toInt = 0 := (by decide); have zz0_15 : (f_40 0 15).toInt = v_53.toInt := (congrArg Int32.toInt (show f_40 0 15 = v_53 from ev_53.symm)); have zz0_16 : (f_40 0 16).toInt = v_50.toInt := (congrArg Int32.toInt (show f_40 0 16 = v_50 from ev_50.symm)); omega) hI hF hP hS (lv_sub hl [2, 0] rfl)
          · skip
            have c_60 : r_43.toInt ≠ 0 := (by have z := bn_ne c; have k1 : (0 : Int32).toInt = 0 := (by decide); omega)
            refine lv_iconst (v := 1) hx hb dX12_either_27 (by decide) ?_
            refine lv_goto (tgt := 32) hx hb dX12_either_28 (by decide) ?_
            refine lv_istore_n (lv' := [(1, .int 1), (2, .int r_43), (0, .ref (h 0))]) hx hb dX12_either_32 rfl hl (by decide) rfl (fun ls hl => ?_)
            refine lv_goto (tgt := 5) hx hb dX12_either_33 (by decide) ?_
            exact ih_5 1 f_40 _ _ _ (by have kc0 : (1 : Int32).toInt = 1 := (by decide); have zz0_13 : (f_40 0 13).toInt = v_47.toInt := (congrArg Int32.toInt (show f_40 0 13 = v_47 from ev_47.symm)); omega) (by have kc0 : (1 : Int32).toInt = 1 := (by decide); have zz0_13 : (f_40 0 13).toInt = v_47.toInt := (congrArg Int32.toInt (show f_40 0 13 = v_47 from ev_47.symm)); omega) (by have kc0 : (1 : Int32).toInt = 1 := (by decide); have zz0_16 : (f_40 0 16).toInt = v_50.toInt := (congrArg Int32.toInt (show f_40 0 16 = v_50 from ev_50.symm)); omega) (by have kc0 : (1 : Int32).toInt = 1 := (by decide); have zz0_15 : (f_40 0 15).toInt = v_53.toInt := (congrArg Int32.toInt (show f_40 0 15 = v_53 from ev_53.symm)); have zz0_16 : (f_40 0 16).toInt = v_50.toInt := (congrArg Int32.toInt (show f_40 0 16 = v_50 from ev_50.symm)); omega) hI hF hP hS (lv_sub hl [2, 0] rfl)
      · skip
        have q_61 := hq
        refine lv_if_eq (tgt := 36) hx hb dX12_either_11 (by decide) (fun c => ?_) (fun c => absurd c (by decide))
        refine lv_iload_n hx hb dX12_either_36 rfl (lv_at hl 1 rfl) ?_
        have q_62 : (f_26 0 13).toInt = v_30.toInt := (congrArg Int32.toInt (show f_26 0 13 = v_30 from ev_30.symm))
        have q_63 : (f_26 0 16).toInt = v_13.toInt := (congrArg Int32.toInt (show f_26 0 16 = v_13 from ((hk_f_26 0 16 (by decide)).trans ev_13.symm)))
        have q_64 : (f_26 0 15).toInt = v_16.toInt := (congrArg Int32.toInt (show f_26 0 15 = v_16 from ((hk_f_26 0 15 (by decide)).trans ev_16.symm)))
        have q_65 : (f_26 0 16).toInt = v_13.toInt := (congrArg Int32.toInt (show f_26 0 16 = v_13 from ((hk_f_26 0 16 (by decide)).trans ev_13.symm)))
        exact hret _ _ _ _ (y1_5) f_26 L Q dX12_either_37 hP hS ⟨⟨hI, hF, rfl, rfl⟩, trivial, (by omega), (by omega), (by omega)⟩
  refine lv_aload_n hx hb dX12_either_0 rfl (lv_at hl 0 rfl) ?_
  have q_66 : (f 0 16).toInt = v_1.toInt := (congrArg Int32.toInt (show f 0 16 = v_1 from ev_1.symm))
  have q_67 : (f 0 15).toInt = v_3.toInt := (congrArg Int32.toInt (show f 0 15 = v_3 from ev_3.symm))
  have q_68 : (f 0 16).toInt = v_1.toInt := (congrArg Int32.toInt (show f 0 16 = v_1 from ev_1.symm))
  have q_69 : (f 0 13).toInt = v_5.toInt := (congrArg Int32.toInt (show f 0 13 = v_5 from ev_5.symm))
  refine sg_calli (va_runV (As := []) (rest := []) ⟨hx, hb, hml, hown, hts⟩ (kX12_both_5 l D ca za h hh f L Q hI (by omega) (by omega) H.size) (cwV 0 hts (gw_V (fun _ h => List.mem_cons_of_mem _ h) mw_881 mw_882 mw_883 mw_619 mw_880) rfl rfl rfl (by decide +kernel) ⟨Nat.le_of_ble_eq_true rfl, Nat.le_of_ble_eq_true rfl⟩) (sg_preV (ci := 12) (C := RX12) (T := TX12) (N := 55) hA hK hP hS hZ 0 (by decide) rfl rfl) rfl rfl hl.1 rfl (lv_room (Nat.le_of_ble_eq_true rfl)) dX12_either_1 ⟨Nat.le_refl _, Nat.le_refl _⟩) hA hS (fun r_73 f_70 L_71 Q_72 H locs hq hP hS => ?_)
  obtain ⟨⟨hI, hk_f_70, eL9, eQ9⟩, hq, p_74, p_75, p_76⟩ := hq
  rw [eL9, eQ9] at hP; clear eL9 eQ9
  have hF : sgK WkX12_either_5 f f_70 := sgK.tr hF hk_f_70 (by decide)
  obtain ⟨v_77, ev_77⟩ : ∃ z : Int32, z = f_70 0 13 := ⟨_, rfl⟩
  have q_78 : 0 ≤ v_77.toInt ∧ v_77.toInt ≤ 120 := by rw [ev_77]; exact hI 0 13
  have q_79 : (f_70 0 13).toInt = v_77.toInt := (congrArg Int32.toInt (show f_70 0 13 = v_77 from ev_77.symm))
  obtain ⟨v_80, ev_80⟩ : ∃ z : Int32, z = f_70 0 16 := ⟨_, rfl⟩
  have q_81 : 0 ≤ v_80.toInt ∧ v_80.toInt ≤ 6 := by rw [ev_80]; exact hI 0 16
  have q_82 : (f_70 0 16).toInt = v_80.toInt := (congrArg Int32.toInt (show f_70 0 16 = v_80 from ev_80.symm))
  obtain ⟨v_83, ev_83⟩ : ∃ z : Int32, z = f_70 0 15 := ⟨_, rfl⟩
  have q_84 : (-1) ≤ v_83.toInt ∧ v_83.toInt ≤ 120 := by rw [ev_83]; exact hI 0 15
  have q_85 : (f_70 0 15).toInt = v_83.toInt := (congrArg Int32.toInt (show f_70 0 15 = v_83 from ev_83.symm))
  have q_86 : (f_70 0 16).toInt = v_80.toInt := (congrArg Int32.toInt (show f_70 0 16 = v_80 from ev_80.symm))
  refine lv_istore_n (lv' := [(1, .int r_73), (0, .ref (h 0))]) hx hb dX12_either_4 rfl hl (by decide) rfl (fun ls hl => ?_)
  exact loop_5 121 r_73 f_70 _ _ _ (by have zz0_13 : (f_70 0 13).toInt = v_77.toInt := (congrArg Int32.toInt (show f_70 0 13 = v_77 from ev_77.symm)); omega) (by have zz0_13 : (f_70 0 13).toInt = v_77.toInt := (congrArg Int32.toInt (show f_70 0 13 = v_77 from ev_77.symm)); omega) (by have zz0_16 : (f_70 0 16).toInt = v_80.toInt := (congrArg Int32.toInt (show f_70 0 16 = v_80 from ev_80.symm)); omega) (by have zz0_15 : (f_70 0 15).toInt = v_83.toInt := (congrArg Int32.toInt (show f_70 0 15 = v_83 from ev_83.symm)); have zz0_16 : (f_70 0 16).toInt = v_80.toInt := (congrArg Int32.toInt (show f_70 0 16 = v_80 from ev_80.symm)); omega) hI hF hP hS (lv_sub hl [1, 0] rfl)

abbrev WkX12_one_4 : List (Nat × Nat × Option Nat) := [(0, 0, some 13), (0, 0, some 15), (0, 0, some 16)]
set_option maxHeartbeats 4000000 in
set_option maxRecDepth 100000 in
theorem kX12_one_4 (l : Launch) (D : va_G) (ca : Nat → ClassId) (za h : Nat → Nat) (hh : sgH 26 h) (f : sg_F) (L : sg_L) (Q : sg_Q) (hI : sgI loM hiM f) (p0 : 4 ≤ (f 0 16).toInt) (p1 : 0 ≤ (f 0 15).toInt ∨ (f 0 16).toInt = 4) (sz : Nat) : Met l yX12_one gwX12_one { frames := 13, cells := 0, slots := 0, locals := 294 } (sgP D vwCl (tyX ca) 26 h (eM ca h) zcM za f L Q sz [.ref (h 0)]) (sgQi D vwCl 26 h (eM ca h) sz (fun r f1 L1 Q1 => ((sgI loM hiM f1 ∧ sgK WkX12_one_4 f f1 ∧ L1 = L ∧ Q1 = Q) ∧ True ∧ ((f 0 13).toInt ≤ (f1 0 13).toInt) ∧ (4 ≤ (f1 0 16).toInt) ∧ (0 ≤ (f1 0 15).toInt ∨ (f1 0 16).toInt = 4)))) 0 0 (sgA 26 h sz) := by
  refine sg_ofWi (cc := cX12_one) (maxL := 5) RX12 (by decide) rfl rfl (Nat.le_of_ble_eq_true rfl) ?_
  intro p e s m below meth cd Qz ls hx hb hml hown hts hK hZ hP hS hl hret
  have hA := sgY.self (n := 26) (h := h) (sz := s.heap.size)
  have hl : lv_has ls 5 [(0, .ref (h 0))] := hl
  obtain ⟨H, hH⟩ : ∃ z : Heap, z = s.heap := ⟨_, rfl⟩
  obtain ⟨locs, hlo⟩ : ∃ z : List Loc, z = [] := ⟨_, rfl⟩
  have hP : va_P D vwCl (sgw 26 h (eM ca h) f L Q) H := by rw [hH]; exact hP
  have hS : va_S (sgA 26 h s.heap.size) s.heap H locs := by rw [hH, hlo]; exact hS
  suffices hgo : W p l e ({ frames := 13, cells := 0, slots := 0, locals := 294 }) s m ([.ref (h 0)] : List Value).toArray below meth cd H locs 0 0 Qz (F0 m 0 ls []) by rw [hH, hlo] at hgo; exact hgo
  clear hH hlo
  obtain ⟨v_1, ev_1⟩ : ∃ z : Int32, z = f 0 16 := ⟨_, rfl⟩
  have q_2 : 0 ≤ v_1.toInt ∧ v_1.toInt ≤ 6 := by rw [ev_1]; exact hI 0 16
  obtain ⟨v_3, ev_3⟩ : ∃ z : Int32, z = f 0 15 := ⟨_, rfl⟩
  have q_4 : (-1) ≤ v_3.toInt ∧ v_3.toInt ≤ 120 := by rw [ev_3]; exact hI 0 15
  obtain ⟨v_5, ev_5⟩ : ∃ z : Int32, z = f 0 13 := ⟨_, rfl⟩
  have q_6 : 0 ≤ v_5.toInt ∧ v_5.toInt ≤ 120 := by rw [ev_5]; exact hI 0 13
  have o_7 : (f 0 16).toInt = v_1.toInt := (congrArg Int32.toInt (show f 0 16 = v_1 from ev_1.symm))
  have o_8 : (f 0 15).toInt = v_3.toInt := (congrArg Int32.toInt (show f 0 15 = v_3 from ev_3.symm))
  have o_9 : (f 0 13).toInt = v_5.toInt := (congrArg Int32.toInt (show f 0 13 = v_5 from ev_5.symm))
  have hF : sgK WkX12_one_4 f f := sgK.rf
  have blk_229 : ∀ (y3_229 : Int32) (y4_229 : Int32) (fp_229 : sg_F) (H : Heap) (locs : List Loc) (ls : Array Slot), (-1) ≤ (fp_229 0 15).toInt ∧ (fp_229 0 15).toInt ≤ (-1) → 0 ≤ y4_229.toInt ∧ y4_229.toInt ≤ 4 → (f 0 13).toInt ≤ (fp_229 0 13).toInt → 4 ≤ (fp_229 0 16).toInt → 0 ≤ (fp_229 0 15).toInt ∨ (fp_229 0 16).toInt = 4 → sgI loM hiM fp_229 → sgK WkX12_one_4 f fp_229 → va_P D vwCl (sgw 26 h (eM ca h) fp_229 L Q) H → va_S (sgA 26 h s.heap.size) s.heap H locs → lv_has ls 5 [(0, .ref (h 0)), (3, .int y3_229), (4, .int y4_229)] → W p l e ({ frames := 13, cells := 0, slots := 0, locals := 294 }) s m ([.ref (h 0)] : List Value).toArray below meth cd H locs 0 0 Qz (F0 m 229 ls []) := by
    intro y3_229 y4_229 fp_229 H locs ls hy0_229 hy1_229 hg0_229 hg1_229 hg2_229 hI hF hP hS hl
    obtain ⟨v_10, ev_10⟩ : ∃ z : Int32, z = fp_229 0 15 := ⟨_, rfl⟩
    have q_11 : (-1) ≤ v_10.toInt ∧ v_10.toInt ≤ 120 := by rw [ev_10]; exact hI 0 15
    have q_12 : (fp_229 0 15).toInt = v_10.toInt := by rw [ev_10]
    obtain ⟨v_13, ev_13⟩ : ∃ z : Int32, z = fp_229 0 13 := ⟨_, rfl⟩
    have q_14 : 0 ≤ v_13.toInt ∧ v_13.toInt ≤ 120 := by rw [ev_13]; exact hI 0 13
    have q_15 : (fp_229 0 13).toInt = v_13.toInt := by rw [ev_13]
    obtain ⟨v_16, ev_16⟩ : ∃ z : Int32, z = fp_229 0 16 := ⟨_, rfl⟩
    have q_17 : 0 ≤ v_16.toInt ∧ v_16.toInt ≤ 6 := by rw [ev_16]; exact hI 0 16
    have q_18 : (fp_229 0 16).toInt = v_16.toInt := by rw [ev_16]
    refine lv_iload hx hb dX12_one_229 (lv_at hl 2 rfl) ?_
    refine lv_if_ne (tgt := 241) hx hb dX12_one_231 (by decide) (fun c => ?_) (fun c => ?_)
    · skip
      have c_19 : y4_229.toInt ≠ 0 := (by have z := bn_ne c; have k1 : (0 : Int32).toInt = 0 := (by decide); omega)
      refine lv_iload_n hx hb dX12_one_241 rfl (lv_at hl 1 rfl) ?_
      have q_21 : (fp_229 0 13).toInt = v_13.toInt := (congrArg Int32.toInt (show fp_229 0 13 = v_13 from ev_13.symm))
      have q_22 : (fp_229 0 16).toInt = v_16.toInt := (congrArg Int32.toInt (show fp_229 0 16 = v_16 from ev_16.symm))
      have q_23 : (fp_229 0 15).toInt = v_10.toInt := (congrArg Int32.toInt (show fp_229 0 15 = v_10 from ev_10.symm))
      have q_24 : (fp_229 0 16).toInt = v_16.toInt := (congrArg Int32.toInt (show fp_229 0 16 = v_16 from ev_16.symm))
      exact hret _ _ _ _ (y3_229) fp_229 L Q dX12_one_242 hP hS ⟨⟨hI, hF, rfl, rfl⟩, trivial, (by omega), (by omega), (by omega)⟩
    · skip
      have c_20 : y4_229.toInt = 0 := (by have z := Int32.toInt_inj.mpr c; have k1 : (0 : Int32).toInt = 0 := (by decide); omega)
      refine lv_aload_n hx hb dX12_one_234 rfl (lv_at hl 0 rfl) ?_
      refine sg_calli (va_runV (As := []) (rest := []) ⟨hx, hb, hml, hown, hts⟩ (kX12_wrong l D ca za h hh fp_229 L Q hI H.size) (cwV 0 hts (gw_V (fun _ h => List.mem_cons_of_mem _ h) mw_889 mw_890 mw_891 mw_619 mw_888) rfl rfl rfl (by decide +kernel) ⟨Nat.le_of_ble_eq_true rfl, Nat.le_of_ble_eq_true rfl⟩) (sg_preV (ci := 12) (C := RX12) (T := TX12) (N := 55) hA hK hP hS hZ 0 (by decide) rfl rfl) rfl rfl hl.1 rfl (lv_room (Nat.le_of_ble_eq_true rfl)) dX12_one_235 ⟨Nat.le_refl _, Nat.le_refl _⟩) hA hS (fun r_28 f_25 L_26 Q_27 H locs hq hP hS => ?_)
      obtain ⟨⟨hI, hk_f_25, eL9, eQ9⟩, hq, p_29⟩ := hq
      rw [eL9, eQ9] at hP; clear eL9 eQ9
      have hF : sgK WkX12_one_4 f f_25 := sgK.tr hF hk_f_25 (by decide)
      obtain ⟨v_30, ev_30⟩ : ∃ z : Int32, z = f_25 0 15 := ⟨_, rfl⟩
      have q_31 : (-1) ≤ v_30.toInt ∧ v_30.toInt ≤ 120 := by rw [ev_30]; exact hI 0 15
      have q_32 : (f_25 0 15).toInt = v_30.toInt := (congrArg Int32.toInt (show f_25 0 15 = v_30 from ev_30.symm))
      obtain rfl : r_28 = 0 := Int32.toInt_inj.mp (by have k9 : (0 : Int32).toInt = 0 := (by decide); omega)
      refine lv_goto (tgt := 242) hx hb dX12_one_238 (by decide) ?_
      have q_33 : (f_25 0 13).toInt = v_13.toInt := (congrArg Int32.toInt (show f_25 0 13 = v_13 from ((hk_f_25 0 13 (by decide)).trans ev_13.symm)))
      have q_34 : (f_25 0 16).toInt = v_16.toInt := (congrArg Int32.toInt (show f_25 0 16 = v_16 from ((hk_f_25 0 16 (by decide)).trans ev_16.symm)))
      have q_35 : (f_25 0 15).toInt = v_30.toInt := (congrArg Int32.toInt (show f_25 0 15 = v_30 from ev_30.symm))
      have q_36 : (f_25 0 16).toInt = v_16.toInt := (congrArg Int32.toInt (show f_25 0 16 = v_16 from ((hk_f_25 0 16 (by decide)).trans ev_16.symm)))
      have k99 : (0 : Int32).toInt = 0 := (by decide)
      exact hret _ _ _ _ (0) f_25 L Q dX12_one_242 hP hS ⟨⟨hI, hF, rfl, rfl⟩, trivial, (by omega), (by omega), (by omega)⟩
  have loop_176 : ∀ (n_176 : Nat) (y3_176 : Int32) (y4_176 : Int32) (fp_176 : sg_F) (H : Heap) (locs : List Loc) (ls : Array Slot), 4 - y4_176.toInt < (n_176 : Int) → (-1) ≤ (fp_176 0 15).toInt ∧ (fp_176 0 15).toInt ≤ (-1) → 0 ≤ y4_176.toInt ∧ y4_176.toInt ≤ 4 → (f 0 13).toInt ≤ (fp_176 0 13).toInt → 4 ≤ (fp_176 0 16).toInt → 0 ≤ (fp_176 0 15).toInt ∨ (fp_176 0 16).toInt = 4 → sgI loM hiM fp_176 → sgK WkX12_one_4 f fp_176 → va_P D vwCl (sgw 26 h (eM ca h) fp_176 L Q) H → va_S (sgA 26 h s.heap.size) s.heap H locs → lv_has ls 5 [(0, .ref (h 0)), (3, .int y3_176), (4, .int y4_176)] → W p l e ({ frames := 13, cells := 0, slots := 0, locals := 294 }) s m ([.ref (h 0)] : List Value).toArray below meth cd H locs 0 0 Qz (F0 m 176 ls []) := by
    intro n_176
    induction n_176 with
    | zero => intro y3_176 y4_176 fp_176 H locs ls hm_176 hy0_176 hy1_176 hg0_176 hg1_176 hg2_176 hI hF hP hS hl; exact absurd hm_176 (by omega)
    | succ n_176 ih_176 =>
      intro y3_176 y4_176 fp_176 H locs ls hm_176 hy0_176 hy1_176 hg0_176 hg1_176 hg2_176 hI hF hP hS hl
      obtain ⟨v_37, ev_37⟩ : ∃ z : Int32, z = fp_176 0 15 := ⟨_, rfl⟩
      have q_38 : (-1) ≤ v_37.toInt ∧ v_37.toInt ≤ 120 := by rw [ev_37]; exact hI 0 15
      have q_39 : (fp_176 0 15).toInt = v_37.toInt := by rw [ev_37]
      obtain ⟨v_40, ev_40⟩ : ∃ z : Int32, z = fp_176 0 13 := ⟨_, rfl⟩
      have q_41 : 0 ≤ v_40.toInt ∧ v_40.toInt ≤ 120 := by rw [ev_40]; exact hI 0 13
      have q_42 : (fp_176 0 13).toInt = v_40.toInt := by rw [ev_40]
      obtain ⟨v_43, ev_43⟩ : ∃ z : Int32, z = fp_176 0 16 := ⟨_, rfl⟩
      have q_44 : 0 ≤ v_43.toInt ∧ v_43.toInt ≤ 6 := by rw [ev_43]; exact hI 0 16
      have q_45 : (fp_176 0 16).toInt = v_43.toInt := by rw [ev_43]
      refine lv_iload hx hb dX12_one_176 (lv_at hl 2 rfl) ?_
      refine lv_iconst (v := 4) hx hb dX12_one_178 (by decide) ?_
      refine lv_icmp_ge (tgt := 229) hx hb dX12_one_179 (by decide) (fun c => ?_) (fun c => ?_)
      · skip
        have c_46 : 4 ≤ y4_176.toInt := (by have z := bn_le c; have k1 : (4 : Int32).toInt = 4 := (by decide); omega)
        exact blk_229 y3_176 y4_176 fp_176 _ _ _ (by have zz0_15 : (fp_176 0 15).toInt = v_37.toInt := (congrArg Int32.toInt (show fp_176 0 15 = v_37 from ev_37.symm)); omega) (by omega) (by have zz0_13 : (fp_176 0 13).toInt = v_40.toInt := (congrArg Int32.toInt (show fp_176 0 13 = v_40 from ev_40.symm)); omega) (by have zz0_16 : (fp_176 0 16).toInt = v_43.toInt := (congrArg Int32.toInt (show fp_176 0 16 = v_43 from ev_43.symm)); omega) (by have zz0_15 : (fp_176 0 15).toInt = v_37.toInt := (congrArg Int32.toInt (show fp_176 0 15 = v_37 from ev_37.symm)); have zz0_16 : (fp_176 0 16).toInt = v_43.toInt := (congrArg Int32.toInt (show fp_176 0 16 = v_43 from ev_43.symm)); omega) hI hF hP hS (lv_sub hl [0, 1, 2] rfl)
      · skip
        have c_47 : y4_176.toInt < 4 := (by have z := bn_nle c; have k1 : (4 : Int32).toInt = 4 := (by decide); omega)
        refine lv_aload_n hx hb dX12_one_182 rfl (lv_at hl 0 rfl) ?_
        have q_48 : (fp_176 0 13).toInt = v_40.toInt := (congrArg Int32.toInt (show fp_176 0 13 = v_40 from ev_40.symm))
        obtain ⟨v_49, ev_49⟩ : ∃ z : Int32, z = fp_176 0 14 := ⟨_, rfl⟩
        have q_50 : 0 ≤ v_49.toInt ∧ v_49.toInt ≤ 120 := by rw [ev_49]; exact hI 0 14
        have q_51 : (fp_176 0 14).toInt = v_49.toInt := (congrArg Int32.toInt (show fp_176 0 14 = v_49 from ev_49.symm))
        refine sg_calli (va_runV (As := []) (rest := []) ⟨hx, hb, hml, hown, hts⟩ (kX12_byteAt l D ca za h hh fp_176 L Q hI H.size) (cwV 0 hts (gw_V (fun _ h => List.mem_cons_of_mem _ h) mw_840 mw_841 mw_842 mw_619 mw_839) rfl rfl rfl (by decide +kernel) ⟨Nat.le_of_ble_eq_true rfl, Nat.le_of_ble_eq_true rfl⟩) (sg_preV (ci := 12) (C := RX12) (T := TX12) (N := 55) hA hK hP hS hZ 0 (by decide) rfl rfl) rfl rfl hl.1 rfl (lv_room (Nat.le_of_ble_eq_true rfl)) dX12_one_183 ⟨Nat.le_refl _, Nat.le_refl _⟩) hA hS (fun r_55 f_52 L_53 Q_54 H locs hq hP hS => ?_)
        obtain ⟨⟨ef9, eL9, eQ9⟩, hq, p_56⟩ := hq
        rw [ef9, eL9, eQ9] at hP; clear ef9 eL9 eQ9
        refine lv_bipush (v := 48) hx hb dX12_one_186 (by decide) ?_
        refine lv_icmp_lt (tgt := 229) hx hb dX12_one_188 (by decide) (fun c => ?_) (fun c => ?_)
        · skip
          have c_57 : r_55.toInt < 48 := (by have z := bn_lt c; have k1 : (48 : Int32).toInt = 48 := (by decide); omega)
          exact blk_229 y3_176 y4_176 fp_176 _ _ _ (by have zz0_15 : (fp_176 0 15).toInt = v_37.toInt := (congrArg Int32.toInt (show fp_176 0 15 = v_37 from ev_37.symm)); omega) (by omega) (by have zz0_13 : (fp_176 0 13).toInt = v_40.toInt := (congrArg Int32.toInt (show fp_176 0 13 = v_40 from ev_40.symm)); omega) (by have zz0_16 : (fp_176 0 16).toInt = v_43.toInt := (congrArg Int32.toInt (show fp_176 0 16 = v_43 from ev_43.symm)); omega) (by have zz0_15 : (fp_176 0 15).toInt = v_37.toInt := (congrArg Int32.toInt (show fp_176 0 15 = v_37 from ev_37.symm)); have zz0_16 : (fp_176 0 16).toInt = v_43.toInt := (congrArg Int32.toInt (show fp_176 0 16 = v_43 from ev_43.symm)); omega) hI hF hP hS (lv_sub hl [0, 1, 2] rfl)
        · skip
          have c_58 : 48 ≤ r_55.toInt := (by have z := bn_nlt c; have k1 : (48 : Int32).toInt = 48 := (by decide); omega)
          refine lv_aload_n hx hb dX12_one_191 rfl (lv_at hl 0 rfl) ?_
          have q_59 : (fp_176 0 13).toInt = v_40.toInt := (congrArg Int32.toInt (show fp_176 0 13 = v_40 from ev_40.symm))
          have q_60 : (fp_176 0 14).toInt = v_49.toInt := (congrArg Int32.toInt (show fp_176 0 14 = v_49 from ev_49.symm))
          refine sg_calli (va_runV (As := []) (rest := []) ⟨hx, hb, hml, hown, hts⟩ (kX12_byteAt l D ca za h hh fp_176 L Q hI H.size) (cwV 0 hts (gw_V (fun _ h => List.mem_cons_of_mem _ h) mw_840 mw_841 mw_842 mw_619 mw_839) rfl rfl rfl (by decide +kernel) ⟨Nat.le_of_ble_eq_true rfl, Nat.le_of_ble_eq_true rfl⟩) (sg_preV (ci := 12) (C := RX12) (T := TX12) (N := 55) hA hK hP hS hZ 0 (by decide) rfl rfl) rfl rfl hl.1 rfl (lv_room (Nat.le_of_ble_eq_true rfl)) dX12_one_192 ⟨Nat.le_refl _, Nat.le_refl _⟩) hA hS (fun r_64 f_61 L_62 Q_63 H locs hq hP hS => ?_)
          obtain ⟨⟨ef9, eL9, eQ9⟩, hq, p_65⟩ := hq
          rw [ef9, eL9, eQ9] at hP; clear ef9 eL9 eQ9
          refine lv_bipush (v := 57) hx hb dX12_one_195 (by decide) ?_
          refine lv_icmp_gt (tgt := 229) hx hb dX12_one_197 (by decide) (fun c => ?_) (fun c => ?_)
          · skip
            have c_66 : 57 < r_64.toInt := (by have z := bn_lt c; have k1 : (57 : Int32).toInt = 57 := (by decide); omega)
            exact blk_229 y3_176 y4_176 fp_176 _ _ _ (by have zz0_15 : (fp_176 0 15).toInt = v_37.toInt := (congrArg Int32.toInt (show fp_176 0 15 = v_37 from ev_37.symm)); omega) (by omega) (by have zz0_13 : (fp_176 0 13).toInt = v_40.toInt := (congrArg Int32.toInt (show fp_176 0 13 = v_40 from ev_40.symm)); omega) (by have zz0_16 : (fp_176 0 16).toInt = v_43.toInt := (congrArg Int32.toInt (show fp_176 0 16 = v_43 from ev_43.symm)); omega) (by have zz0_15 : (fp_176 0 15).toInt = v_37.toInt := (congrArg Int32.toInt (show fp_176 0 15 = v_37 from ev_37.symm)); have zz0_16 : (fp_176 0 16).toInt = v_43.toInt := (congrArg Int32.toInt (show fp_176 0 16 = v_43 from ev_43.symm)); omega) hI hF hP hS (lv_sub hl [0, 1, 2] rfl)
          · skip
            have c_67 : r_64.toInt ≤ 57 := (by have z := bn_nlt c; have k1 : (57 : Int32).toInt = 57 := (by decide); omega)
            refine lv_bipush (v := 10) hx hb dX12_one_200 (by decide) ?_
            refine lv_iload_n hx hb dX12_one_202 rfl (lv_at hl 1 rfl) ?_
            refine lv_imul hx hb dX12_one_203 ?_
            refine lv_topi (fun v_68 ev_68 => ?_)
            refine lv_aload_n hx hb dX12_one_204 rfl (lv_at hl 0 rfl) ?_
            have q_69 : (fp_176 0 13).toInt = v_40.toInt := (congrArg Int32.toInt (show fp_176 0 13 = v_40 from ev_40.symm))
            have q_70 : (fp_176 0 14).toInt = v_49.toInt := (congrArg Int32.toInt (show fp_176 0 14 = v_49 from ev_49.symm))
            refine sg_calli (va_runV (As := []) (rest := [.int v_68]) ⟨hx, hb, hml, hown, hts⟩ (kX12_byteAt l D ca za h hh fp_176 L Q hI H.size) (cwV 0 hts (gw_V (fun _ h => List.mem_cons_of_mem _ h) mw_840 mw_841 mw_842 mw_619 mw_839) rfl rfl rfl (by decide +kernel) ⟨Nat.le_of_ble_eq_true rfl, Nat.le_of_ble_eq_true rfl⟩) (sg_preV (ci := 12) (C := RX12) (T := TX12) (N := 55) hA hK hP hS hZ 0 (by decide) rfl rfl) rfl rfl hl.1 rfl (lv_room (Nat.le_of_ble_eq_true rfl)) dX12_one_205 ⟨Nat.le_refl _, Nat.le_refl _⟩) hA hS (fun r_74 f_71 L_72 Q_73 H locs hq hP hS => ?_)
            obtain ⟨⟨ef9, eL9, eQ9⟩, hq, p_75⟩ := hq
            rw [ef9, eL9, eQ9] at hP; clear ef9 eL9 eQ9
            refine lv_iadd hx hb dX12_one_208 ?_
            refine lv_topi (fun v_76 ev_76 => ?_)
            refine lv_bipush (v := 48) hx hb dX12_one_209 (by decide) ?_
            refine lv_isub hx hb dX12_one_211 ?_
            refine lv_topi (fun v_77 ev_77 => ?_)
            refine lv_istore_n (lv' := [(3, .int v_77), (0, .ref (h 0)), (4, .int y4_176)]) hx hb dX12_one_212 rfl hl (by decide) rfl (fun ls hl => ?_)
            obtain ⟨v_78, ev_78⟩ : ∃ z : Int32, z = y4_176 + 1 := ⟨_, rfl⟩
            have q_79 : v_78.toInt = y4_176.toInt + 1 := by rw [ev_78]; exact (bn_addc y4_176 1 (by decide) (by omega) (by omega))
            refine lv_iinc (v := v_78) (lv' := [(4, .int v_78), (3, .int v_77), (0, .ref (h 0))]) hx hb dX12_one_213 hl (k := 2) rfl (by rw [ev_78]; rfl) (by decide) rfl (fun ls hl => ?_)
            refine lv_aload_n hx hb dX12_one_216 rfl (lv_at hl 2 rfl) ?_
            refine lv_dup hx hb dX12_one_217 rfl ?_
            refine sg_get (ci := 12) (v := .int v_40) (C := RX12) (T := TX12) (N := 55) hx hb hts (fun w h => List.mem_cons_of_mem _ (gx_12 w h)) hown hK hP 0 (by decide) rfl rfl 13 (by decide) (hts _ (List.mem_cons_of_mem _ mw_625)) (fun _ h9 => h9) (congrArg (fun z => some (Value.int z)) (show fp_176 0 13 = v_40 from ev_40.symm)) dX12_one_218 ?_
            refine lv_iconst (v := 1) hx hb dX12_one_221 (by decide) ?_
            refine lv_iadd hx hb dX12_one_222 ?_
            refine lv_topi (fun v_80 ev_80 => ?_)
            have q_81 : v_80.toInt = v_40.toInt + 1 := by rw [ev_80]; have k1 : (1 : Int32).toInt = 1 := (by decide); exact (bn_addI (by omega) (by omega)).trans (by omega)
            refine sg_put (ci := 12) (x := v_80) (ty := .int) (C := RX12) (T := TX12) (N := 55) hx hb hts (fun w h => List.mem_cons_of_mem _ (gx_12 w h)) tyX12 tyX12_ok nmX12 hown hh hA hK hP hS 0 (by decide) rfl rfl 13 (by decide) (hts _ (List.mem_cons_of_mem _ mw_625)) (fun _ h9 => h9) rfl rfl (by decide +kernel) rfl rfl (Nat.le_of_ble_eq_true rfl) dX12_one_223 (fun f_82 H locs ef_82 hP hS => ?_)
            have hI : sgI loM hiM f_82 := by rw [ef_82]; exact sgI.put hI 0 13 (show 0 ≤ (v_80 : Int32).toInt ∧ (v_80 : Int32).toInt ≤ 120 from by omega)
            have hF : sgK WkX12_one_4 f f_82 := sgK.put hF ef_82 (by rfl)
            refine lv_goto (tgt := 176) hx hb dX12_one_226 (by decide) ?_
            exact ih_176 v_77 v_78 f_82 _ _ _ (by omega) (by have zz0_15 : (f_82 0 15).toInt = v_37.toInt := (congrArg Int32.toInt (show f_82 0 15 = v_37 from (by rw [ef_82, sg_up_s, sgu_n (by decide)]; exact ev_37.symm))); omega) (by omega) (by have zz0_13 : (f_82 0 13).toInt = v_80.toInt := (congrArg Int32.toInt (show f_82 0 13 = v_80 from (by rw [ef_82, sg_up_s, sgu_s]))); omega) (by have zz0_16 : (f_82 0 16).toInt = v_43.toInt := (congrArg Int32.toInt (show f_82 0 16 = v_43 from (by rw [ef_82, sg_up_s, sgu_n (by decide)]; exact ev_43.symm))); omega) (by have zz0_15 : (f_82 0 15).toInt = v_37.toInt := (congrArg Int32.toInt (show f_82 0 15 = v_37 from (by rw [ef_82, sg_up_s, sgu_n (by decide)]; exact ev_37.symm))); have zz0_16 : (f_82 0 16).toInt = v_43.toInt := (congrArg Int32.toInt (show f_82 0 16 = v_43 from (by rw [ef_82, sg_up_s, sgu_n (by decide)]; exact ev_43.symm))); omega) hI hF hP hS (lv_sub hl [2, 1, 0] rfl)
  refine lv_aload_n hx hb dX12_one_0 rfl (lv_at hl 0 rfl) ?_
  refine sg_get (ci := 12) (v := .int v_3) (C := RX12) (T := TX12) (N := 55) hx hb hts (fun w h => List.mem_cons_of_mem _ (gx_12 w h)) hown hK hP 0 (by decide) rfl rfl 15 (by decide) (hts _ (List.mem_cons_of_mem _ mw_627)) (fun _ h9 => h9) (congrArg (fun z => some (Value.int z)) (show f 0 15 = v_3 from ev_3.symm)) dX12_one_1 ?_
  refine lv_if_lt (tgt := 9) hx hb dX12_one_4 (by decide) (fun c => ?_) (fun c => ?_)
  · skip
    have c_83 : v_3.toInt < 0 := (by have z := bn_lt c; have k1 : (0 : Int32).toInt = 0 := (by decide); omega)
    refine lv_aload_n hx hb dX12_one_9 rfl (lv_at hl 0 rfl) ?_
    have q_85 : (f 0 13).toInt = v_5.toInt := (congrArg Int32.toInt (show f 0 13 = v_5 from ev_5.symm))
    obtain ⟨v_86, ev_86⟩ : ∃ z : Int32, z = f 0 14 := ⟨_, rfl⟩
    have q_87 : 0 ≤ v_86.toInt ∧ v_86.toInt ≤ 120 := by rw [ev_86]; exact hI 0 14
    have q_88 : (f 0 14).toInt = v_86.toInt := (congrArg Int32.toInt (show f 0 14 = v_86 from ev_86.symm))
    refine sg_calli (va_runV (As := []) (rest := []) ⟨hx, hb, hml, hown, hts⟩ (kX12_byteAt l D ca za h hh f L Q hI H.size) (cwV 0 hts (gw_V (fun _ h => List.mem_cons_of_mem _ h) mw_840 mw_841 mw_842 mw_619 mw_839) rfl rfl rfl (by decide +kernel) ⟨Nat.le_of_ble_eq_true rfl, Nat.le_of_ble_eq_true rfl⟩) (sg_preV (ci := 12) (C := RX12) (T := TX12) (N := 55) hA hK hP hS hZ 0 (by decide) rfl rfl) rfl rfl hl.1 rfl (lv_room (Nat.le_of_ble_eq_true rfl)) dX12_one_10 ⟨Nat.le_refl _, Nat.le_refl _⟩) hA hS (fun r_92 f_89 L_90 Q_91 H locs hq hP hS => ?_)
    obtain ⟨⟨ef9, eL9, eQ9⟩, hq, p_93⟩ := hq
    rw [ef9, eL9, eQ9] at hP; clear ef9 eL9 eQ9
    refine lv_istore_n (lv' := [(1, .int r_92), (0, .ref (h 0))]) hx hb dX12_one_13 rfl hl (by decide) rfl (fun ls hl => ?_)
    refine lv_iload_n hx hb dX12_one_14 rfl (lv_at hl 0 rfl) ?_
    refine lv_bipush (v := 33) hx hb dX12_one_15 (by decide) ?_
    refine lv_icmp_eq (tgt := 32) hx hb dX12_one_17 (by decide) (fun c => ?_) (fun c => ?_)
    · skip
      have c_94 : r_92.toInt = 33 := (by have z := Int32.toInt_inj.mpr c; have k1 : (33 : Int32).toInt = 33 := (by decide); omega)
      refine lv_aload_n hx hb dX12_one_32 rfl (lv_at hl 1 rfl) ?_
      have c_96 : v_1 = 4 := Int32.toInt_inj.mp (by have k9 : (4 : Int32).toInt = 4 := (by decide); omega)
      refine sg_get (ci := 12) (v := .int 4) (C := RX12) (T := TX12) (N := 55) hx hb hts (fun w h => List.mem_cons_of_mem _ (gx_12 w h)) hown hK hP 0 (by decide) rfl rfl 16 (by decide) (hts _ (List.mem_cons_of_mem _ mw_628)) (fun _ h9 => h9) (congrArg (fun z => some (Value.int z)) (show f 0 16 = 4 from (Eq.trans ev_1.symm c_96))) dX12_one_33 ?_
      refine lv_bipush (v := 6) hx hb dX12_one_36 (by decide) ?_
      refine lv_icmp_ne (tgt := 46) hx hb dX12_one_38 (by decide) (fun c => ?_) (fun c => absurd c (by decide))
      refine lv_aload_n hx hb dX12_one_46 rfl (lv_at hl 1 rfl) ?_
      refine lv_dup hx hb dX12_one_47 rfl ?_
      refine sg_get (ci := 12) (v := .int 4) (C := RX12) (T := TX12) (N := 55) hx hb hts (fun w h => List.mem_cons_of_mem _ (gx_12 w h)) hown hK hP 0 (by decide) rfl rfl 16 (by decide) (hts _ (List.mem_cons_of_mem _ mw_628)) (fun _ h9 => h9) (congrArg (fun z => some (Value.int z)) (show f 0 16 = 4 from (Eq.trans ev_1.symm c_96))) dX12_one_48 ?_
      refine lv_iconst (v := 1) hx hb dX12_one_51 (by decide) ?_
      refine lv_iadd hx hb dX12_one_52 ?_
      refine W.eq (g2 := F0 m 53 ls [.int 5, .ref (h 0)]) (by rw [show (4 + 1 : Int32) = 5 from by decide]) ?_
      refine sg_put (ci := 12) (x := 5) (ty := .int) (C := RX12) (T := TX12) (N := 55) hx hb hts (fun w h => List.mem_cons_of_mem _ (gx_12 w h)) tyX12 tyX12_ok nmX12 hown hh hA hK hP hS 0 (by decide) rfl rfl 16 (by decide) (hts _ (List.mem_cons_of_mem _ mw_628)) (fun _ h9 => h9) rfl rfl (by decide +kernel) rfl rfl (Nat.le_of_ble_eq_true rfl) dX12_one_53 (fun f_97 H locs ef_97 hP hS => ?_)
      have hI : sgI loM hiM f_97 := by rw [ef_97]; exact sgI.put hI 0 16 (show 0 ≤ (5 : Int32).toInt ∧ (5 : Int32).toInt ≤ 6 from by decide)
      have hF : sgK WkX12_one_4 f f_97 := sgK.put hF ef_97 (by rfl)
      refine lv_aload_n hx hb dX12_one_56 rfl (lv_at hl 1 rfl) ?_
      refine lv_dup hx hb dX12_one_57 rfl ?_
      refine sg_get (ci := 12) (v := .int v_5) (C := RX12) (T := TX12) (N := 55) hx hb hts (fun w h => List.mem_cons_of_mem _ (gx_12 w h)) hown hK hP 0 (by decide) rfl rfl 13 (by decide) (hts _ (List.mem_cons_of_mem _ mw_625)) (fun _ h9 => h9) (congrArg (fun z => some (Value.int z)) (show f_97 0 13 = v_5 from (by rw [ef_97, sg_up_s, sgu_n (by decide)]; exact ev_5.symm))) dX12_one_58 ?_
      refine lv_iconst (v := 1) hx hb dX12_one_61 (by decide) ?_
      refine lv_iadd hx hb dX12_one_62 ?_
      refine lv_topi (fun v_98 ev_98 => ?_)
      have q_99 : v_98.toInt = v_5.toInt + 1 := by rw [ev_98]; have k1 : (1 : Int32).toInt = 1 := (by decide); exact (bn_addI (by omega) (by omega)).trans (by omega)
      refine sg_put (ci := 12) (x := v_98) (ty := .int) (C := RX12) (T := TX12) (N := 55) hx hb hts (fun w h => List.mem_cons_of_mem _ (gx_12 w h)) tyX12 tyX12_ok nmX12 hown hh hA hK hP hS 0 (by decide) rfl rfl 13 (by decide) (hts _ (List.mem_cons_of_mem _ mw_625)) (fun _ h9 => h9) rfl rfl (by decide +kernel) rfl rfl (Nat.le_of_ble_eq_true rfl) dX12_one_63 (fun f_100 H locs ef_100 hP hS => ?_)
      have hI : sgI loM hiM f_100 := by rw [ef_100]; exact sgI.put hI 0 13 (show 0 ≤ (v_98 : Int32).toInt ∧ (v_98 : Int32).toInt ≤ 120 from by omega)
      have hF : sgK WkX12_one_4 f f_100 := sgK.put hF ef_100 (by rfl)
      refine lv_iload_n hx hb dX12_one_66 rfl (lv_at hl 0 rfl) ?_
      refine lv_bipush (v := 40) hx hb dX12_one_67 (by decide) ?_
      refine lv_icmp_ne (tgt := 79) hx hb dX12_one_69 (by decide) (fun c => ?_) (fun c => ?_)
      · skip
        have c_101 : r_92.toInt ≠ 40 := (by have z := bn_ne c; have k1 : (40 : Int32).toInt = 40 := (by decide); omega)
        refine lv_aload_n hx hb dX12_one_79 rfl (lv_at hl 1 rfl) ?_
        have q_103 : (f_100 0 16).toInt = 5 := (congrArg Int32.toInt (show f_100 0 16 = 5 from (by rw [ef_100, sg_up_s, sgu_n (by decide)]; exact (by rw [ef_97, sg_up_s, sgu_s])))).trans (by decide)
        have q_104 : (f_100 0 15).toInt = v_3.toInt := (congrArg Int32.toInt (show f_100 0 15 = v_3 from (by rw [ef_100, sg_up_s, sgu_n (by decide)]; exact (by rw [ef_97, sg_up_s, sgu_n (by decide)]; exact ev_3.symm))))
        have q_105 : (f_100 0 16).toInt = 5 := (congrArg Int32.toInt (show f_100 0 16 = 5 from (by rw [ef_100, sg_up_s, sgu_n (by decide)]; exact (by rw [ef_97, sg_up_s, sgu_s])))).trans (by decide)
        have q_106 : (f_100 0 13).toInt = v_98.toInt := (congrArg Int32.toInt (show f_100 0 13 = v_98 from (by rw [ef_100, sg_up_s, sgu_s])))
        refine sg_calli (va_runV (As := []) (rest := []) ⟨hx, hb, hml, hown, hts⟩ (kX12_one_5 l D ca za h hh f_100 L Q hI (by omega) (by omega) H.size) (cwV 0 hts (gw_V (fun _ h => List.mem_cons_of_mem _ h) mw_789 mw_790 mw_791 mw_619 mw_788) rfl rfl rfl (by decide +kernel) ⟨Nat.le_of_ble_eq_true rfl, Nat.le_of_ble_eq_true rfl⟩) (sg_preV (ci := 12) (C := RX12) (T := TX12) (N := 55) hA hK hP hS hZ 0 (by decide) rfl rfl) rfl rfl hl.1 rfl (lv_room (Nat.le_of_ble_eq_true rfl)) dX12_one_80 ⟨Nat.le_refl _, Nat.le_refl _⟩) hA hS (fun r_110 f_107 L_108 Q_109 H locs hq hP hS => ?_)
        obtain ⟨⟨hI, hk_f_107, eL9, eQ9⟩, hq, p_111, p_112, p_113⟩ := hq
        rw [eL9, eQ9] at hP; clear eL9 eQ9
        have hF : sgK WkX12_one_4 f f_107 := sgK.tr hF hk_f_107 (by decide)
        obtain ⟨v_114, ev_114⟩ : ∃ z : Int32, z = f_107 0 13 := ⟨_, rfl⟩
        have q_115 : 0 ≤ v_114.toInt ∧ v_114.toInt ≤ 120 := by rw [ev_114]; exact hI 0 13
        have q_116 : (f_107 0 13).toInt = v_114.toInt := (congrArg Int32.toInt (show f_107 0 13 = v_114 from ev_114.symm))
        obtain ⟨v_117, ev_117⟩ : ∃ z : Int32, z = f_107 0 16 := ⟨_, rfl⟩
        have q_118 : 0 ≤ v_117.toInt ∧ v_117.toInt ≤ 6 := by rw [ev_117]; exact hI 0 16
        have q_119 : (f_107 0 16).toInt = v_117.toInt := (congrArg Int32.toInt (show f_107 0 16 = v_117 from ev_117.symm))
        obtain ⟨v_120, ev_120⟩ : ∃ z : Int32, z = f_107 0 15 := ⟨_, rfl⟩
        have q_121 : (-1) ≤ v_120.toInt ∧ v_120.toInt ≤ 120 := by rw [ev_120]; exact hI 0 15
        have q_122 : (f_107 0 15).toInt = v_120.toInt := (congrArg Int32.toInt (show f_107 0 15 = v_120 from ev_120.symm))
        have q_123 : (f_107 0 16).toInt = v_117.toInt := (congrArg Int32.toInt (show f_107 0 16 = v_117 from ev_117.symm))
        refine lv_istore_n (lv' := [(2, .int r_110), (1, .int r_92), (0, .ref (h 0))]) hx hb dX12_one_83 rfl hl (by decide) rfl (fun ls hl => ?_)
        refine lv_iload_n hx hb dX12_one_84 rfl (lv_at hl 1 rfl) ?_
        refine lv_bipush (v := 40) hx hb dX12_one_85 (by decide) ?_
        refine lv_icmp_ne (tgt := 104) hx hb dX12_one_87 (by decide) (fun c => ?_) (fun c => ?_)
        · skip
          have c_124 : r_92.toInt ≠ 40 := (by have z := bn_ne c; have k1 : (40 : Int32).toInt = 40 := (by decide); omega)
          refine lv_aload_n hx hb dX12_one_104 rfl (lv_at hl 2 rfl) ?_
          refine lv_dup hx hb dX12_one_105 rfl ?_
          refine sg_get (ci := 12) (v := .int v_117) (C := RX12) (T := TX12) (N := 55) hx hb hts (fun w h => List.mem_cons_of_mem _ (gx_12 w h)) hown hK hP 0 (by decide) rfl rfl 16 (by decide) (hts _ (List.mem_cons_of_mem _ mw_628)) (fun _ h9 => h9) (congrArg (fun z => some (Value.int z)) (show f_107 0 16 = v_117 from ev_117.symm)) dX12_one_106 ?_
          refine lv_iconst (v := 1) hx hb dX12_one_109 (by decide) ?_
          refine lv_isub hx hb dX12_one_110 ?_
          refine lv_topi (fun v_126 ev_126 => ?_)
          have q_127 : v_126.toInt = v_117.toInt - 1 := by rw [ev_126]; have k1 : (1 : Int32).toInt = 1 := (by decide); exact (bn_subI (by omega) (by omega)).trans (by omega)
          refine sg_put (ci := 12) (x := v_126) (ty := .int) (C := RX12) (T := TX12) (N := 55) hx hb hts (fun w h => List.mem_cons_of_mem _ (gx_12 w h)) tyX12 tyX12_ok nmX12 hown hh hA hK hP hS 0 (by decide) rfl rfl 16 (by decide) (hts _ (List.mem_cons_of_mem _ mw_628)) (fun _ h9 => h9) rfl rfl (by decide +kernel) rfl rfl (Nat.le_of_ble_eq_true rfl) dX12_one_111 (fun f_128 H locs ef_128 hP hS => ?_)
          have hI : sgI loM hiM f_128 := by rw [ef_128]; exact sgI.put hI 0 16 (show 0 ≤ (v_126 : Int32).toInt ∧ (v_126 : Int32).toInt ≤ 6 from by omega)
          have hF : sgK WkX12_one_4 f f_128 := sgK.put hF ef_128 (by rfl)
          refine lv_iload_n hx hb dX12_one_114 rfl (lv_at hl 1 rfl) ?_
          refine lv_bipush (v := 40) hx hb dX12_one_115 (by decide) ?_
          refine lv_icmp_ne (tgt := 124) hx hb dX12_one_117 (by decide) (fun c => ?_) (fun c => ?_)
          · skip
            have c_129 : r_92.toInt ≠ 40 := (by have z := bn_ne c; have k1 : (40 : Int32).toInt = 40 := (by decide); omega)
            refine lv_iload_n hx hb dX12_one_124 rfl (lv_at hl 1 rfl) ?_
            refine lv_bipush (v := 45) hx hb dX12_one_125 (by decide) ?_
            refine lv_icmp_ne (tgt := 135) hx hb dX12_one_127 (by decide) (fun c => ?_) (fun c => ?_)
            · skip
              have c_131 : r_92.toInt ≠ 45 := (by have z := bn_ne c; have k1 : (45 : Int32).toInt = 45 := (by decide); omega)
              refine lv_iload_n hx hb dX12_one_135 rfl (lv_at hl 0 rfl) ?_
              refine lv_if_ne (tgt := 143) hx hb dX12_one_136 (by decide) (fun c => ?_) (fun c => ?_)
              · skip
                have c_133 : r_110.toInt ≠ 0 := (by have z := bn_ne c; have k1 : (0 : Int32).toInt = 0 := (by decide); omega)
                refine lv_iconst (v := 0) hx hb dX12_one_143 (by decide) ?_
                have q_135 : (f_128 0 13).toInt = v_114.toInt := (congrArg Int32.toInt (show f_128 0 13 = v_114 from (by rw [ef_128, sg_up_s, sgu_n (by decide)]; exact ev_114.symm)))
                have q_136 : (f_128 0 16).toInt = v_126.toInt := (congrArg Int32.toInt (show f_128 0 16 = v_126 from (by rw [ef_128, sg_up_s, sgu_s])))
                have q_137 : (f_128 0 15).toInt = v_120.toInt := (congrArg Int32.toInt (show f_128 0 15 = v_120 from (by rw [ef_128, sg_up_s, sgu_n (by decide)]; exact ev_120.symm)))
                have q_138 : (f_128 0 16).toInt = v_126.toInt := (congrArg Int32.toInt (show f_128 0 16 = v_126 from (by rw [ef_128, sg_up_s, sgu_s])))
                have k99 : (0 : Int32).toInt = 0 := (by decide)
                exact hret _ _ _ _ (0) f_128 L Q dX12_one_144 hP hS ⟨⟨hI, hF, rfl, rfl⟩, trivial, (by omega), (by omega), (by omega)⟩
              · skip
                have c_134 : r_110.toInt = 0 := (by have z := Int32.toInt_inj.mpr c; have k1 : (0 : Int32).toInt = 0 := (by decide); omega)
                refine lv_iconst (v := 1) hx hb dX12_one_139 (by decide) ?_
                refine lv_goto (tgt := 144) hx hb dX12_one_140 (by decide) ?_
                have q_139 : (f_128 0 13).toInt = v_114.toInt := (congrArg Int32.toInt (show f_128 0 13 = v_114 from (by rw [ef_128, sg_up_s, sgu_n (by decide)]; exact ev_114.symm)))
                have q_140 : (f_128 0 16).toInt = v_126.toInt := (congrArg Int32.toInt (show f_128 0 16 = v_126 from (by rw [ef_128, sg_up_s, sgu_s])))
                have q_141 : (f_128 0 15).toInt = v_120.toInt := (congrArg Int32.toInt (show f_128 0 15 = v_120 from (by rw [ef_128, sg_up_s, sgu_n (by decide)]; exact ev_120.symm)))
                have q_142 : (f_128 0 16).toInt = v_126.toInt := (congrArg Int32.toInt (show f_128 0 16 = v_126 from (by rw [ef_128, sg_up_s, sgu_s])))
                have k99 : (1 : Int32).toInt = 1 := (by decide)
                exact hret _ _ _ _ (1) f_128 L Q dX12_one_144 hP hS ⟨⟨hI, hF, rfl, rfl⟩, trivial, (by omega), (by omega), (by omega)⟩
            · skip
              exfalso; have c_132 : r_92.toInt = 45 := (by have z := Int32.toInt_inj.mpr c; have k1 : (45 : Int32).toInt = 45 := (by decide); omega); omega
          · skip
            exfalso; have c_130 : r_92.toInt = 40 := (by have z := Int32.toInt_inj.mpr c; have k1 : (40 : Int32).toInt = 40 := (by decide); omega); omega
        · skip
          exfalso; have c_125 : r_92.toInt = 40 := (by have z := Int32.toInt_inj.mpr c; have k1 : (40 : Int32).toInt = 40 := (by decide); omega); omega
      · skip
        exfalso; have c_102 : r_92.toInt = 40 := (by have z := Int32.toInt_inj.mpr c; have k1 : (40 : Int32).toInt = 40 := (by decide); omega); omega
    · skip
      have c_95 : r_92.toInt ≠ 33 := (by have z := bn_ne c; have k1 : (33 : Int32).toInt = 33 := (by decide); omega)
      refine lv_iload_n hx hb dX12_one_20 rfl (lv_at hl 0 rfl) ?_
      refine lv_bipush (v := 45) hx hb dX12_one_21 (by decide) ?_
      refine lv_icmp_eq (tgt := 32) hx hb dX12_one_23 (by decide) (fun c => ?_) (fun c => ?_)
      · skip
        have c_143 : r_92.toInt = 45 := (by have z := Int32.toInt_inj.mpr c; have k1 : (45 : Int32).toInt = 45 := (by decide); omega)
        refine lv_aload_n hx hb dX12_one_32 rfl (lv_at hl 1 rfl) ?_
        have c_145 : v_1 = 4 := Int32.toInt_inj.mp (by have k9 : (4 : Int32).toInt = 4 := (by decide); omega)
        refine sg_get (ci := 12) (v := .int 4) (C := RX12) (T := TX12) (N := 55) hx hb hts (fun w h => List.mem_cons_of_mem _ (gx_12 w h)) hown hK hP 0 (by decide) rfl rfl 16 (by decide) (hts _ (List.mem_cons_of_mem _ mw_628)) (fun _ h9 => h9) (congrArg (fun z => some (Value.int z)) (show f 0 16 = 4 from (Eq.trans ev_1.symm c_145))) dX12_one_33 ?_
        refine lv_bipush (v := 6) hx hb dX12_one_36 (by decide) ?_
        refine lv_icmp_ne (tgt := 46) hx hb dX12_one_38 (by decide) (fun c => ?_) (fun c => absurd c (by decide))
        refine lv_aload_n hx hb dX12_one_46 rfl (lv_at hl 1 rfl) ?_
        refine lv_dup hx hb dX12_one_47 rfl ?_
        refine sg_get (ci := 12) (v := .int 4) (C := RX12) (T := TX12) (N := 55) hx hb hts (fun w h => List.mem_cons_of_mem _ (gx_12 w h)) hown hK hP 0 (by decide) rfl rfl 16 (by decide) (hts _ (List.mem_cons_of_mem _ mw_628)) (fun _ h9 => h9) (congrArg (fun z => some (Value.int z)) (show f 0 16 = 4 from (Eq.trans ev_1.symm c_145))) dX12_one_48 ?_
        refine lv_iconst (v := 1) hx hb dX12_one_51 (by decide) ?_
        refine lv_iadd hx hb dX12_one_52 ?_
        refine W.eq (g2 := F0 m 53 ls [.int 5, .ref (h 0)]) (by rw [show (4 + 1 : Int32) = 5 from by decide]) ?_
        refine sg_put (ci := 12) (x := 5) (ty := .int) (C := RX12) (T := TX12) (N := 55) hx hb hts (fun w h => List.mem_cons_of_mem _ (gx_12 w h)) tyX12 tyX12_ok nmX12 hown hh hA hK hP hS 0 (by decide) rfl rfl 16 (by decide) (hts _ (List.mem_cons_of_mem _ mw_628)) (fun _ h9 => h9) rfl rfl (by decide +kernel) rfl rfl (Nat.le_of_ble_eq_true rfl) dX12_one_53 (fun f_146 H locs ef_146 hP hS => ?_)
        have hI : sgI loM hiM f_146 := by rw [ef_146]; exact sgI.put hI 0 16 (show 0 ≤ (5 : Int32).toInt ∧ (5 : Int32).toInt ≤ 6 from by decide)
        have hF : sgK WkX12_one_4 f f_146 := sgK.put hF ef_146 (by rfl)
        refine lv_aload_n hx hb dX12_one_56 rfl (lv_at hl 1 rfl) ?_
        refine lv_dup hx hb dX12_one_57 rfl ?_
        refine sg_get (ci := 12) (v := .int v_5) (C := RX12) (T := TX12) (N := 55) hx hb hts (fun w h => List.mem_cons_of_mem _ (gx_12 w h)) hown hK hP 0 (by decide) rfl rfl 13 (by decide) (hts _ (List.mem_cons_of_mem _ mw_625)) (fun _ h9 => h9) (congrArg (fun z => some (Value.int z)) (show f_146 0 13 = v_5 from (by rw [ef_146, sg_up_s, sgu_n (by decide)]; exact ev_5.symm))) dX12_one_58 ?_
        refine lv_iconst (v := 1) hx hb dX12_one_61 (by decide) ?_
        refine lv_iadd hx hb dX12_one_62 ?_
        refine lv_topi (fun v_147 ev_147 => ?_)
        have q_148 : v_147.toInt = v_5.toInt + 1 := by rw [ev_147]; have k1 : (1 : Int32).toInt = 1 := (by decide); exact (bn_addI (by omega) (by omega)).trans (by omega)
        refine sg_put (ci := 12) (x := v_147) (ty := .int) (C := RX12) (T := TX12) (N := 55) hx hb hts (fun w h => List.mem_cons_of_mem _ (gx_12 w h)) tyX12 tyX12_ok nmX12 hown hh hA hK hP hS 0 (by decide) rfl rfl 13 (by decide) (hts _ (List.mem_cons_of_mem _ mw_625)) (fun _ h9 => h9) rfl rfl (by decide +kernel) rfl rfl (Nat.le_of_ble_eq_true rfl) dX12_one_63 (fun f_149 H locs ef_149 hP hS => ?_)
        have hI : sgI loM hiM f_149 := by rw [ef_149]; exact sgI.put hI 0 13 (show 0 ≤ (v_147 : Int32).toInt ∧ (v_147 : Int32).toInt ≤ 120 from by omega)
        have hF : sgK WkX12_one_4 f f_149 := sgK.put hF ef_149 (by rfl)
        refine lv_iload_n hx hb dX12_one_66 rfl (lv_at hl 0 rfl) ?_
        refine lv_bipush (v := 40) hx hb dX12_one_67 (by decide) ?_
        refine lv_icmp_ne (tgt := 79) hx hb dX12_one_69 (by decide) (fun c => ?_) (fun c => ?_)
        · skip
          have c_150 : r_92.toInt ≠ 40 := (by have z := bn_ne c; have k1 : (40 : Int32).toInt = 40 := (by decide); omega)
          refine lv_aload_n hx hb dX12_one_79 rfl (lv_at hl 1 rfl) ?_
          have q_152 : (f_149 0 16).toInt = 5 := (congrArg Int32.toInt (show f_149 0 16 = 5 from (by rw [ef_149, sg_up_s, sgu_n (by decide)]; exact (by rw [ef_146, sg_up_s, sgu_s])))).trans (by decide)
          have q_153 : (f_149 0 15).toInt = v_3.toInt := (congrArg Int32.toInt (show f_149 0 15 = v_3 from (by rw [ef_149, sg_up_s, sgu_n (by decide)]; exact (by rw [ef_146, sg_up_s, sgu_n (by decide)]; exact ev_3.symm))))
          have q_154 : (f_149 0 16).toInt = 5 := (congrArg Int32.toInt (show f_149 0 16 = 5 from (by rw [ef_149, sg_up_s, sgu_n (by decide)]; exact (by rw [ef_146, sg_up_s, sgu_s])))).trans (by decide)
          have q_155 : (f_149 0 13).toInt = v_147.toInt := (congrArg Int32.toInt (show f_149 0 13 = v_147 from (by rw [ef_149, sg_up_s, sgu_s])))
          refine sg_calli (va_runV (As := []) (rest := []) ⟨hx, hb, hml, hown, hts⟩ (kX12_one_5 l D ca za h hh f_149 L Q hI (by omega) (by omega) H.size) (cwV 0 hts (gw_V (fun _ h => List.mem_cons_of_mem _ h) mw_789 mw_790 mw_791 mw_619 mw_788) rfl rfl rfl (by decide +kernel) ⟨Nat.le_of_ble_eq_true rfl, Nat.le_of_ble_eq_true rfl⟩) (sg_preV (ci := 12) (C := RX12) (T := TX12) (N := 55) hA hK hP hS hZ 0 (by decide) rfl rfl) rfl rfl hl.1 rfl (lv_room (Nat.le_of_ble_eq_true rfl)) dX12_one_80 ⟨Nat.le_refl _, Nat.le_refl _⟩) hA hS (fun r_159 f_156 L_157 Q_158 H locs hq hP hS => ?_)
          obtain ⟨⟨hI, hk_f_156, eL9, eQ9⟩, hq, p_160, p_161, p_162⟩ := hq
          rw [eL9, eQ9] at hP; clear eL9 eQ9
          have hF : sgK WkX12_one_4 f f_156 := sgK.tr hF hk_f_156 (by decide)
          obtain ⟨v_163, ev_163⟩ : ∃ z : Int32, z = f_156 0 13 := ⟨_, rfl⟩
          have q_164 : 0 ≤ v_163.toInt ∧ v_163.toInt ≤ 120 := by rw [ev_163]; exact hI 0 13
          have q_165 : (f_156 0 13).toInt = v_163.toInt := (congrArg Int32.toInt (show f_156 0 13 = v_163 from ev_163.symm))
          obtain ⟨v_166, ev_166⟩ : ∃ z : Int32, z = f_156 0 16 := ⟨_, rfl⟩
          have q_167 : 0 ≤ v_166.toInt ∧ v_166.toInt ≤ 6 := by rw [ev_166]; exact hI 0 16
          have q_168 : (f_156 0 16).toInt = v_166.toInt := (congrArg Int32.toInt (show f_156 0 16 = v_166 from ev_166.symm))
          obtain ⟨v_169, ev_169⟩ : ∃ z : Int32, z = f_156 0 15 := ⟨_, rfl⟩
          have q_170 : (-1) ≤ v_169.toInt ∧ v_169.toInt ≤ 120 := by rw [ev_169]; exact hI 0 15
          have q_171 : (f_156 0 15).toInt = v_169.toInt := (congrArg Int32.toInt (show f_156 0 15 = v_169 from ev_169.symm))
          have q_172 : (f_156 0 16).toInt = v_166.toInt := (congrArg Int32.toInt (show f_156 0 16 = v_166 from ev_166.symm))
          refine lv_istore_n (lv' := [(2, .int r_159), (1, .int r_92), (0, .ref (h 0))]) hx hb dX12_one_83 rfl hl (by decide) rfl (fun ls hl => ?_)
          refine lv_iload_n hx hb dX12_one_84 rfl (lv_at hl 1 rfl) ?_
          refine lv_bipush (v := 40) hx hb dX12_one_85 (by decide) ?_
          refine lv_icmp_ne (tgt := 104) hx hb dX12_one_87 (by decide) (fun c => ?_) (fun c => ?_)
          · skip
            have c_173 : r_92.toInt ≠ 40 := (by have z := bn_ne c; have k1 : (40 : Int32).toInt = 40 := (by decide); omega)
            refine lv_aload_n hx hb dX12_one_104 rfl (lv_at hl 2 rfl) ?_
            refine lv_dup hx hb dX12_one_105 rfl ?_
            refine sg_get (ci := 12) (v := .int v_166) (C := RX12) (T := TX12) (N := 55) hx hb hts (fun w h => List.mem_cons_of_mem _ (gx_12 w h)) hown hK hP 0 (by decide) rfl rfl 16 (by decide) (hts _ (List.mem_cons_of_mem _ mw_628)) (fun _ h9 => h9) (congrArg (fun z => some (Value.int z)) (show f_156 0 16 = v_166 from ev_166.symm)) dX12_one_106 ?_
            refine lv_iconst (v := 1) hx hb dX12_one_109 (by decide) ?_
            refine lv_isub hx hb dX12_one_110 ?_
            refine lv_topi (fun v_175 ev_175 => ?_)
            have q_176 : v_175.toInt = v_166.toInt - 1 := by rw [ev_175]; have k1 : (1 : Int32).toInt = 1 := (by decide); exact (bn_subI (by omega) (by omega)).trans (by omega)
            refine sg_put (ci := 12) (x := v_175) (ty := .int) (C := RX12) (T := TX12) (N := 55) hx hb hts (fun w h => List.mem_cons_of_mem _ (gx_12 w h)) tyX12 tyX12_ok nmX12 hown hh hA hK hP hS 0 (by decide) rfl rfl 16 (by decide) (hts _ (List.mem_cons_of_mem _ mw_628)) (fun _ h9 => h9) rfl rfl (by decide +kernel) rfl rfl (Nat.le_of_ble_eq_true rfl) dX12_one_111 (fun f_177 H locs ef_177 hP hS => ?_)
            have hI : sgI loM hiM f_177 := by rw [ef_177]; exact sgI.put hI 0 16 (show 0 ≤ (v_175 : Int32).toInt ∧ (v_175 : Int32).toInt ≤ 6 from by omega)
            have hF : sgK WkX12_one_4 f f_177 := sgK.put hF ef_177 (by rfl)
            refine lv_iload_n hx hb dX12_one_114 rfl (lv_at hl 1 rfl) ?_
            refine lv_bipush (v := 40) hx hb dX12_one_115 (by decide) ?_
            refine lv_icmp_ne (tgt := 124) hx hb dX12_one_117 (by decide) (fun c => ?_) (fun c => ?_)
            · skip
              have c_178 : r_92.toInt ≠ 40 := (by have z := bn_ne c; have k1 : (40 : Int32).toInt = 40 := (by decide); omega)
              refine lv_iload_n hx hb dX12_one_124 rfl (lv_at hl 1 rfl) ?_
              refine lv_bipush (v := 45) hx hb dX12_one_125 (by decide) ?_
              refine lv_icmp_ne (tgt := 135) hx hb dX12_one_127 (by decide) (fun c => ?_) (fun c => ?_)
              · skip
                exfalso; have c_180 : r_92.toInt ≠ 45 := (by have z := bn_ne c; have k1 : (45 : Int32).toInt = 45 := (by decide); omega); omega
              · skip
                have c_181 : r_92.toInt = 45 := (by have z := Int32.toInt_inj.mpr c; have k1 : (45 : Int32).toInt = 45 := (by decide); omega)
                refine lv_iload_n hx hb dX12_one_130 rfl (lv_at hl 0 rfl) ?_
                refine lv_ineg hx hb dX12_one_131 ?_
                refine lv_topi (fun v_182 ev_182 => ?_)
                refine lv_goto (tgt := 144) hx hb dX12_one_132 (by decide) ?_
                have q_183 : (f_177 0 13).toInt = v_163.toInt := (congrArg Int32.toInt (show f_177 0 13 = v_163 from (by rw [ef_177, sg_up_s, sgu_n (by decide)]; exact ev_163.symm)))
                have q_184 : (f_177 0 16).toInt = v_175.toInt := (congrArg Int32.toInt (show f_177 0 16 = v_175 from (by rw [ef_177, sg_up_s, sgu_s])))
                have q_185 : (f_177 0 15).toInt = v_169.toInt := (congrArg Int32.toInt (show f_177 0 15 = v_169 from (by rw [ef_177, sg_up_s, sgu_n (by decide)]; exact ev_169.symm)))
                have q_186 : (f_177 0 16).toInt = v_175.toInt := (congrArg Int32.toInt (show f_177 0 16 = v_175 from (by rw [ef_177, sg_up_s, sgu_s])))
                exact hret _ _ _ _ (v_182) f_177 L Q dX12_one_144 hP hS ⟨⟨hI, hF, rfl, rfl⟩, trivial, (by omega), (by omega), (by omega)⟩
            · skip
              exfalso; have c_179 : r_92.toInt = 40 := (by have z := Int32.toInt_inj.mpr c; have k1 : (40 : Int32).toInt = 40 := (by decide); omega); omega
          · skip
            exfalso; have c_174 : r_92.toInt = 40 := (by have z := Int32.toInt_inj.mpr c; have k1 : (40 : Int32).toInt = 40 := (by decide); omega); omega
        · skip
          exfalso; have c_151 : r_92.toInt = 40 := (by have z := Int32.toInt_inj.mpr c; have k1 : (40 : Int32).toInt = 40 := (by decide); omega); omega
      · skip
        have c_144 : r_92.toInt ≠ 45 := (by have z := bn_ne c; have k1 : (45 : Int32).toInt = 45 := (by decide); omega)
        refine lv_iload_n hx hb dX12_one_26 rfl (lv_at hl 0 rfl) ?_
        refine lv_bipush (v := 40) hx hb dX12_one_27 (by decide) ?_
        refine lv_icmp_ne (tgt := 145) hx hb dX12_one_29 (by decide) (fun c => ?_) (fun c => ?_)
        · skip
          have c_187 : r_92.toInt ≠ 40 := (by have z := bn_ne c; have k1 : (40 : Int32).toInt = 40 := (by decide); omega)
          refine lv_iload_n hx hb dX12_one_145 rfl (lv_at hl 0 rfl) ?_
          refine sg_calli (va_runS (As := [.int r_92]) (rest := []) ⟨hx, hb, hml, hown, hts⟩ (kX12_nameOf l D ca za h hh f L Q hI r_92 (by omega) H.size) (va_cwS 1 hts (gw_S (fun _ h => List.mem_cons_of_mem _ h) mw_869 mw_870 mw_619 mw_868) rfl rfl rfl (by decide +kernel) ⟨Nat.le_of_ble_eq_true rfl, Nat.le_of_ble_eq_true rfl⟩) (sg_preS hA hK hP hS hZ) rfl rfl hl.1 rfl (lv_room (Nat.le_of_ble_eq_true rfl)) dX12_one_146 ⟨Nat.le_refl _, Nat.le_refl _⟩) hA hS (fun r_192 f_189 L_190 Q_191 H locs hq hP hS => ?_)
          obtain ⟨⟨ef9, eL9, eQ9⟩, hq, p_193⟩ := hq
          rw [ef9, eL9, eQ9] at hP; clear ef9 eL9 eQ9
          refine lv_istore_n (lv' := [(2, .int r_192), (1, .int r_92), (0, .ref (h 0))]) hx hb dX12_one_149 rfl hl (by decide) rfl (fun ls hl => ?_)
          refine lv_iload_n hx hb dX12_one_150 rfl (lv_at hl 0 rfl) ?_
          refine lv_if_lt (tgt := 171) hx hb dX12_one_151 (by decide) (fun c => ?_) (fun c => ?_)
          · skip
            have c_194 : r_192.toInt < 0 := (by have z := bn_lt c; have k1 : (0 : Int32).toInt = 0 := (by decide); omega)
            refine lv_iconst (v := 0) hx hb dX12_one_171 (by decide) ?_
            refine lv_istore_n (lv' := [(3, .int 0), (2, .int r_192), (1, .int r_92), (0, .ref (h 0))]) hx hb dX12_one_172 rfl hl (by decide) rfl (fun ls hl => ?_)
            refine lv_iconst (v := 0) hx hb dX12_one_173 (by decide) ?_
            refine lv_istore (lv' := [(4, .int 0), (3, .int 0), (2, .int r_192), (1, .int r_92), (0, .ref (h 0))]) hx hb dX12_one_174 hl (by decide) rfl (fun ls hl => ?_)
            exact loop_176 5 0 0 f _ _ _ (by have kc0 : (0 : Int32).toInt = 0 := (by decide); have kc1 : (0 : Int32).toInt = 0 := (by decide); omega) (by have zz0_15 : (f 0 15).toInt = v_3.toInt := (congrArg Int32.toInt (show f 0 15 = v_3 from ev_3.symm)); omega) (by decide) (by have kc0 : (0 : Int32).toInt = 0 := (by decide); have kc1 : (0 : Int32).toInt = 0 := (by decide); have zz0_13 : (f 0 13).toInt = v_5.toInt := (congrArg Int32.toInt (show f 0 13 = v_5 from ev_5.symm)); omega) (by have kc0 : (0 : Int32).toInt = 0 := (by decide); have kc1 : (0 : Int32).toInt = 0 := (by decide); have zz0_16 : (f 0 16).toInt = v_1.toInt := (congrArg Int32.toInt (show f 0 16 = v_1 from ev_1.symm)); omega) (by have kc0 : (0 : Int32).toInt = 0 := (by decide); have kc1 : (0 : Int32).toInt = 0 := (by decide); have zz0_15 : (f 0 15).toInt = v_3.toInt := (congrArg Int32.toInt (show f 0 15 = v_3 from ev_3.symm)); have zz0_16 : (f 0 16).toInt = v_1.toInt := (congrArg Int32.toInt (show f 0 16 = v_1 from ev_1.symm)); omega) hI hF hP hS (lv_sub hl [4, 1, 0] rfl)
          · skip
            have c_195 : 0 ≤ r_192.toInt := (by have z := bn_nlt c; have k1 : (0 : Int32).toInt = 0 := (by decide); omega)
            refine lv_aload_n hx hb dX12_one_154 rfl (lv_at hl 2 rfl) ?_
            refine lv_dup hx hb dX12_one_155 rfl ?_
            refine sg_get (ci := 12) (v := .int v_5) (C := RX12) (T := TX12) (N := 55) hx hb hts (fun w h => List.mem_cons_of_mem _ (gx_12 w h)) hown hK hP 0 (by decide) rfl rfl 13 (by decide) (hts _ (List.mem_cons_of_mem _ mw_625)) (fun _ h9 => h9) (congrArg (fun z => some (Value.int z)) (show f 0 13 = v_5 from ev_5.symm)) dX12_one_156 ?_
            refine lv_iconst (v := 1) hx hb dX12_one_159 (by decide) ?_
            refine lv_iadd hx hb dX12_one_160 ?_
            refine lv_topi (fun v_196 ev_196 => ?_)
            have q_197 : v_196.toInt = v_5.toInt + 1 := by rw [ev_196]; have k1 : (1 : Int32).toInt = 1 := (by decide); exact (bn_addI (by omega) (by omega)).trans (by omega)
            refine sg_put (ci := 12) (x := v_196) (ty := .int) (C := RX12) (T := TX12) (N := 55) hx hb hts (fun w h => List.mem_cons_of_mem _ (gx_12 w h)) tyX12 tyX12_ok nmX12 hown hh hA hK hP hS 0 (by decide) rfl rfl 13 (by decide) (hts _ (List.mem_cons_of_mem _ mw_625)) (fun _ h9 => h9) rfl rfl (by decide +kernel) rfl rfl (Nat.le_of_ble_eq_true rfl) dX12_one_161 (fun f_198 H locs ef_198 hP hS => ?_)
            have hI : sgI loM hiM f_198 := by rw [ef_198]; exact sgI.put hI 0 13 (show 0 ≤ (v_196 : Int32).toInt ∧ (v_196 : Int32).toInt ≤ 120 from by omega)
            have hF : sgK WkX12_one_4 f f_198 := sgK.put hF ef_198 (by rfl)
            refine lv_aload_n hx hb dX12_one_164 rfl (lv_at hl 2 rfl) ?_
            refine sg_get (ci := 12) (v := .ref (h 8)) (C := RX12) (T := TX12) (N := 55) hx hb hts (fun w h => List.mem_cons_of_mem _ (gx_12 w h)) hown hK hP 0 (by decide) rfl rfl 17 (by decide) (hts _ (List.mem_cons_of_mem _ mw_871)) (fun _ h9 => h9) rfl dX12_one_165 ?_
            refine lv_iload_n hx hb dX12_one_168 rfl (lv_at hl 0 rfl) ?_
            refine sg_iald hx hb hK hP 8 (by decide) 0 rfl rfl (i := r_192) (vp_in_iff.mpr ⟨by omega, by omega⟩) dX12_one_169 ?_
            refine lv_topi (fun v_199 ev_199 => ?_)
            have q_200 : 0 ≤ v_199.toInt ∧ v_199.toInt ≤ 60 := by rw [ev_199]; exact hI 8 _
            have q_201 : (f_198 0 13).toInt = v_196.toInt := (congrArg Int32.toInt (show f_198 0 13 = v_196 from (by rw [ef_198, sg_up_s, sgu_s])))
            have q_202 : (f_198 0 16).toInt = v_1.toInt := (congrArg Int32.toInt (show f_198 0 16 = v_1 from (by rw [ef_198, sg_up_s, sgu_n (by decide)]; exact ev_1.symm)))
            have q_203 : (f_198 0 15).toInt = v_3.toInt := (congrArg Int32.toInt (show f_198 0 15 = v_3 from (by rw [ef_198, sg_up_s, sgu_n (by decide)]; exact ev_3.symm)))
            have q_204 : (f_198 0 16).toInt = v_1.toInt := (congrArg Int32.toInt (show f_198 0 16 = v_1 from (by rw [ef_198, sg_up_s, sgu_n (by decide)]; exact ev_1.symm)))
            exact hret _ _ _ _ (v_199) f_198 L Q dX12_one_170 hP hS ⟨⟨hI, hF, rfl, rfl⟩, trivial, (by omega), (by omega), (by omega)⟩
        · skip
          have c_188 : r_92.toInt = 40 := (by have z := Int32.toInt_inj.mpr c; have k1 : (40 : Int32).toInt = 40 := (by decide); omega)
          refine lv_aload_n hx hb dX12_one_32 rfl (lv_at hl 1 rfl) ?_
          have c_205 : v_1 = 4 := Int32.toInt_inj.mp (by have k9 : (4 : Int32).toInt = 4 := (by decide); omega)
          refine sg_get (ci := 12) (v := .int 4) (C := RX12) (T := TX12) (N := 55) hx hb hts (fun w h => List.mem_cons_of_mem _ (gx_12 w h)) hown hK hP 0 (by decide) rfl rfl 16 (by decide) (hts _ (List.mem_cons_of_mem _ mw_628)) (fun _ h9 => h9) (congrArg (fun z => some (Value.int z)) (show f 0 16 = 4 from (Eq.trans ev_1.symm c_205))) dX12_one_33 ?_
          refine lv_bipush (v := 6) hx hb dX12_one_36 (by decide) ?_
          refine lv_icmp_ne (tgt := 46) hx hb dX12_one_38 (by decide) (fun c => ?_) (fun c => absurd c (by decide))
          refine lv_aload_n hx hb dX12_one_46 rfl (lv_at hl 1 rfl) ?_
          refine lv_dup hx hb dX12_one_47 rfl ?_
          refine sg_get (ci := 12) (v := .int 4) (C := RX12) (T := TX12) (N := 55) hx hb hts (fun w h => List.mem_cons_of_mem _ (gx_12 w h)) hown hK hP 0 (by decide) rfl rfl 16 (by decide) (hts _ (List.mem_cons_of_mem _ mw_628)) (fun _ h9 => h9) (congrArg (fun z => some (Value.int z)) (show f 0 16 = 4 from (Eq.trans ev_1.symm c_205))) dX12_one_48 ?_
          refine lv_iconst (v := 1) hx hb dX12_one_51 (by decide) ?_
          refine lv_iadd hx hb dX12_one_52 ?_
          refine W.eq (g2 := F0 m 53 ls [.int 5, .ref (h 0)]) (by rw [show (4 + 1 : Int32) = 5 from by decide]) ?_
          refine sg_put (ci := 12) (x := 5) (ty := .int) (C := RX12) (T := TX12) (N := 55) hx hb hts (fun w h => List.mem_cons_of_mem _ (gx_12 w h)) tyX12 tyX12_ok nmX12 hown hh hA hK hP hS 0 (by decide) rfl rfl 16 (by decide) (hts _ (List.mem_cons_of_mem _ mw_628)) (fun _ h9 => h9) rfl rfl (by decide +kernel) rfl rfl (Nat.le_of_ble_eq_true rfl) dX12_one_53 (fun f_206 H locs ef_206 hP hS => ?_)
          have hI : sgI loM hiM f_206 := by rw [ef_206]; exact sgI.put hI 0 16 (show 0 ≤ (5 : Int32).toInt ∧ (5 : Int32).toInt ≤ 6 from by decide)
          have hF : sgK WkX12_one_4 f f_206 := sgK.put hF ef_206 (by rfl)
          refine lv_aload_n hx hb dX12_one_56 rfl (lv_at hl 1 rfl) ?_
          refine lv_dup hx hb dX12_one_57 rfl ?_
          refine sg_get (ci := 12) (v := .int v_5) (C := RX12) (T := TX12) (N := 55) hx hb hts (fun w h => List.mem_cons_of_mem _ (gx_12 w h)) hown hK hP 0 (by decide) rfl rfl 13 (by decide) (hts _ (List.mem_cons_of_mem _ mw_625)) (fun _ h9 => h9) (congrArg (fun z => some (Value.int z)) (show f_206 0 13 = v_5 from (by rw [ef_206, sg_up_s, sgu_n (by decide)]; exact ev_5.symm))) dX12_one_58 ?_
          refine lv_iconst (v := 1) hx hb dX12_one_61 (by decide) ?_
          refine lv_iadd hx hb dX12_one_62 ?_
          refine lv_topi (fun v_207 ev_207 => ?_)
          have q_208 : v_207.toInt = v_5.toInt + 1 := by rw [ev_207]; have k1 : (1 : Int32).toInt = 1 := (by decide); exact (bn_addI (by omega) (by omega)).trans (by omega)
          refine sg_put (ci := 12) (x := v_207) (ty := .int) (C := RX12) (T := TX12) (N := 55) hx hb hts (fun w h => List.mem_cons_of_mem _ (gx_12 w h)) tyX12 tyX12_ok nmX12 hown hh hA hK hP hS 0 (by decide) rfl rfl 13 (by decide) (hts _ (List.mem_cons_of_mem _ mw_625)) (fun _ h9 => h9) rfl rfl (by decide +kernel) rfl rfl (Nat.le_of_ble_eq_true rfl) dX12_one_63 (fun f_209 H locs ef_209 hP hS => ?_)
          have hI : sgI loM hiM f_209 := by rw [ef_209]; exact sgI.put hI 0 13 (show 0 ≤ (v_207 : Int32).toInt ∧ (v_207 : Int32).toInt ≤ 120 from by omega)
          have hF : sgK WkX12_one_4 f f_209 := sgK.put hF ef_209 (by rfl)
          refine lv_iload_n hx hb dX12_one_66 rfl (lv_at hl 0 rfl) ?_
          refine lv_bipush (v := 40) hx hb dX12_one_67 (by decide) ?_
          refine lv_icmp_ne (tgt := 79) hx hb dX12_one_69 (by decide) (fun c => ?_) (fun c => ?_)
          · skip
            exfalso; have c_210 : r_92.toInt ≠ 40 := (by have z := bn_ne c; have k1 : (40 : Int32).toInt = 40 := (by decide); omega); omega
          · skip
            have c_211 : r_92.toInt = 40 := (by have z := Int32.toInt_inj.mpr c; have k1 : (40 : Int32).toInt = 40 := (by decide); omega)
            refine lv_aload_n hx hb dX12_one_72 rfl (lv_at hl 1 rfl) ?_
            have q_212 : (f_209 0 16).toInt = 5 := (congrArg Int32.toInt (show f_209 0 16 = 5 from (by rw [ef_209, sg_up_s, sgu_n (by decide)]; exact (by rw [ef_206, sg_up_s, sgu_s])))).trans (by decide)
            have q_213 : (f_209 0 15).toInt = v_3.toInt := (congrArg Int32.toInt (show f_209 0 15 = v_3 from (by rw [ef_209, sg_up_s, sgu_n (by decide)]; exact (by rw [ef_206, sg_up_s, sgu_n (by decide)]; exact ev_3.symm))))
            have q_214 : (f_209 0 16).toInt = 5 := (congrArg Int32.toInt (show f_209 0 16 = 5 from (by rw [ef_209, sg_up_s, sgu_n (by decide)]; exact (by rw [ef_206, sg_up_s, sgu_s])))).trans (by decide)
            have q_215 : (f_209 0 13).toInt = v_207.toInt := (congrArg Int32.toInt (show f_209 0 13 = v_207 from (by rw [ef_209, sg_up_s, sgu_s])))
            refine sg_calli (va_runV (As := []) (rest := []) ⟨hx, hb, hml, hown, hts⟩ (kX12_either_5 l D ca za h hh f_209 L Q hI (by omega) (by omega) H.size) (cwV 0 hts (gw_V (fun _ h => List.mem_cons_of_mem _ h) mw_893 mw_894 mw_895 mw_619 mw_892) rfl rfl rfl (by decide +kernel) ⟨Nat.le_of_ble_eq_true rfl, Nat.le_of_ble_eq_true rfl⟩) (sg_preV (ci := 12) (C := RX12) (T := TX12) (N := 55) hA hK hP hS hZ 0 (by decide) rfl rfl) rfl rfl hl.1 rfl (lv_room (Nat.le_of_ble_eq_true rfl)) dX12_one_73 ⟨Nat.le_refl _, Nat.le_refl _⟩) hA hS (fun r_219 f_216 L_217 Q_218 H locs hq hP hS => ?_)
            obtain ⟨⟨hI, hk_f_216, eL9, eQ9⟩, hq, p_220, p_221, p_222⟩ := hq
            rw [eL9, eQ9] at hP; clear eL9 eQ9
            have hF : sgK WkX12_one_4 f f_216 := sgK.tr hF hk_f_216 (by decide)
            obtain ⟨v_223, ev_223⟩ : ∃ z : Int32, z = f_216 0 13 := ⟨_, rfl⟩
            have q_224 : 0 ≤ v_223.toInt ∧ v_223.toInt ≤ 120 := by rw [ev_223]; exact hI 0 13
            have q_225 : (f_216 0 13).toInt = v_223.toInt := (congrArg Int32.toInt (show f_216 0 13 = v_223 from ev_223.symm))
            obtain ⟨v_226, ev_226⟩ : ∃ z : Int32, z = f_216 0 16 := ⟨_, rfl⟩
            have q_227 : 0 ≤ v_226.toInt ∧ v_226.toInt ≤ 6 := by rw [ev_226]; exact hI 0 16
            have q_228 : (f_216 0 16).toInt = v_226.toInt := (congrArg Int32.toInt (show f_216 0 16 = v_226 from ev_226.symm))
            obtain ⟨v_229, ev_229⟩ : ∃ z : Int32, z = f_216 0 15 := ⟨_, rfl⟩
            have q_230 : (-1) ≤ v_229.toInt ∧ v_229.toInt ≤ 120 := by rw [ev_229]; exact hI 0 15
            have q_231 : (f_216 0 15).toInt = v_229.toInt := (congrArg Int32.toInt (show f_216 0 15 = v_229 from ev_229.symm))
            have q_232 : (f_216 0 16).toInt = v_226.toInt := (congrArg Int32.toInt (show f_216 0 16 = v_226 from ev_226.symm))
            refine lv_goto (tgt := 83) hx hb dX12_one_76 (by decide) ?_
            refine lv_istore_n (lv' := [(2, .int r_219), (1, .int r_92), (0, .ref (h 0))]) hx hb dX12_one_83 rfl hl (by decide) rfl (fun ls hl => ?_)
            refine lv_iload_n hx hb dX12_one_84 rfl (lv_at hl 1 rfl) ?_
            refine lv_bipush (v := 40) hx hb dX12_one_85 (by decide) ?_
            refine lv_icmp_ne (tgt := 104) hx hb dX12_one_87 (by decide) (fun c => ?_) (fun c => ?_)
            · skip
              exfalso; have c_233 : r_92.toInt ≠ 40 := (by have z := bn_ne c; have k1 : (40 : Int32).toInt = 40 := (by decide); omega); omega
            · skip
              have c_234 : r_92.toInt = 40 := (by have z := Int32.toInt_inj.mpr c; have k1 : (40 : Int32).toInt = 40 := (by decide); omega)
              refine lv_aload_n hx hb dX12_one_90 rfl (lv_at hl 2 rfl) ?_
              refine lv_bipush (v := 41) hx hb dX12_one_91 (by decide) ?_
              have q_235 : (f_216 0 15).toInt = v_229.toInt := (congrArg Int32.toInt (show f_216 0 15 = v_229 from ev_229.symm))
              have q_236 : (f_216 0 13).toInt = v_223.toInt := (congrArg Int32.toInt (show f_216 0 13 = v_223 from ev_223.symm))
              have q_237 : (f_216 0 14).toInt = v_86.toInt := (congrArg Int32.toInt (show f_216 0 14 = v_86 from ((hk_f_216 0 14 (by decide)).trans (by rw [ef_209, sg_up_s, sgu_n (by decide)]; exact (by rw [ef_206, sg_up_s, sgu_n (by decide)]; exact ev_86.symm)))))
              have q_238 : (f_216 0 13).toInt = v_223.toInt := (congrArg Int32.toInt (show f_216 0 13 = v_223 from ev_223.symm))
              have q_239 : (f_216 0 13).toInt = v_223.toInt := (congrArg Int32.toInt (show f_216 0 13 = v_223 from ev_223.symm))
              refine sg_calli (va_runV (As := [.int 41]) (rest := []) ⟨hx, hb, hml, hown, hts⟩ (kX12_takes_41 l D ca za h hh f_216 L Q hI H.size) (cwV 1 hts (gw_V (fun _ h => List.mem_cons_of_mem _ h) mw_877 mw_878 mw_879 mw_619 mw_876) rfl rfl rfl (by decide +kernel) ⟨Nat.le_of_ble_eq_true rfl, Nat.le_of_ble_eq_true rfl⟩) (sg_preV (ci := 12) (C := RX12) (T := TX12) (N := 55) hA hK hP hS hZ 0 (by decide) rfl rfl) rfl rfl hl.1 rfl (lv_room (Nat.le_of_ble_eq_true rfl)) dX12_one_93 ⟨Nat.le_refl _, Nat.le_refl _⟩) hA hS (fun r_243 f_240 L_241 Q_242 H locs hq hP hS => ?_)
              obtain ⟨⟨hI, hk_f_240, eL9, eQ9⟩, hq⟩ := hq
              rw [eL9, eQ9] at hP; clear eL9 eQ9
              have hF : sgK WkX12_one_4 f f_240 := sgK.tr hF hk_f_240 (by decide)
              obtain ⟨v_244, ev_244⟩ : ∃ z : Int32, z = f_240 0 13 := ⟨_, rfl⟩
              have q_245 : 0 ≤ v_244.toInt ∧ v_244.toInt ≤ 120 := by rw [ev_244]; exact hI 0 13
              have q_246 : (f_240 0 13).toInt = v_244.toInt := (congrArg Int32.toInt (show f_240 0 13 = v_244 from ev_244.symm))
              have q_247 : (f_240 0 13).toInt = v_244.toInt := (congrArg Int32.toInt (show f_240 0 13 = v_244 from ev_244.symm))
              have k_248 : (41 : Int32).toInt = 41 := by decide
              rcases hq with ⟨rfl, hq⟩ | ⟨rfl, hq⟩
              · skip
                have q_249 := hq
                refine lv_if_ne (tgt := 104) hx hb dX12_one_96 (by decide) (fun c => ?_) (fun c => absurd c (by decide))
                refine lv_aload_n hx hb dX12_one_104 rfl (lv_at hl 2 rfl) ?_
                refine lv_dup hx hb dX12_one_105 rfl ?_
                refine sg_get (ci := 12) (v := .int v_226) (C := RX12) (T := TX12) (N := 55) hx hb hts (fun w h => List.mem_cons_of_mem _ (gx_12 w h)) hown hK hP 0 (by decide) rfl rfl 16 (by decide) (hts _ (List.mem_cons_of_mem _ mw_628)) (fun _ h9 => h9) (congrArg (fun z => some (Value.int z)) (show f_240 0 16 = v_226 from ((hk_f_240 0 16 (by decide)).trans ev_226.symm))) dX12_one_106 ?_
                refine lv_iconst (v := 1) hx hb dX12_one_109 (by decide) ?_
                refine lv_isub hx hb dX12_one_110 ?_
                refine lv_topi (fun v_250 ev_250 => ?_)
                have q_251 : v_250.toInt = v_226.toInt - 1 := by rw [ev_250]; have k1 : (1 : Int32).toInt = 1 := (by decide); exact (bn_subI (by omega) (by omega)).trans (by omega)
                refine sg_put (ci := 12) (x := v_250) (ty := .int) (C := RX12) (T := TX12) (N := 55) hx hb hts (fun w h => List.mem_cons_of_mem _ (gx_12 w h)) tyX12 tyX12_ok nmX12 hown hh hA hK hP hS 0 (by decide) rfl rfl 16 (by decide) (hts _ (List.mem_cons_of_mem _ mw_628)) (fun _ h9 => h9) rfl rfl (by decide +kernel) rfl rfl (Nat.le_of_ble_eq_true rfl) dX12_one_111 (fun f_252 H locs ef_252 hP hS => ?_)
                have hI : sgI loM hiM f_252 := by rw [ef_252]; exact sgI.put hI 0 16 (show 0 ≤ (v_250 : Int32).toInt ∧ (v_250 : Int32).toInt ≤ 6 from by omega)
                have hF : sgK WkX12_one_4 f f_252 := sgK.put hF ef_252 (by rfl)
                refine lv_iload_n hx hb dX12_one_114 rfl (lv_at hl 1 rfl) ?_
                refine lv_bipush (v := 40) hx hb dX12_one_115 (by decide) ?_
                refine lv_icmp_ne (tgt := 124) hx hb dX12_one_117 (by decide) (fun c => ?_) (fun c => ?_)
                · skip
                  exfalso; have c_253 : r_92.toInt ≠ 40 := (by have z := bn_ne c; have k1 : (40 : Int32).toInt = 40 := (by decide); omega); omega
                · skip
                  have c_254 : r_92.toInt = 40 := (by have z := Int32.toInt_inj.mpr c; have k1 : (40 : Int32).toInt = 40 := (by decide); omega)
                  refine lv_iload_n hx hb dX12_one_120 rfl (lv_at hl 0 rfl) ?_
                  refine lv_goto (tgt := 144) hx hb dX12_one_121 (by decide) ?_
                  have q_255 : (f_252 0 13).toInt = v_244.toInt := (congrArg Int32.toInt (show f_252 0 13 = v_244 from (by rw [ef_252, sg_up_s, sgu_n (by decide)]; exact ev_244.symm)))
                  have q_256 : (f_252 0 16).toInt = v_250.toInt := (congrArg Int32.toInt (show f_252 0 16 = v_250 from (by rw [ef_252, sg_up_s, sgu_s])))
                  have q_257 : (f_252 0 15).toInt = v_229.toInt := (congrArg Int32.toInt (show f_252 0 15 = v_229 from (by rw [ef_252, sg_up_s, sgu_n (by decide)]; exact ((hk_f_240 0 15 (by decide)).trans ev_229.symm))))
                  have q_258 : (f_252 0 16).toInt = v_250.toInt := (congrArg Int32.toInt (show f_252 0 16 = v_250 from (by rw [ef_252, sg_up_s, sgu_s])))
                  exact hret _ _ _ _ (r_219) f_252 L Q dX12_one_144 hP hS ⟨⟨hI, hF, rfl, rfl⟩, trivial, (by omega), (by omega), (by omega)⟩
              · skip
                have q_259 := hq
                refine lv_if_ne (tgt := 104) hx hb dX12_one_96 (by decide) (fun c => absurd c (by decide)) (fun c => ?_)
                refine lv_aload_n hx hb dX12_one_99 rfl (lv_at hl 2 rfl) ?_
                refine sg_calli (va_runV (As := []) (rest := []) ⟨hx, hb, hml, hown, hts⟩ (kX12_wrong l D ca za h hh f_240 L Q hI H.size) (cwV 0 hts (gw_V (fun _ h => List.mem_cons_of_mem _ h) mw_889 mw_890 mw_891 mw_619 mw_888) rfl rfl rfl (by decide +kernel) ⟨Nat.le_of_ble_eq_true rfl, Nat.le_of_ble_eq_true rfl⟩) (sg_preV (ci := 12) (C := RX12) (T := TX12) (N := 55) hA hK hP hS hZ 0 (by decide) rfl rfl) rfl rfl hl.1 rfl (lv_room (Nat.le_of_ble_eq_true rfl)) dX12_one_100 ⟨Nat.le_refl _, Nat.le_refl _⟩) hA hS (fun r_263 f_260 L_261 Q_262 H locs hq hP hS => ?_)
                obtain ⟨⟨hI, hk_f_260, eL9, eQ9⟩, hq, p_264⟩ := hq
                rw [eL9, eQ9] at hP; clear eL9 eQ9
                have hF : sgK WkX12_one_4 f f_260 := sgK.tr hF hk_f_260 (by decide)
                obtain ⟨v_265, ev_265⟩ : ∃ z : Int32, z = f_260 0 15 := ⟨_, rfl⟩
                have q_266 : (-1) ≤ v_265.toInt ∧ v_265.toInt ≤ 120 := by rw [ev_265]; exact hI 0 15
                have q_267 : (f_260 0 15).toInt = v_265.toInt := (congrArg Int32.toInt (show f_260 0 15 = v_265 from ev_265.symm))
                obtain rfl : r_263 = 0 := Int32.toInt_inj.mp (by have k9 : (0 : Int32).toInt = 0 := (by decide); omega)
                have q_268 : (f_260 0 13).toInt = v_244.toInt := (congrArg Int32.toInt (show f_260 0 13 = v_244 from ((hk_f_260 0 13 (by decide)).trans ev_244.symm)))
                have q_269 : (f_260 0 16).toInt = v_226.toInt := (congrArg Int32.toInt (show f_260 0 16 = v_226 from ((hk_f_260 0 16 (by decide)).trans ((hk_f_240 0 16 (by decide)).trans ev_226.symm))))
                have q_270 : (f_260 0 15).toInt = v_265.toInt := (congrArg Int32.toInt (show f_260 0 15 = v_265 from ev_265.symm))
                have q_271 : (f_260 0 16).toInt = v_226.toInt := (congrArg Int32.toInt (show f_260 0 16 = v_226 from ((hk_f_260 0 16 (by decide)).trans ((hk_f_240 0 16 (by decide)).trans ev_226.symm))))
                have k99 : (0 : Int32).toInt = 0 := (by decide)
                exact hret _ _ _ _ (0) f_260 L Q dX12_one_103 hP hS ⟨⟨hI, hF, rfl, rfl⟩, trivial, (by omega), (by omega), (by omega)⟩
  · skip
    have c_84 : 0 ≤ v_3.toInt := (by have z := bn_nlt c; have k1 : (0 : Int32).toInt = 0 := (by decide); omega)
    refine lv_iconst (v := 0) hx hb dX12_one_7 (by decide) ?_
    have q_272 : (f 0 13).toInt = v_5.toInt := (congrArg Int32.toInt (show f 0 13 = v_5 from ev_5.symm))
    have q_273 : (f 0 16).toInt = v_1.toInt := (congrArg Int32.toInt (show f 0 16 = v_1 from ev_1.symm))
    have q_274 : (f 0 15).toInt = v_3.toInt := (congrArg Int32.toInt (show f 0 15 = v_3 from ev_3.symm))
    have q_275 : (f 0 16).toInt = v_1.toInt := (congrArg Int32.toInt (show f 0 16 = v_1 from ev_1.symm))
    have k99 : (0 : Int32).toInt = 0 := (by decide)
    exact hret _ _ _ _ (0) f L Q dX12_one_8 hP hS ⟨⟨hI, hF, rfl, rfl⟩, trivial, (by omega), (by omega), (by omega)⟩

abbrev WkX12_product_4 : List (Nat × Nat × Option Nat) := [(0, 0, some 13), (0, 0, some 15), (0, 0, some 16)]
set_option maxHeartbeats 4000000 in
set_option maxRecDepth 100000 in
theorem kX12_product_4 (l : Launch) (D : va_G) (ca : Nat → ClassId) (za h : Nat → Nat) (hh : sgH 26 h) (f : sg_F) (L : sg_L) (Q : sg_Q) (hI : sgI loM hiM f) (p0 : 4 ≤ (f 0 16).toInt) (p1 : 0 ≤ (f 0 15).toInt ∨ (f 0 16).toInt = 4) (sz : Nat) : Met l yX12_product gwX12_product { frames := 14, cells := 0, slots := 0, locals := 318 } (sgP D vwCl (tyX ca) 26 h (eM ca h) zcM za f L Q sz [.ref (h 0)]) (sgQi D vwCl 26 h (eM ca h) sz (fun r f1 L1 Q1 => ((sgI loM hiM f1 ∧ sgK WkX12_product_4 f f1 ∧ L1 = L ∧ Q1 = Q) ∧ True ∧ ((f 0 13).toInt ≤ (f1 0 13).toInt) ∧ (4 ≤ (f1 0 16).toInt) ∧ (0 ≤ (f1 0 15).toInt ∨ (f1 0 16).toInt = 4)))) 0 0 (sgA 26 h sz) := by
  refine sg_ofWi (cc := cX12_product) (maxL := 4) RX12 (by decide) rfl rfl (Nat.le_of_ble_eq_true rfl) ?_
  intro p e s m below meth cd Qz ls hx hb hml hown hts hK hZ hP hS hl hret
  have hA := sgY.self (n := 26) (h := h) (sz := s.heap.size)
  have hl : lv_has ls 4 [(0, .ref (h 0))] := hl
  obtain ⟨H, hH⟩ : ∃ z : Heap, z = s.heap := ⟨_, rfl⟩
  obtain ⟨locs, hlo⟩ : ∃ z : List Loc, z = [] := ⟨_, rfl⟩
  have hP : va_P D vwCl (sgw 26 h (eM ca h) f L Q) H := by rw [hH]; exact hP
  have hS : va_S (sgA 26 h s.heap.size) s.heap H locs := by rw [hH, hlo]; exact hS
  suffices hgo : W p l e ({ frames := 14, cells := 0, slots := 0, locals := 318 }) s m ([.ref (h 0)] : List Value).toArray below meth cd H locs 0 0 Qz (F0 m 0 ls []) by rw [hH, hlo] at hgo; exact hgo
  clear hH hlo
  obtain ⟨v_1, ev_1⟩ : ∃ z : Int32, z = f 0 16 := ⟨_, rfl⟩
  have q_2 : 0 ≤ v_1.toInt ∧ v_1.toInt ≤ 6 := by rw [ev_1]; exact hI 0 16
  obtain ⟨v_3, ev_3⟩ : ∃ z : Int32, z = f 0 15 := ⟨_, rfl⟩
  have q_4 : (-1) ≤ v_3.toInt ∧ v_3.toInt ≤ 120 := by rw [ev_3]; exact hI 0 15
  obtain ⟨v_5, ev_5⟩ : ∃ z : Int32, z = f 0 13 := ⟨_, rfl⟩
  have q_6 : 0 ≤ v_5.toInt ∧ v_5.toInt ≤ 120 := by rw [ev_5]; exact hI 0 13
  obtain ⟨v_7, ev_7⟩ : ∃ z : Int32, z = f 0 14 := ⟨_, rfl⟩
  have q_8 : 0 ≤ v_7.toInt ∧ v_7.toInt ≤ 120 := by rw [ev_7]; exact hI 0 14
  have o_9 : (f 0 16).toInt = v_1.toInt := (congrArg Int32.toInt (show f 0 16 = v_1 from ev_1.symm))
  have o_10 : (f 0 15).toInt = v_3.toInt := (congrArg Int32.toInt (show f 0 15 = v_3 from ev_3.symm))
  have o_11 : (f 0 13).toInt = v_5.toInt := (congrArg Int32.toInt (show f 0 13 = v_5 from ev_5.symm))
  have o_12 : (f 0 14).toInt = v_7.toInt := (congrArg Int32.toInt (show f 0 14 = v_7 from ev_7.symm))
  have hF : sgK WkX12_product_4 f f := sgK.rf
  have loop_10 : ∀ (n_10 : Nat) (y1_10 : Int32) (y2_10 : Int32) (fp_10 : sg_F) (H : Heap) (locs : List Loc) (ls : Array Slot), 120 - (fp_10 0 13).toInt < (n_10 : Int) → 0 ≤ y2_10.toInt ∧ y2_10.toInt ≤ 255 → (f 0 13).toInt ≤ (fp_10 0 13).toInt → 4 ≤ (fp_10 0 16).toInt → 0 ≤ (fp_10 0 15).toInt ∨ (fp_10 0 16).toInt = 4 → y2_10.toInt = 0 ∨ (fp_10 0 13).toInt < (fp_10 0 14).toInt → sgI loM hiM fp_10 → sgK WkX12_product_4 f fp_10 → va_P D vwCl (sgw 26 h (eM ca h) fp_10 L Q) H → va_S (sgA 26 h s.heap.size) s.heap H locs → lv_has ls 4 [(0, .ref (h 0)), (1, .int y1_10), (2, .int y2_10)] → W p l e ({ frames := 14, cells := 0, slots := 0, locals := 318 }) s m ([.ref (h 0)] : List Value).toArray below meth cd H locs 0 0 Qz (F0 m 10 ls []) := by
    intro n_10
    induction n_10 with
    | zero => intro y1_10 y2_10 fp_10 H locs ls hm_10 hy0_10 hg0_10 hg1_10 hg2_10 hg3_10 hI hF hP hS hl; have zb := (show 0 ≤ (fp_10 0 13).toInt ∧ (fp_10 0 13).toInt ≤ 120 from hI 0 13); exact absurd hm_10 (by omega)
    | succ n_10 ih_10 =>
      intro y1_10 y2_10 fp_10 H locs ls hm_10 hy0_10 hg0_10 hg1_10 hg2_10 hg3_10 hI hF hP hS hl
      obtain ⟨v_13, ev_13⟩ : ∃ z : Int32, z = fp_10 0 13 := ⟨_, rfl⟩
      have q_14 : 0 ≤ v_13.toInt ∧ v_13.toInt ≤ 120 := by rw [ev_13]; exact hI 0 13
      have q_15 : (fp_10 0 13).toInt = v_13.toInt := by rw [ev_13]
      obtain ⟨v_16, ev_16⟩ : ∃ z : Int32, z = fp_10 0 16 := ⟨_, rfl⟩
      have q_17 : 0 ≤ v_16.toInt ∧ v_16.toInt ≤ 6 := by rw [ev_16]; exact hI 0 16
      have q_18 : (fp_10 0 16).toInt = v_16.toInt := by rw [ev_16]
      obtain ⟨v_19, ev_19⟩ : ∃ z : Int32, z = fp_10 0 15 := ⟨_, rfl⟩
      have q_20 : (-1) ≤ v_19.toInt ∧ v_19.toInt ≤ 120 := by rw [ev_19]; exact hI 0 15
      have q_21 : (fp_10 0 15).toInt = v_19.toInt := by rw [ev_19]
      obtain ⟨v_22, ev_22⟩ : ∃ z : Int32, z = fp_10 0 14 := ⟨_, rfl⟩
      have q_23 : 0 ≤ v_22.toInt ∧ v_22.toInt ≤ 120 := by rw [ev_22]; exact hI 0 14
      have q_24 : (fp_10 0 14).toInt = v_22.toInt := by rw [ev_22]
      refine lv_aload_n hx hb dX12_product_10 rfl (lv_at hl 0 rfl) ?_
      refine sg_get (ci := 12) (v := .int v_19) (C := RX12) (T := TX12) (N := 55) hx hb hts (fun w h => List.mem_cons_of_mem _ (gx_12 w h)) hown hK hP 0 (by decide) rfl rfl 15 (by decide) (hts _ (List.mem_cons_of_mem _ mw_627)) (fun _ h9 => h9) (congrArg (fun z => some (Value.int z)) (show fp_10 0 15 = v_19 from ev_19.symm)) dX12_product_11 ?_
      refine lv_if_ge (tgt := 94) hx hb dX12_product_14 (by decide) (fun c => ?_) (fun c => ?_)
      · skip
        have c_25 : 0 ≤ v_19.toInt := (by have z := bn_le c; have k1 : (0 : Int32).toInt = 0 := (by decide); omega)
        refine lv_iload_n hx hb dX12_product_94 rfl (lv_at hl 1 rfl) ?_
        have q_27 : (fp_10 0 13).toInt = v_13.toInt := (congrArg Int32.toInt (show fp_10 0 13 = v_13 from ev_13.symm))
        have q_28 : (fp_10 0 16).toInt = v_16.toInt := (congrArg Int32.toInt (show fp_10 0 16 = v_16 from ev_16.symm))
        have q_29 : (fp_10 0 15).toInt = v_19.toInt := (congrArg Int32.toInt (show fp_10 0 15 = v_19 from ev_19.symm))
        have q_30 : (fp_10 0 16).toInt = v_16.toInt := (congrArg Int32.toInt (show fp_10 0 16 = v_16 from ev_16.symm))
        exact hret _ _ _ _ (y1_10) fp_10 L Q dX12_product_95 hP hS ⟨⟨hI, hF, rfl, rfl⟩, trivial, (by omega), (by omega), (by omega)⟩
      · skip
        have c_26 : v_19.toInt < 0 := (by have z := bn_nle c; have k1 : (0 : Int32).toInt = 0 := (by decide); omega)
        refine lv_iload_n hx hb dX12_product_17 rfl (lv_at hl 2 rfl) ?_
        refine lv_bipush (v := 42) hx hb dX12_product_18 (by decide) ?_
        refine lv_icmp_eq (tgt := 35) hx hb dX12_product_20 (by decide) (fun c => ?_) (fun c => ?_)
        · skip
          have c_31 : y2_10.toInt = 42 := (by have z := Int32.toInt_inj.mpr c; have k1 : (42 : Int32).toInt = 42 := (by decide); omega)
          refine lv_aload_n hx hb dX12_product_35 rfl (lv_at hl 0 rfl) ?_
          refine lv_dup hx hb dX12_product_36 rfl ?_
          refine sg_get (ci := 12) (v := .int v_13) (C := RX12) (T := TX12) (N := 55) hx hb hts (fun w h => List.mem_cons_of_mem _ (gx_12 w h)) hown hK hP 0 (by decide) rfl rfl 13 (by decide) (hts _ (List.mem_cons_of_mem _ mw_625)) (fun _ h9 => h9) (congrArg (fun z => some (Value.int z)) (show fp_10 0 13 = v_13 from ev_13.symm)) dX12_product_37 ?_
          refine lv_iconst (v := 1) hx hb dX12_product_40 (by decide) ?_
          refine lv_iadd hx hb dX12_product_41 ?_
          refine lv_topi (fun v_33 ev_33 => ?_)
          have q_34 : v_33.toInt = v_13.toInt + 1 := by rw [ev_33]; have k1 : (1 : Int32).toInt = 1 := (by decide); exact (bn_addI (by omega) (by omega)).trans (by omega)
          refine sg_put (ci := 12) (x := v_33) (ty := .int) (C := RX12) (T := TX12) (N := 55) hx hb hts (fun w h => List.mem_cons_of_mem _ (gx_12 w h)) tyX12 tyX12_ok nmX12 hown hh hA hK hP hS 0 (by decide) rfl rfl 13 (by decide) (hts _ (List.mem_cons_of_mem _ mw_625)) (fun _ h9 => h9) rfl rfl (by decide +kernel) rfl rfl (Nat.le_of_ble_eq_true rfl) dX12_product_42 (fun f_35 H locs ef_35 hP hS => ?_)
          have hI : sgI loM hiM f_35 := by rw [ef_35]; exact sgI.put hI 0 13 (show 0 ≤ (v_33 : Int32).toInt ∧ (v_33 : Int32).toInt ≤ 120 from by omega)
          have hF : sgK WkX12_product_4 f f_35 := sgK.put hF ef_35 (by rfl)
          refine lv_aload_n hx hb dX12_product_45 rfl (lv_at hl 0 rfl) ?_
          have q_36 : (f_35 0 16).toInt = v_16.toInt := (congrArg Int32.toInt (show f_35 0 16 = v_16 from (by rw [ef_35, sg_up_s, sgu_n (by decide)]; exact ev_16.symm)))
          have q_37 : (f_35 0 15).toInt = v_19.toInt := (congrArg Int32.toInt (show f_35 0 15 = v_19 from (by rw [ef_35, sg_up_s, sgu_n (by decide)]; exact ev_19.symm)))
          have q_38 : (f_35 0 16).toInt = v_16.toInt := (congrArg Int32.toInt (show f_35 0 16 = v_16 from (by rw [ef_35, sg_up_s, sgu_n (by decide)]; exact ev_16.symm)))
          have q_39 : (f_35 0 13).toInt = v_33.toInt := (congrArg Int32.toInt (show f_35 0 13 = v_33 from (by rw [ef_35, sg_up_s, sgu_s])))
          refine sg_calli (va_runV (As := []) (rest := []) ⟨hx, hb, hml, hown, hts⟩ (kX12_one_4 l D ca za h hh f_35 L Q hI (by omega) (by omega) H.size) (cwV 0 hts (gw_V (fun _ h => List.mem_cons_of_mem _ h) mw_789 mw_790 mw_791 mw_619 mw_788) rfl rfl rfl (by decide +kernel) ⟨Nat.le_of_ble_eq_true rfl, Nat.le_of_ble_eq_true rfl⟩) (sg_preV (ci := 12) (C := RX12) (T := TX12) (N := 55) hA hK hP hS hZ 0 (by decide) rfl rfl) rfl rfl hl.1 rfl (lv_room (Nat.le_of_ble_eq_true rfl)) dX12_product_46 ⟨Nat.le_refl _, Nat.le_refl _⟩) hA hS (fun r_43 f_40 L_41 Q_42 H locs hq hP hS => ?_)
          obtain ⟨⟨hI, hk_f_40, eL9, eQ9⟩, hq, p_44, p_45, p_46⟩ := hq
          rw [eL9, eQ9] at hP; clear eL9 eQ9
          have hF : sgK WkX12_product_4 f f_40 := sgK.tr hF hk_f_40 (by decide)
          obtain ⟨v_47, ev_47⟩ : ∃ z : Int32, z = f_40 0 13 := ⟨_, rfl⟩
          have q_48 : 0 ≤ v_47.toInt ∧ v_47.toInt ≤ 120 := by rw [ev_47]; exact hI 0 13
          have q_49 : (f_40 0 13).toInt = v_47.toInt := (congrArg Int32.toInt (show f_40 0 13 = v_47 from ev_47.symm))
          obtain ⟨v_50, ev_50⟩ : ∃ z : Int32, z = f_40 0 16 := ⟨_, rfl⟩
          have q_51 : 0 ≤ v_50.toInt ∧ v_50.toInt ≤ 6 := by rw [ev_50]; exact hI 0 16
          have q_52 : (f_40 0 16).toInt = v_50.toInt := (congrArg Int32.toInt (show f_40 0 16 = v_50 from ev_50.symm))
          obtain ⟨v_53, ev_53⟩ : ∃ z : Int32, z = f_40 0 15 := ⟨_, rfl⟩
          have q_54 : (-1) ≤ v_53.toInt ∧ v_53.toInt ≤ 120 := by rw [ev_53]; exact hI 0 15
          have q_55 : (f_40 0 15).toInt = v_53.toInt := (congrArg Int32.toInt (show f_40 0 15 = v_53 from ev_53.symm))
          have q_56 : (f_40 0 16).toInt = v_50.toInt := (congrArg Int32.toInt (show f_40 0 16 = v_50 from ev_50.symm))
          refine lv_istore_n (lv' := [(3, .int r_43), (0, .ref (h 0)), (1, .int y1_10), (2, .int y2_10)]) hx hb dX12_product_49 rfl hl (by decide) rfl (fun ls hl => ?_)
          refine lv_iload_n hx hb dX12_product_50 rfl (lv_at hl 3 rfl) ?_
          refine lv_bipush (v := 42) hx hb dX12_product_51 (by decide) ?_
          refine lv_icmp_ne (tgt := 62) hx hb dX12_product_53 (by decide) (fun c => ?_) (fun c => ?_)
          · skip
            exfalso; have c_57 : y2_10.toInt ≠ 42 := (by have z := bn_ne c; have k1 : (42 : Int32).toInt = 42 := (by decide); omega); omega
          · skip
            have c_58 : y2_10.toInt = 42 := (by have z := Int32.toInt_inj.mpr c; have k1 : (42 : Int32).toInt = 42 := (by decide); omega)
            refine lv_iload_n hx hb dX12_product_56 rfl (lv_at hl 2 rfl) ?_
            refine lv_iload_n hx hb dX12_product_57 rfl (lv_at hl 0 rfl) ?_
            refine lv_imul hx hb dX12_product_58 ?_
            refine lv_topi (fun v_59 ev_59 => ?_)
            refine lv_goto (tgt := 85) hx hb dX12_product_59 (by decide) ?_
            refine lv_istore_n (lv' := [(1, .int v_59), (3, .int r_43), (0, .ref (h 0)), (2, .int y2_10)]) hx hb dX12_product_85 rfl hl (by decide) rfl (fun ls hl => ?_)
            refine lv_aload_n hx hb dX12_product_86 rfl (lv_at hl 2 rfl) ?_
            have q_60 : (f_40 0 13).toInt = v_47.toInt := (congrArg Int32.toInt (show f_40 0 13 = v_47 from ev_47.symm))
            have q_61 : (f_40 0 14).toInt = v_22.toInt := (congrArg Int32.toInt (show f_40 0 14 = v_22 from ((hk_f_40 0 14 (by decide)).trans (by rw [ef_35, sg_up_s, sgu_n (by decide)]; exact ev_22.symm))))
            refine sg_calli (va_runV (As := []) (rest := []) ⟨hx, hb, hml, hown, hts⟩ (kX12_byteAt l D ca za h hh f_40 L Q hI H.size) (cwV 0 hts (gw_V (fun _ h => List.mem_cons_of_mem _ h) mw_840 mw_841 mw_842 mw_619 mw_839) rfl rfl rfl (by decide +kernel) ⟨Nat.le_of_ble_eq_true rfl, Nat.le_of_ble_eq_true rfl⟩) (sg_preV (ci := 12) (C := RX12) (T := TX12) (N := 55) hA hK hP hS hZ 0 (by decide) rfl rfl) rfl rfl hl.1 rfl (lv_room (Nat.le_of_ble_eq_true rfl)) dX12_product_87 ⟨Nat.le_refl _, Nat.le_refl _⟩) hA hS (fun r_65 f_62 L_63 Q_64 H locs hq hP hS => ?_)
            obtain ⟨⟨ef9, eL9, eQ9⟩, hq, p_66⟩ := hq
            rw [ef9, eL9, eQ9] at hP; clear ef9 eL9 eQ9
            refine lv_istore_n (lv' := [(2, .int r_65), (1, .int v_59), (3, .int r_43), (0, .ref (h 0))]) hx hb dX12_product_90 rfl hl (by decide) rfl (fun ls hl => ?_)
            refine lv_goto (tgt := 10) hx hb dX12_product_91 (by decide) ?_
            exact ih_10 v_59 r_65 f_40 _ _ _ (by have zz0_13 : (f_40 0 13).toInt = v_47.toInt := (congrArg Int32.toInt (show f_40 0 13 = v_47 from ev_47.symm)); omega) (by omega) (by have zz0_13 : (f_40 0 13).toInt = v_47.toInt := (congrArg Int32.toInt (show f_40 0 13 = v_47 from ev_47.symm)); omega) (by have zz0_16 : (f_40 0 16).toInt = v_50.toInt := (congrArg Int32.toInt (show f_40 0 16 = v_50 from ev_50.symm)); omega) (by have zz0_15 : (f_40 0 15).toInt = v_53.toInt := (congrArg Int32.toInt (show f_40 0 15 = v_53 from ev_53.symm)); have zz0_16 : (f_40 0 16).toInt = v_50.toInt := (congrArg Int32.toInt (show f_40 0 16 = v_50 from ev_50.symm)); omega) (by have zz0_13 : (f_40 0 13).toInt = v_47.toInt := (congrArg Int32.toInt (show f_40 0 13 = v_47 from ev_47.symm)); have zz0_14 : (f_40 0 14).toInt = v_22.toInt := (congrArg Int32.toInt (show f_40 0 14 = v_22 from ((hk_f_40 0 14 (by decide)).trans (by rw [ef_35, sg_up_s, sgu_n (by decide)]; exact ev_22.symm)))); omega) hI hF hP hS (lv_sub hl [3, 1, 0] rfl)
        · skip
          have c_32 : y2_10.toInt ≠ 42 := (by have z := bn_ne c; have k1 : (42 : Int32).toInt = 42 := (by decide); omega)
          refine lv_iload_n hx hb dX12_product_23 rfl (lv_at hl 2 rfl) ?_
          refine lv_bipush (v := 47) hx hb dX12_product_24 (by decide) ?_
          refine lv_icmp_eq (tgt := 35) hx hb dX12_product_26 (by decide) (fun c => ?_) (fun c => ?_)
          · skip
            have c_67 : y2_10.toInt = 47 := (by have z := Int32.toInt_inj.mpr c; have k1 : (47 : Int32).toInt = 47 := (by decide); omega)
            refine lv_aload_n hx hb dX12_product_35 rfl (lv_at hl 0 rfl) ?_
            refine lv_dup hx hb dX12_product_36 rfl ?_
            refine sg_get (ci := 12) (v := .int v_13) (C := RX12) (T := TX12) (N := 55) hx hb hts (fun w h => List.mem_cons_of_mem _ (gx_12 w h)) hown hK hP 0 (by decide) rfl rfl 13 (by decide) (hts _ (List.mem_cons_of_mem _ mw_625)) (fun _ h9 => h9) (congrArg (fun z => some (Value.int z)) (show fp_10 0 13 = v_13 from ev_13.symm)) dX12_product_37 ?_
            refine lv_iconst (v := 1) hx hb dX12_product_40 (by decide) ?_
            refine lv_iadd hx hb dX12_product_41 ?_
            refine lv_topi (fun v_69 ev_69 => ?_)
            have q_70 : v_69.toInt = v_13.toInt + 1 := by rw [ev_69]; have k1 : (1 : Int32).toInt = 1 := (by decide); exact (bn_addI (by omega) (by omega)).trans (by omega)
            refine sg_put (ci := 12) (x := v_69) (ty := .int) (C := RX12) (T := TX12) (N := 55) hx hb hts (fun w h => List.mem_cons_of_mem _ (gx_12 w h)) tyX12 tyX12_ok nmX12 hown hh hA hK hP hS 0 (by decide) rfl rfl 13 (by decide) (hts _ (List.mem_cons_of_mem _ mw_625)) (fun _ h9 => h9) rfl rfl (by decide +kernel) rfl rfl (Nat.le_of_ble_eq_true rfl) dX12_product_42 (fun f_71 H locs ef_71 hP hS => ?_)
            have hI : sgI loM hiM f_71 := by rw [ef_71]; exact sgI.put hI 0 13 (show 0 ≤ (v_69 : Int32).toInt ∧ (v_69 : Int32).toInt ≤ 120 from by omega)
            have hF : sgK WkX12_product_4 f f_71 := sgK.put hF ef_71 (by rfl)
            refine lv_aload_n hx hb dX12_product_45 rfl (lv_at hl 0 rfl) ?_
            have q_72 : (f_71 0 16).toInt = v_16.toInt := (congrArg Int32.toInt (show f_71 0 16 = v_16 from (by rw [ef_71, sg_up_s, sgu_n (by decide)]; exact ev_16.symm)))
            have q_73 : (f_71 0 15).toInt = v_19.toInt := (congrArg Int32.toInt (show f_71 0 15 = v_19 from (by rw [ef_71, sg_up_s, sgu_n (by decide)]; exact ev_19.symm)))
            have q_74 : (f_71 0 16).toInt = v_16.toInt := (congrArg Int32.toInt (show f_71 0 16 = v_16 from (by rw [ef_71, sg_up_s, sgu_n (by decide)]; exact ev_16.symm)))
            have q_75 : (f_71 0 13).toInt = v_69.toInt := (congrArg Int32.toInt (show f_71 0 13 = v_69 from (by rw [ef_71, sg_up_s, sgu_s])))
            refine sg_calli (va_runV (As := []) (rest := []) ⟨hx, hb, hml, hown, hts⟩ (kX12_one_4 l D ca za h hh f_71 L Q hI (by omega) (by omega) H.size) (cwV 0 hts (gw_V (fun _ h => List.mem_cons_of_mem _ h) mw_789 mw_790 mw_791 mw_619 mw_788) rfl rfl rfl (by decide +kernel) ⟨Nat.le_of_ble_eq_true rfl, Nat.le_of_ble_eq_true rfl⟩) (sg_preV (ci := 12) (C := RX12) (T := TX12) (N := 55) hA hK hP hS hZ 0 (by decide) rfl rfl) rfl rfl hl.1 rfl (lv_room (Nat.le_of_ble_eq_true rfl)) dX12_product_46 ⟨Nat.le_refl _, Nat.le_refl _⟩) hA hS (fun r_79 f_76 L_77 Q_78 H locs hq hP hS => ?_)
            obtain ⟨⟨hI, hk_f_76, eL9, eQ9⟩, hq, p_80, p_81, p_82⟩ := hq
            rw [eL9, eQ9] at hP; clear eL9 eQ9
            have hF : sgK WkX12_product_4 f f_76 := sgK.tr hF hk_f_76 (by decide)
            obtain ⟨v_83, ev_83⟩ : ∃ z : Int32, z = f_76 0 13 := ⟨_, rfl⟩
            have q_84 : 0 ≤ v_83.toInt ∧ v_83.toInt ≤ 120 := by rw [ev_83]; exact hI 0 13
            have q_85 : (f_76 0 13).toInt = v_83.toInt := (congrArg Int32.toInt (show f_76 0 13 = v_83 from ev_83.symm))
            obtain ⟨v_86, ev_86⟩ : ∃ z : Int32, z = f_76 0 16 := ⟨_, rfl⟩
            have q_87 : 0 ≤ v_86.toInt ∧ v_86.toInt ≤ 6 := by rw [ev_86]; exact hI 0 16
            have q_88 : (f_76 0 16).toInt = v_86.toInt := (congrArg Int32.toInt (show f_76 0 16 = v_86 from ev_86.symm))
            obtain ⟨v_89, ev_89⟩ : ∃ z : Int32, z = f_76 0 15 := ⟨_, rfl⟩
            have q_90 : (-1) ≤ v_89.toInt ∧ v_89.toInt ≤ 120 := by rw [ev_89]; exact hI 0 15
            have q_91 : (f_76 0 15).toInt = v_89.toInt := (congrArg Int32.toInt (show f_76 0 15 = v_89 from ev_89.symm))
            have q_92 : (f_76 0 16).toInt = v_86.toInt := (congrArg Int32.toInt (show f_76 0 16 = v_86 from ev_86.symm))
            refine lv_istore_n (lv' := [(3, .int r_79), (0, .ref (h 0)), (1, .int y1_10), (2, .int y2_10)]) hx hb dX12_product_49 rfl hl (by decide) rfl (fun ls hl => ?_)
            refine lv_iload_n hx hb dX12_product_50 rfl (lv_at hl 3 rfl) ?_
            refine lv_bipush (v := 42) hx hb dX12_product_51 (by decide) ?_
            refine lv_icmp_ne (tgt := 62) hx hb dX12_product_53 (by decide) (fun c => ?_) (fun c => ?_)
            · skip
              have c_93 : y2_10.toInt ≠ 42 := (by have z := bn_ne c; have k1 : (42 : Int32).toInt = 42 := (by decide); omega)
              refine lv_iload_n hx hb dX12_product_62 rfl (lv_at hl 0 rfl) ?_
              refine lv_if_ne (tgt := 70) hx hb dX12_product_63 (by decide) (fun c => ?_) (fun c => ?_)
              · skip
                have c_95 : r_79.toInt ≠ 0 := (by have z := bn_ne c; have k1 : (0 : Int32).toInt = 0 := (by decide); omega)
                refine lv_iload_n hx hb dX12_product_70 rfl (lv_at hl 3 rfl) ?_
                refine lv_bipush (v := 47) hx hb dX12_product_71 (by decide) ?_
                refine lv_icmp_ne (tgt := 82) hx hb dX12_product_73 (by decide) (fun c => ?_) (fun c => ?_)
                · skip
                  exfalso; have c_97 : y2_10.toInt ≠ 47 := (by have z := bn_ne c; have k1 : (47 : Int32).toInt = 47 := (by decide); omega); omega
                · skip
                  have c_98 : y2_10.toInt = 47 := (by have z := Int32.toInt_inj.mpr c; have k1 : (47 : Int32).toInt = 47 := (by decide); omega)
                  refine lv_iload_n hx hb dX12_product_76 rfl (lv_at hl 2 rfl) ?_
                  refine lv_iload_n hx hb dX12_product_77 rfl (lv_at hl 0 rfl) ?_
                  refine lv_idiv hx hb dX12_product_78 (bn_nz (by omega)) ?_
                  refine lv_topi (fun v_99 ev_99 => ?_)
                  refine lv_goto (tgt := 85) hx hb dX12_product_79 (by decide) ?_
                  refine lv_istore_n (lv' := [(1, .int v_99), (3, .int r_79), (0, .ref (h 0)), (2, .int y2_10)]) hx hb dX12_product_85 rfl hl (by decide) rfl (fun ls hl => ?_)
                  refine lv_aload_n hx hb dX12_product_86 rfl (lv_at hl 2 rfl) ?_
                  have q_100 : (f_76 0 13).toInt = v_83.toInt := (congrArg Int32.toInt (show f_76 0 13 = v_83 from ev_83.symm))
                  have q_101 : (f_76 0 14).toInt = v_22.toInt := (congrArg Int32.toInt (show f_76 0 14 = v_22 from ((hk_f_76 0 14 (by decide)).trans (by rw [ef_71, sg_up_s, sgu_n (by decide)]; exact ev_22.symm))))
                  refine sg_calli (va_runV (As := []) (rest := []) ⟨hx, hb, hml, hown, hts⟩ (kX12_byteAt l D ca za h hh f_76 L Q hI H.size) (cwV 0 hts (gw_V (fun _ h => List.mem_cons_of_mem _ h) mw_840 mw_841 mw_842 mw_619 mw_839) rfl rfl rfl (by decide +kernel) ⟨Nat.le_of_ble_eq_true rfl, Nat.le_of_ble_eq_true rfl⟩) (sg_preV (ci := 12) (C := RX12) (T := TX12) (N := 55) hA hK hP hS hZ 0 (by decide) rfl rfl) rfl rfl hl.1 rfl (lv_room (Nat.le_of_ble_eq_true rfl)) dX12_product_87 ⟨Nat.le_refl _, Nat.le_refl _⟩) hA hS (fun r_105 f_102 L_103 Q_104 H locs hq hP hS => ?_)
                  obtain ⟨⟨ef9, eL9, eQ9⟩, hq, p_106⟩ := hq
                  rw [ef9, eL9, eQ9] at hP; clear ef9 eL9 eQ9
                  refine lv_istore_n (lv' := [(2, .int r_105), (1, .int v_99), (3, .int r_79), (0, .ref (h 0))]) hx hb dX12_product_90 rfl hl (by decide) rfl (fun ls hl => ?_)
                  refine lv_goto (tgt := 10) hx hb dX12_product_91 (by decide) ?_
                  exact ih_10 v_99 r_105 f_76 _ _ _ (by have zz0_13 : (f_76 0 13).toInt = v_83.toInt := (congrArg Int32.toInt (show f_76 0 13 = v_83 from ev_83.symm)); omega) (by omega) (by have zz0_13 : (f_76 0 13).toInt = v_83.toInt := (congrArg Int32.toInt (show f_76 0 13 = v_83 from ev_83.symm)); omega) (by have zz0_16 : (f_76 0 16).toInt = v_86.toInt := (congrArg Int32.toInt (show f_76 0 16 = v_86 from ev_86.symm)); omega) (by have zz0_15 : (f_76 0 15).toInt = v_89.toInt := (congrArg Int32.toInt (show f_76 0 15 = v_89 from ev_89.symm)); have zz0_16 : (f_76 0 16).toInt = v_86.toInt := (congrArg Int32.toInt (show f_76 0 16 = v_86 from ev_86.symm)); omega) (by have zz0_13 : (f_76 0 13).toInt = v_83.toInt := (congrArg Int32.toInt (show f_76 0 13 = v_83 from ev_83.symm)); have zz0_14 : (f_76 0 14).toInt = v_22.toInt := (congrArg Int32.toInt (show f_76 0 14 = v_22 from ((hk_f_76 0 14 (by decide)).trans (by rw [ef_71, sg_up_s, sgu_n (by decide)]; exact ev_22.symm)))); omega) hI hF hP hS (lv_sub hl [3, 1, 0] rfl)
              · skip
                have c_96 : r_79.toInt = 0 := (by have z := Int32.toInt_inj.mpr c; have k1 : (0 : Int32).toInt = 0 := (by decide); omega)
                refine lv_iconst (v := 0) hx hb dX12_product_66 (by decide) ?_
                refine lv_goto (tgt := 85) hx hb dX12_product_67 (by decide) ?_
                refine lv_istore_n (lv' := [(1, .int 0), (3, .int r_79), (0, .ref (h 0)), (2, .int y2_10)]) hx hb dX12_product_85 rfl hl (by decide) rfl (fun ls hl => ?_)
                refine lv_aload_n hx hb dX12_product_86 rfl (lv_at hl 2 rfl) ?_
                have q_107 : (f_76 0 13).toInt = v_83.toInt := (congrArg Int32.toInt (show f_76 0 13 = v_83 from ev_83.symm))
                have q_108 : (f_76 0 14).toInt = v_22.toInt := (congrArg Int32.toInt (show f_76 0 14 = v_22 from ((hk_f_76 0 14 (by decide)).trans (by rw [ef_71, sg_up_s, sgu_n (by decide)]; exact ev_22.symm))))
                refine sg_calli (va_runV (As := []) (rest := []) ⟨hx, hb, hml, hown, hts⟩ (kX12_byteAt l D ca za h hh f_76 L Q hI H.size) (cwV 0 hts (gw_V (fun _ h => List.mem_cons_of_mem _ h) mw_840 mw_841 mw_842 mw_619 mw_839) rfl rfl rfl (by decide +kernel) ⟨Nat.le_of_ble_eq_true rfl, Nat.le_of_ble_eq_true rfl⟩) (sg_preV (ci := 12) (C := RX12) (T := TX12) (N := 55) hA hK hP hS hZ 0 (by decide) rfl rfl) rfl rfl hl.1 rfl (lv_room (Nat.le_of_ble_eq_true rfl)) dX12_product_87 ⟨Nat.le_refl _, Nat.le_refl _⟩) hA hS (fun r_112 f_109 L_110 Q_111 H locs hq hP hS => ?_)
                obtain ⟨⟨ef9, eL9, eQ9⟩, hq, p_113⟩ := hq
                rw [ef9, eL9, eQ9] at hP; clear ef9 eL9 eQ9
                refine lv_istore_n (lv' := [(2, .int r_112), (1, .int 0), (3, .int r_79), (0, .ref (h 0))]) hx hb dX12_product_90 rfl hl (by decide) rfl (fun ls hl => ?_)
                refine lv_goto (tgt := 10) hx hb dX12_product_91 (by decide) ?_
                exact ih_10 0 r_112 f_76 _ _ _ (by have kc0 : (0 : Int32).toInt = 0 := (by decide); have zz0_13 : (f_76 0 13).toInt = v_83.toInt := (congrArg Int32.toInt (show f_76 0 13 = v_83 from ev_83.symm)); omega) (by omega) (by have kc0 : (0 : Int32).toInt = 0 := (by decide); have zz0_13 : (f_76 0 13).toInt = v_83.toInt := (congrArg Int32.toInt (show f_76 0 13 = v_83 from ev_83.symm)); omega) (by have kc0 : (0 : Int32).toInt = 0 := (by decide); have zz0_16 : (f_76 0 16).toInt = v_86.toInt := (congrArg Int32.toInt (show f_76 0 16 = v_86 from ev_86.symm)); omega) (by have kc0 : (0 : Int32).toInt = 0 := (by decide); have zz0_15 : (f_76 0 15).toInt = v_89.toInt := (congrArg Int32.toInt (show f_76 0 15 = v_89 from ev_89.symm)); have zz0_16 : (f_76 0 16).toInt = v_86.toInt := (congrArg Int32.toInt (show f_76 0 16 = v_86 from ev_86.symm)); omega) (by have kc0 : (0 : Int32).toInt = 0 := (by decide); have zz0_13 : (f_76 0 13).toInt = v_83.toInt := (congrArg Int32.toInt (show f_76 0 13 = v_83 from ev_83.symm)); have zz0_14 : (f_76 0 14).toInt = v_22.toInt := (congrArg Int32.toInt (show f_76 0 14 = v_22 from ((hk_f_76 0 14 (by decide)).trans (by rw [ef_71, sg_up_s, sgu_n (by decide)]; exact ev_22.symm)))); omega) hI hF hP hS (lv_sub hl [3, 1, 0] rfl)
            · skip
              exfalso; have c_94 : y2_10.toInt = 42 := (by have z := Int32.toInt_inj.mpr c; have k1 : (42 : Int32).toInt = 42 := (by decide); omega); omega
          · skip
            have c_68 : y2_10.toInt ≠ 47 := (by have z := bn_ne c; have k1 : (47 : Int32).toInt = 47 := (by decide); omega)
            refine lv_iload_n hx hb dX12_product_29 rfl (lv_at hl 2 rfl) ?_
            refine lv_bipush (v := 37) hx hb dX12_product_30 (by decide) ?_
            refine lv_icmp_ne (tgt := 94) hx hb dX12_product_32 (by decide) (fun c => ?_) (fun c => ?_)
            · skip
              have c_114 : y2_10.toInt ≠ 37 := (by have z := bn_ne c; have k1 : (37 : Int32).toInt = 37 := (by decide); omega)
              refine lv_iload_n hx hb dX12_product_94 rfl (lv_at hl 1 rfl) ?_
              have q_116 : (fp_10 0 13).toInt = v_13.toInt := (congrArg Int32.toInt (show fp_10 0 13 = v_13 from ev_13.symm))
              have q_117 : (fp_10 0 16).toInt = v_16.toInt := (congrArg Int32.toInt (show fp_10 0 16 = v_16 from ev_16.symm))
              have q_118 : (fp_10 0 15).toInt = v_19.toInt := (congrArg Int32.toInt (show fp_10 0 15 = v_19 from ev_19.symm))
              have q_119 : (fp_10 0 16).toInt = v_16.toInt := (congrArg Int32.toInt (show fp_10 0 16 = v_16 from ev_16.symm))
              exact hret _ _ _ _ (y1_10) fp_10 L Q dX12_product_95 hP hS ⟨⟨hI, hF, rfl, rfl⟩, trivial, (by omega), (by omega), (by omega)⟩
            · skip
              have c_115 : y2_10.toInt = 37 := (by have z := Int32.toInt_inj.mpr c; have k1 : (37 : Int32).toInt = 37 := (by decide); omega)
              refine lv_aload_n hx hb dX12_product_35 rfl (lv_at hl 0 rfl) ?_
              refine lv_dup hx hb dX12_product_36 rfl ?_
              refine sg_get (ci := 12) (v := .int v_13) (C := RX12) (T := TX12) (N := 55) hx hb hts (fun w h => List.mem_cons_of_mem _ (gx_12 w h)) hown hK hP 0 (by decide) rfl rfl 13 (by decide) (hts _ (List.mem_cons_of_mem _ mw_625)) (fun _ h9 => h9) (congrArg (fun z => some (Value.int z)) (show fp_10 0 13 = v_13 from ev_13.symm)) dX12_product_37 ?_
              refine lv_iconst (v := 1) hx hb dX12_product_40 (by decide) ?_
              refine lv_iadd hx hb dX12_product_41 ?_
              refine lv_topi (fun v_120 ev_120 => ?_)
              have q_121 : v_120.toInt = v_13.toInt + 1 := by rw [ev_120]; have k1 : (1 : Int32).toInt = 1 := (by decide); exact (bn_addI (by omega) (by omega)).trans (by omega)
              refine sg_put (ci := 12) (x := v_120) (ty := .int) (C := RX12) (T := TX12) (N := 55) hx hb hts (fun w h => List.mem_cons_of_mem _ (gx_12 w h)) tyX12 tyX12_ok nmX12 hown hh hA hK hP hS 0 (by decide) rfl rfl 13 (by decide) (hts _ (List.mem_cons_of_mem _ mw_625)) (fun _ h9 => h9) rfl rfl (by decide +kernel) rfl rfl (Nat.le_of_ble_eq_true rfl) dX12_product_42 (fun f_122 H locs ef_122 hP hS => ?_)
              have hI : sgI loM hiM f_122 := by rw [ef_122]; exact sgI.put hI 0 13 (show 0 ≤ (v_120 : Int32).toInt ∧ (v_120 : Int32).toInt ≤ 120 from by omega)
              have hF : sgK WkX12_product_4 f f_122 := sgK.put hF ef_122 (by rfl)
              refine lv_aload_n hx hb dX12_product_45 rfl (lv_at hl 0 rfl) ?_
              have q_123 : (f_122 0 16).toInt = v_16.toInt := (congrArg Int32.toInt (show f_122 0 16 = v_16 from (by rw [ef_122, sg_up_s, sgu_n (by decide)]; exact ev_16.symm)))
              have q_124 : (f_122 0 15).toInt = v_19.toInt := (congrArg Int32.toInt (show f_122 0 15 = v_19 from (by rw [ef_122, sg_up_s, sgu_n (by decide)]; exact ev_19.symm)))
              have q_125 : (f_122 0 16).toInt = v_16.toInt := (congrArg Int32.toInt (show f_122 0 16 = v_16 from (by rw [ef_122, sg_up_s, sgu_n (by decide)]; exact ev_16.symm)))
              have q_126 : (f_122 0 13).toInt = v_120.toInt := (congrArg Int32.toInt (show f_122 0 13 = v_120 from (by rw [ef_122, sg_up_s, sgu_s])))
              refine sg_calli (va_runV (As := []) (rest := []) ⟨hx, hb, hml, hown, hts⟩ (kX12_one_4 l D ca za h hh f_122 L Q hI (by omega) (by omega) H.size) (cwV 0 hts (gw_V (fun _ h => List.mem_cons_of_mem _ h) mw_789 mw_790 mw_791 mw_619 mw_788) rfl rfl rfl (by decide +kernel) ⟨Nat.le_of_ble_eq_true rfl, Nat.le_of_ble_eq_true rfl⟩) (sg_preV (ci := 12) (C := RX12) (T := TX12) (N := 55) hA hK hP hS hZ 0 (by decide) rfl rfl) rfl rfl hl.1 rfl (lv_room (Nat.le_of_ble_eq_true rfl)) dX12_product_46 ⟨Nat.le_refl _, Nat.le_refl _⟩) hA hS (fun r_130 f_127 L_128 Q_129 H locs hq hP hS => ?_)
              obtain ⟨⟨hI, hk_f_127, eL9, eQ9⟩, hq, p_131, p_132, p_133⟩ := hq
              rw [eL9, eQ9] at hP; clear eL9 eQ9
              have hF : sgK WkX12_product_4 f f_127 := sgK.tr hF hk_f_127 (by decide)
              obtain ⟨v_134, ev_134⟩ : ∃ z : Int32, z = f_127 0 13 := ⟨_, rfl⟩
              have q_135 : 0 ≤ v_134.toInt ∧ v_134.toInt ≤ 120 := by rw [ev_134]; exact hI 0 13
              have q_136 : (f_127 0 13).toInt = v_134.toInt := (congrArg Int32.toInt (show f_127 0 13 = v_134 from ev_134.symm))
              obtain ⟨v_137, ev_137⟩ : ∃ z : Int32, z = f_127 0 16 := ⟨_, rfl⟩
              have q_138 : 0 ≤ v_137.toInt ∧ v_137.toInt ≤ 6 := by rw [ev_137]; exact hI 0 16
              have q_139 : (f_127 0 16).toInt = v_137.toInt := (congrArg Int32.toInt (show f_127 0 16 = v_137 from ev_137.symm))
              obtain ⟨v_140, ev_140⟩ : ∃ z : Int32, z = f_127 0 15 := ⟨_, rfl⟩
              have q_141 : (-1) ≤ v_140.toInt ∧ v_140.toInt ≤ 120 := by rw [ev_140]; exact hI 0 15
              have q_142 : (f_127 0 15).toInt = v_140.toInt := (congrArg Int32.toInt (show f_127 0 15 = v_140 from ev_140.symm))
              have q_143 : (f_127 0 16).toInt = v_137.toInt := (congrArg Int32.toInt (show f_127 0 16 = v_137 from ev_137.symm))
              refine lv_istore_n (lv' := [(3, .int r_130), (0, .ref (h 0)), (1, .int y1_10), (2, .int y2_10)]) hx hb dX12_product_49 rfl hl (by decide) rfl (fun ls hl => ?_)
              refine lv_iload_n hx hb dX12_product_50 rfl (lv_at hl 3 rfl) ?_
              refine lv_bipush (v := 42) hx hb dX12_product_51 (by decide) ?_
              refine lv_icmp_ne (tgt := 62) hx hb dX12_product_53 (by decide) (fun c => ?_) (fun c => ?_)
              · skip
                have c_144 : y2_10.toInt ≠ 42 := (by have z := bn_ne c; have k1 : (42 : Int32).toInt = 42 := (by decide); omega)
                refine lv_iload_n hx hb dX12_product_62 rfl (lv_at hl 0 rfl) ?_
                refine lv_if_ne (tgt := 70) hx hb dX12_product_63 (by decide) (fun c => ?_) (fun c => ?_)
                · skip
                  have c_146 : r_130.toInt ≠ 0 := (by have z := bn_ne c; have k1 : (0 : Int32).toInt = 0 := (by decide); omega)
                  refine lv_iload_n hx hb dX12_product_70 rfl (lv_at hl 3 rfl) ?_
                  refine lv_bipush (v := 47) hx hb dX12_product_71 (by decide) ?_
                  refine lv_icmp_ne (tgt := 82) hx hb dX12_product_73 (by decide) (fun c => ?_) (fun c => ?_)
                  · skip
                    have c_148 : y2_10.toInt ≠ 47 := (by have z := bn_ne c; have k1 : (47 : Int32).toInt = 47 := (by decide); omega)
                    refine lv_iload_n hx hb dX12_product_82 rfl (lv_at hl 2 rfl) ?_
                    refine lv_iload_n hx hb dX12_product_83 rfl (lv_at hl 0 rfl) ?_
                    refine lv_irem hx hb dX12_product_84 (bn_nz (by omega)) ?_
                    refine lv_topi (fun v_150 ev_150 => ?_)
                    refine lv_istore_n (lv' := [(1, .int v_150), (3, .int r_130), (0, .ref (h 0)), (2, .int y2_10)]) hx hb dX12_product_85 rfl hl (by decide) rfl (fun ls hl => ?_)
                    refine lv_aload_n hx hb dX12_product_86 rfl (lv_at hl 2 rfl) ?_
                    have q_151 : (f_127 0 13).toInt = v_134.toInt := (congrArg Int32.toInt (show f_127 0 13 = v_134 from ev_134.symm))
                    have q_152 : (f_127 0 14).toInt = v_22.toInt := (congrArg Int32.toInt (show f_127 0 14 = v_22 from ((hk_f_127 0 14 (by decide)).trans (by rw [ef_122, sg_up_s, sgu_n (by decide)]; exact ev_22.symm))))
                    refine sg_calli (va_runV (As := []) (rest := []) ⟨hx, hb, hml, hown, hts⟩ (kX12_byteAt l D ca za h hh f_127 L Q hI H.size) (cwV 0 hts (gw_V (fun _ h => List.mem_cons_of_mem _ h) mw_840 mw_841 mw_842 mw_619 mw_839) rfl rfl rfl (by decide +kernel) ⟨Nat.le_of_ble_eq_true rfl, Nat.le_of_ble_eq_true rfl⟩) (sg_preV (ci := 12) (C := RX12) (T := TX12) (N := 55) hA hK hP hS hZ 0 (by decide) rfl rfl) rfl rfl hl.1 rfl (lv_room (Nat.le_of_ble_eq_true rfl)) dX12_product_87 ⟨Nat.le_refl _, Nat.le_refl _⟩) hA hS (fun r_156 f_153 L_154 Q_155 H locs hq hP hS => ?_)
                    obtain ⟨⟨ef9, eL9, eQ9⟩, hq, p_157⟩ := hq
                    rw [ef9, eL9, eQ9] at hP; clear ef9 eL9 eQ9
                    refine lv_istore_n (lv' := [(2, .int r_156), (1, .int v_150), (3, .int r_130), (0, .ref (h 0))]) hx hb dX12_product_90 rfl hl (by decide) rfl (fun ls hl => ?_)
                    refine lv_goto (tgt := 10) hx hb dX12_product_91 (by decide) ?_
                    exact ih_10 v_150 r_156 f_127 _ _ _ (by have zz0_13 : (f_127 0 13).toInt = v_134.toInt := (congrArg Int32.toInt (show f_127 0 13 = v_134 from ev_134.symm)); omega) (by omega) (by have zz0_13 : (f_127 0 13).toInt = v_134.toInt := (congrArg Int32.toInt (show f_127 0 13 = v_134 from ev_134.symm)); omega) (by have zz0_16 : (f_127 0 16).toInt = v_137.toInt := (congrArg Int32.toInt (show f_127 0 16 = v_137 from ev_137.symm)); omega) (by have zz0_15 : (f_127 0 15).toInt = v_140.toInt := (congrArg Int32.toInt (show f_127 0 15 = v_140 from ev_140.symm)); have zz0_16 : (f_127 0 16).toInt = v_137.toInt := (congrArg Int32.toInt (show f_127 0 16 = v_137 from ev_137.symm)); omega) (by have zz0_13 : (f_127 0 13).toInt = v_134.toInt := (congrArg Int32.toInt (show f_127 0 13 = v_134 from ev_134.symm)); have zz0_14 : (f_127 0 14).toInt = v_22.toInt := (congrArg Int32.toInt (show f_127 0 14 = v_22 from ((hk_f_127 0 14 (by decide)).trans (by rw [ef_122, sg_up_s, sgu_n (by decide)]; exact ev_22.symm)))); omega) hI hF hP hS (lv_sub hl [3, 1, 0] rfl)
                  · skip
                    exfalso; have c_149 : y2_10.toInt = 47 := (by have z := Int32.toInt_inj.mpr c; have k1 : (47 : Int32).toInt = 47 := (by decide); omega); omega
                · skip
                  have c_147 : r_130.toInt = 0 := (by have z := Int32.toInt_inj.mpr c; have k1 : (0 : Int32).toInt = 0 := (by decide); omega)
                  refine lv_iconst (v := 0) hx hb dX12_product_66 (by decide) ?_
                  refine lv_goto (tgt := 85) hx hb dX12_product_67 (by decide) ?_
                  refine lv_istore_n (lv' := [(1, .int 0), (3, .int r_130), (0, .ref (h 0)), (2, .int y2_10)]) hx hb dX12_product_85 rfl hl (by decide) rfl (fun ls hl => ?_)
                  refine lv_aload_n hx hb dX12_product_86 rfl (lv_at hl 2 rfl) ?_
                  have q_158 : (f_127 0 13).toInt = v_134.toInt := (congrArg Int32.toInt (show f_127 0 13 = v_134 from ev_134.symm))
                  have q_159 : (f_127 0 14).toInt = v_22.toInt := (congrArg Int32.toInt (show f_127 0 14 = v_22 from ((hk_f_127 0 14 (by decide)).trans (by rw [ef_122, sg_up_s, sgu_n (by decide)]; exact ev_22.symm))))
                  refine sg_calli (va_runV (As := []) (rest := []) ⟨hx, hb, hml, hown, hts⟩ (kX12_byteAt l D ca za h hh f_127 L Q hI H.size) (cwV 0 hts (gw_V (fun _ h => List.mem_cons_of_mem _ h) mw_840 mw_841 mw_842 mw_619 mw_839) rfl rfl rfl (by decide +kernel) ⟨Nat.le_of_ble_eq_true rfl, Nat.le_of_ble_eq_true rfl⟩) (sg_preV (ci := 12) (C := RX12) (T := TX12) (N := 55) hA hK hP hS hZ 0 (by decide) rfl rfl) rfl rfl hl.1 rfl (lv_room (Nat.le_of_ble_eq_true rfl)) dX12_product_87 ⟨Nat.le_refl _, Nat.le_refl _⟩) hA hS (fun r_163 f_160 L_161 Q_162 H locs hq hP hS => ?_)
                  obtain ⟨⟨ef9, eL9, eQ9⟩, hq, p_164⟩ := hq
                  rw [ef9, eL9, eQ9] at hP; clear ef9 eL9 eQ9
                  refine lv_istore_n (lv' := [(2, .int r_163), (1, .int 0), (3, .int r_130), (0, .ref (h 0))]) hx hb dX12_product_90 rfl hl (by decide) rfl (fun ls hl => ?_)
                  refine lv_goto (tgt := 10) hx hb dX12_product_91 (by decide) ?_
                  exact ih_10 0 r_163 f_127 _ _ _ (by have kc0 : (0 : Int32).toInt = 0 := (by decide); have zz0_13 : (f_127 0 13).toInt = v_134.toInt := (congrArg Int32.toInt (show f_127 0 13 = v_134 from ev_134.symm)); omega) (by omega) (by have kc0 : (0 : Int32).toInt = 0 := (by decide); have zz0_13 : (f_127 0 13).toInt = v_134.toInt := (congrArg Int32.toInt (show f_127 0 13 = v_134 from ev_134.symm)); omega) (by have kc0 : (0 : Int32).toInt = 0 := (by decide); have zz0_16 : (f_127 0 16).toInt = v_137.toInt := (congrArg Int32.toInt (show f_127 0 16 = v_137 from ev_137.symm)); omega) (by have kc0 : (0 : Int32).toInt = 0 := (by decide); have zz0_15 : (f_127 0 15).toInt = v_140.toInt := (congrArg Int32.toInt (show f_127 0 15 = v_140 from ev_140.symm)); have zz0_16 : (f_127 0 16).toInt = v_137.toInt := (congrArg Int32.toInt (show f_127 0 16 = v_137 from ev_137.symm)); omega) (by have kc0 : (0 : Int32).toInt = 0 := (by decide); have zz0_13 : (f_127 0 13).toInt = v_134.toInt := (congrArg Int32.toInt (show f_127 0 13 = v_134 from ev_134.symm)); have zz0_14 : (f_127 0 14).toInt = v_22.toInt := (congrArg Int32.toInt (show f_127 0 14 = v_22 from ((hk_f_127 0 14 (by decide)).trans (by rw [ef_122, sg_up_s, sgu_n (by decide)]; exact ev_22.symm)))); omega) hI hF hP hS (lv_sub hl [3, 1, 0] rfl)
              · skip
                exfalso; have c_145 : y2_10.toInt = 42 := (by have z := Int32.toInt_inj.mpr c; have k1 : (42 : Int32).toInt = 42 := (by decide); omega); omega
  refine lv_aload_n hx hb dX12_product_0 rfl (lv_at hl 0 rfl) ?_
  have q_165 : (f 0 16).toInt = v_1.toInt := (congrArg Int32.toInt (show f 0 16 = v_1 from ev_1.symm))
  have q_166 : (f 0 15).toInt = v_3.toInt := (congrArg Int32.toInt (show f 0 15 = v_3 from ev_3.symm))
  have q_167 : (f 0 16).toInt = v_1.toInt := (congrArg Int32.toInt (show f 0 16 = v_1 from ev_1.symm))
  have q_168 : (f 0 13).toInt = v_5.toInt := (congrArg Int32.toInt (show f 0 13 = v_5 from ev_5.symm))
  refine sg_calli (va_runV (As := []) (rest := []) ⟨hx, hb, hml, hown, hts⟩ (kX12_one_4 l D ca za h hh f L Q hI (by omega) (by omega) H.size) (cwV 0 hts (gw_V (fun _ h => List.mem_cons_of_mem _ h) mw_789 mw_790 mw_791 mw_619 mw_788) rfl rfl rfl (by decide +kernel) ⟨Nat.le_of_ble_eq_true rfl, Nat.le_of_ble_eq_true rfl⟩) (sg_preV (ci := 12) (C := RX12) (T := TX12) (N := 55) hA hK hP hS hZ 0 (by decide) rfl rfl) rfl rfl hl.1 rfl (lv_room (Nat.le_of_ble_eq_true rfl)) dX12_product_1 ⟨Nat.le_refl _, Nat.le_refl _⟩) hA hS (fun r_172 f_169 L_170 Q_171 H locs hq hP hS => ?_)
  obtain ⟨⟨hI, hk_f_169, eL9, eQ9⟩, hq, p_173, p_174, p_175⟩ := hq
  rw [eL9, eQ9] at hP; clear eL9 eQ9
  have hF : sgK WkX12_product_4 f f_169 := sgK.tr hF hk_f_169 (by decide)
  obtain ⟨v_176, ev_176⟩ : ∃ z : Int32, z = f_169 0 13 := ⟨_, rfl⟩
  have q_177 : 0 ≤ v_176.toInt ∧ v_176.toInt ≤ 120 := by rw [ev_176]; exact hI 0 13
  have q_178 : (f_169 0 13).toInt = v_176.toInt := (congrArg Int32.toInt (show f_169 0 13 = v_176 from ev_176.symm))
  obtain ⟨v_179, ev_179⟩ : ∃ z : Int32, z = f_169 0 16 := ⟨_, rfl⟩
  have q_180 : 0 ≤ v_179.toInt ∧ v_179.toInt ≤ 6 := by rw [ev_179]; exact hI 0 16
  have q_181 : (f_169 0 16).toInt = v_179.toInt := (congrArg Int32.toInt (show f_169 0 16 = v_179 from ev_179.symm))
  obtain ⟨v_182, ev_182⟩ : ∃ z : Int32, z = f_169 0 15 := ⟨_, rfl⟩
  have q_183 : (-1) ≤ v_182.toInt ∧ v_182.toInt ≤ 120 := by rw [ev_182]; exact hI 0 15
  have q_184 : (f_169 0 15).toInt = v_182.toInt := (congrArg Int32.toInt (show f_169 0 15 = v_182 from ev_182.symm))
  have q_185 : (f_169 0 16).toInt = v_179.toInt := (congrArg Int32.toInt (show f_169 0 16 = v_179 from ev_179.symm))
  refine lv_istore_n (lv' := [(1, .int r_172), (0, .ref (h 0))]) hx hb dX12_product_4 rfl hl (by decide) rfl (fun ls hl => ?_)
  refine lv_aload_n hx hb dX12_product_5 rfl (lv_at hl 1 rfl) ?_
  have q_186 : (f_169 0 13).toInt = v_176.toInt := (congrArg Int32.toInt (show f_169 0 13 = v_176 from ev_176.symm))
  have q_187 : (f_169 0 14).toInt = v_7.toInt := (congrArg Int32.toInt (show f_169 0 14 = v_7 from ((hk_f_169 0 14 (by decide)).trans ev_7.symm)))
  refine sg_calli (va_runV (As := []) (rest := []) ⟨hx, hb, hml, hown, hts⟩ (kX12_byteAt l D ca za h hh f_169 L Q hI H.size) (cwV 0 hts (gw_V (fun _ h => List.mem_cons_of_mem _ h) mw_840 mw_841 mw_842 mw_619 mw_839) rfl rfl rfl (by decide +kernel) ⟨Nat.le_of_ble_eq_true rfl, Nat.le_of_ble_eq_true rfl⟩) (sg_preV (ci := 12) (C := RX12) (T := TX12) (N := 55) hA hK hP hS hZ 0 (by decide) rfl rfl) rfl rfl hl.1 rfl (lv_room (Nat.le_of_ble_eq_true rfl)) dX12_product_6 ⟨Nat.le_refl _, Nat.le_refl _⟩) hA hS (fun r_191 f_188 L_189 Q_190 H locs hq hP hS => ?_)
  obtain ⟨⟨ef9, eL9, eQ9⟩, hq, p_192⟩ := hq
  rw [ef9, eL9, eQ9] at hP; clear ef9 eL9 eQ9
  refine lv_istore_n (lv' := [(2, .int r_191), (1, .int r_172), (0, .ref (h 0))]) hx hb dX12_product_9 rfl hl (by decide) rfl (fun ls hl => ?_)
  exact loop_10 121 r_172 r_191 f_169 _ _ _ (by have zz0_13 : (f_169 0 13).toInt = v_176.toInt := (congrArg Int32.toInt (show f_169 0 13 = v_176 from ev_176.symm)); omega) (by omega) (by have zz0_13 : (f_169 0 13).toInt = v_176.toInt := (congrArg Int32.toInt (show f_169 0 13 = v_176 from ev_176.symm)); omega) (by have zz0_16 : (f_169 0 16).toInt = v_179.toInt := (congrArg Int32.toInt (show f_169 0 16 = v_179 from ev_179.symm)); omega) (by have zz0_15 : (f_169 0 15).toInt = v_182.toInt := (congrArg Int32.toInt (show f_169 0 15 = v_182 from ev_182.symm)); have zz0_16 : (f_169 0 16).toInt = v_179.toInt := (congrArg Int32.toInt (show f_169 0 16 = v_179 from ev_179.symm)); omega) (by have zz0_13 : (f_169 0 13).toInt = v_176.toInt := (congrArg Int32.toInt (show f_169 0 13 = v_176 from ev_176.symm)); have zz0_14 : (f_169 0 14).toInt = v_7.toInt := (congrArg Int32.toInt (show f_169 0 14 = v_7 from ((hk_f_169 0 14 (by decide)).trans ev_7.symm))); omega) hI hF hP hS (lv_sub hl [2, 1, 0] rfl)

abbrev WkX12_sums_4 : List (Nat × Nat × Option Nat) := [(0, 0, some 13), (0, 0, some 15), (0, 0, some 16)]
set_option maxHeartbeats 4000000 in
set_option maxRecDepth 100000 in
theorem kX12_sums_4 (l : Launch) (D : va_G) (ca : Nat → ClassId) (za h : Nat → Nat) (hh : sgH 26 h) (f : sg_F) (L : sg_L) (Q : sg_Q) (hI : sgI loM hiM f) (p0 : 4 ≤ (f 0 16).toInt) (p1 : 0 ≤ (f 0 15).toInt ∨ (f 0 16).toInt = 4) (sz : Nat) : Met l yX12_sums gwX12_sums { frames := 15, cells := 0, slots := 0, locals := 341 } (sgP D vwCl (tyX ca) 26 h (eM ca h) zcM za f L Q sz [.ref (h 0)]) (sgQi D vwCl 26 h (eM ca h) sz (fun r f1 L1 Q1 => ((sgI loM hiM f1 ∧ sgK WkX12_sums_4 f f1 ∧ L1 = L ∧ Q1 = Q) ∧ True ∧ ((f 0 13).toInt ≤ (f1 0 13).toInt) ∧ (4 ≤ (f1 0 16).toInt) ∧ (0 ≤ (f1 0 15).toInt ∨ (f1 0 16).toInt = 4)))) 0 0 (sgA 26 h sz) := by
  refine sg_ofWi (cc := cX12_sums) (maxL := 4) RX12 (by decide) rfl rfl (Nat.le_of_ble_eq_true rfl) ?_
  intro p e s m below meth cd Qz ls hx hb hml hown hts hK hZ hP hS hl hret
  have hA := sgY.self (n := 26) (h := h) (sz := s.heap.size)
  have hl : lv_has ls 4 [(0, .ref (h 0))] := hl
  obtain ⟨H, hH⟩ : ∃ z : Heap, z = s.heap := ⟨_, rfl⟩
  obtain ⟨locs, hlo⟩ : ∃ z : List Loc, z = [] := ⟨_, rfl⟩
  have hP : va_P D vwCl (sgw 26 h (eM ca h) f L Q) H := by rw [hH]; exact hP
  have hS : va_S (sgA 26 h s.heap.size) s.heap H locs := by rw [hH, hlo]; exact hS
  suffices hgo : W p l e ({ frames := 15, cells := 0, slots := 0, locals := 341 }) s m ([.ref (h 0)] : List Value).toArray below meth cd H locs 0 0 Qz (F0 m 0 ls []) by rw [hH, hlo] at hgo; exact hgo
  clear hH hlo
  obtain ⟨v_1, ev_1⟩ : ∃ z : Int32, z = f 0 16 := ⟨_, rfl⟩
  have q_2 : 0 ≤ v_1.toInt ∧ v_1.toInt ≤ 6 := by rw [ev_1]; exact hI 0 16
  obtain ⟨v_3, ev_3⟩ : ∃ z : Int32, z = f 0 15 := ⟨_, rfl⟩
  have q_4 : (-1) ≤ v_3.toInt ∧ v_3.toInt ≤ 120 := by rw [ev_3]; exact hI 0 15
  obtain ⟨v_5, ev_5⟩ : ∃ z : Int32, z = f 0 13 := ⟨_, rfl⟩
  have q_6 : 0 ≤ v_5.toInt ∧ v_5.toInt ≤ 120 := by rw [ev_5]; exact hI 0 13
  have o_7 : (f 0 16).toInt = v_1.toInt := (congrArg Int32.toInt (show f 0 16 = v_1 from ev_1.symm))
  have o_8 : (f 0 15).toInt = v_3.toInt := (congrArg Int32.toInt (show f 0 15 = v_3 from ev_3.symm))
  have o_9 : (f 0 13).toInt = v_5.toInt := (congrArg Int32.toInt (show f 0 13 = v_5 from ev_5.symm))
  have hF : sgK WkX12_sums_4 f f := sgK.rf
  have loop_5 : ∀ (n_5 : Nat) (y1_5 : Int32) (fp_5 : sg_F) (H : Heap) (locs : List Loc) (ls : Array Slot), 120 - (fp_5 0 13).toInt < (n_5 : Int) → (f 0 13).toInt ≤ (fp_5 0 13).toInt → 4 ≤ (fp_5 0 16).toInt → 0 ≤ (fp_5 0 15).toInt ∨ (fp_5 0 16).toInt = 4 → sgI loM hiM fp_5 → sgK WkX12_sums_4 f fp_5 → va_P D vwCl (sgw 26 h (eM ca h) fp_5 L Q) H → va_S (sgA 26 h s.heap.size) s.heap H locs → lv_has ls 4 [(0, .ref (h 0)), (1, .int y1_5)] → W p l e ({ frames := 15, cells := 0, slots := 0, locals := 341 }) s m ([.ref (h 0)] : List Value).toArray below meth cd H locs 0 0 Qz (F0 m 5 ls []) := by
    intro n_5
    induction n_5 with
    | zero => intro y1_5 fp_5 H locs ls hm_5 hg0_5 hg1_5 hg2_5 hI hF hP hS hl; have zb := (show 0 ≤ (fp_5 0 13).toInt ∧ (fp_5 0 13).toInt ≤ 120 from hI 0 13); exact absurd hm_5 (by omega)
    | succ n_5 ih_5 =>
      intro y1_5 fp_5 H locs ls hm_5 hg0_5 hg1_5 hg2_5 hI hF hP hS hl
      obtain ⟨v_10, ev_10⟩ : ∃ z : Int32, z = fp_5 0 13 := ⟨_, rfl⟩
      have q_11 : 0 ≤ v_10.toInt ∧ v_10.toInt ≤ 120 := by rw [ev_10]; exact hI 0 13
      have q_12 : (fp_5 0 13).toInt = v_10.toInt := by rw [ev_10]
      obtain ⟨v_13, ev_13⟩ : ∃ z : Int32, z = fp_5 0 16 := ⟨_, rfl⟩
      have q_14 : 0 ≤ v_13.toInt ∧ v_13.toInt ≤ 6 := by rw [ev_13]; exact hI 0 16
      have q_15 : (fp_5 0 16).toInt = v_13.toInt := by rw [ev_13]
      obtain ⟨v_16, ev_16⟩ : ∃ z : Int32, z = fp_5 0 15 := ⟨_, rfl⟩
      have q_17 : (-1) ≤ v_16.toInt ∧ v_16.toInt ≤ 120 := by rw [ev_16]; exact hI 0 15
      have q_18 : (fp_5 0 15).toInt = v_16.toInt := by rw [ev_16]
      refine lv_aload_n hx hb dX12_sums_5 rfl (lv_at hl 0 rfl) ?_
      refine sg_get (ci := 12) (v := .int v_16) (C := RX12) (T := TX12) (N := 55) hx hb hts (fun w h => List.mem_cons_of_mem _ (gx_12 w h)) hown hK hP 0 (by decide) rfl rfl 15 (by decide) (hts _ (List.mem_cons_of_mem _ mw_627)) (fun _ h9 => h9) (congrArg (fun z => some (Value.int z)) (show fp_5 0 15 = v_16 from ev_16.symm)) dX12_sums_6 ?_
      refine lv_if_ge (tgt := 77) hx hb dX12_sums_9 (by decide) (fun c => ?_) (fun c => ?_)
      · skip
        have c_19 : 0 ≤ v_16.toInt := (by have z := bn_le c; have k1 : (0 : Int32).toInt = 0 := (by decide); omega)
        refine lv_iload_n hx hb dX12_sums_77 rfl (lv_at hl 1 rfl) ?_
        have q_21 : (fp_5 0 13).toInt = v_10.toInt := (congrArg Int32.toInt (show fp_5 0 13 = v_10 from ev_10.symm))
        have q_22 : (fp_5 0 16).toInt = v_13.toInt := (congrArg Int32.toInt (show fp_5 0 16 = v_13 from ev_13.symm))
        have q_23 : (fp_5 0 15).toInt = v_16.toInt := (congrArg Int32.toInt (show fp_5 0 15 = v_16 from ev_16.symm))
        have q_24 : (fp_5 0 16).toInt = v_13.toInt := (congrArg Int32.toInt (show fp_5 0 16 = v_13 from ev_13.symm))
        exact hret _ _ _ _ (y1_5) fp_5 L Q dX12_sums_78 hP hS ⟨⟨hI, hF, rfl, rfl⟩, trivial, (by omega), (by omega), (by omega)⟩
      · skip
        have c_20 : v_16.toInt < 0 := (by have z := bn_nle c; have k1 : (0 : Int32).toInt = 0 := (by decide); omega)
        refine lv_aload_n hx hb dX12_sums_12 rfl (lv_at hl 0 rfl) ?_
        have q_25 : (fp_5 0 13).toInt = v_10.toInt := (congrArg Int32.toInt (show fp_5 0 13 = v_10 from ev_10.symm))
        obtain ⟨v_26, ev_26⟩ : ∃ z : Int32, z = fp_5 0 14 := ⟨_, rfl⟩
        have q_27 : 0 ≤ v_26.toInt ∧ v_26.toInt ≤ 120 := by rw [ev_26]; exact hI 0 14
        have q_28 : (fp_5 0 14).toInt = v_26.toInt := (congrArg Int32.toInt (show fp_5 0 14 = v_26 from ev_26.symm))
        refine sg_calli (va_runV (As := []) (rest := []) ⟨hx, hb, hml, hown, hts⟩ (kX12_byteAt l D ca za h hh fp_5 L Q hI H.size) (cwV 0 hts (gw_V (fun _ h => List.mem_cons_of_mem _ h) mw_840 mw_841 mw_842 mw_619 mw_839) rfl rfl rfl (by decide +kernel) ⟨Nat.le_of_ble_eq_true rfl, Nat.le_of_ble_eq_true rfl⟩) (sg_preV (ci := 12) (C := RX12) (T := TX12) (N := 55) hA hK hP hS hZ 0 (by decide) rfl rfl) rfl rfl hl.1 rfl (lv_room (Nat.le_of_ble_eq_true rfl)) dX12_sums_13 ⟨Nat.le_refl _, Nat.le_refl _⟩) hA hS (fun r_32 f_29 L_30 Q_31 H locs hq hP hS => ?_)
        obtain ⟨⟨ef9, eL9, eQ9⟩, hq, p_33⟩ := hq
        rw [ef9, eL9, eQ9] at hP; clear ef9 eL9 eQ9
        refine lv_bipush (v := 43) hx hb dX12_sums_16 (by decide) ?_
        refine lv_icmp_eq (tgt := 30) hx hb dX12_sums_18 (by decide) (fun c => ?_) (fun c => ?_)
        · skip
          have c_34 : r_32.toInt = 43 := (by have z := Int32.toInt_inj.mpr c; have k1 : (43 : Int32).toInt = 43 := (by decide); omega)
          refine lv_aload_n hx hb dX12_sums_30 rfl (lv_at hl 0 rfl) ?_
          have q_36 : (fp_5 0 13).toInt = v_10.toInt := (congrArg Int32.toInt (show fp_5 0 13 = v_10 from ev_10.symm))
          have q_37 : (fp_5 0 14).toInt = v_26.toInt := (congrArg Int32.toInt (show fp_5 0 14 = v_26 from ev_26.symm))
          refine sg_calli (va_runV (As := []) (rest := []) ⟨hx, hb, hml, hown, hts⟩ (kX12_byteAt l D ca za h hh fp_5 L Q hI H.size) (cwV 0 hts (gw_V (fun _ h => List.mem_cons_of_mem _ h) mw_840 mw_841 mw_842 mw_619 mw_839) rfl rfl rfl (by decide +kernel) ⟨Nat.le_of_ble_eq_true rfl, Nat.le_of_ble_eq_true rfl⟩) (sg_preV (ci := 12) (C := RX12) (T := TX12) (N := 55) hA hK hP hS hZ 0 (by decide) rfl rfl) rfl rfl hl.1 rfl (lv_room (Nat.le_of_ble_eq_true rfl)) dX12_sums_31 ⟨Nat.le_refl _, Nat.le_refl _⟩) hA hS (fun r_41 f_38 L_39 Q_40 H locs hq hP hS => ?_)
          obtain ⟨⟨ef9, eL9, eQ9⟩, hq, p_42⟩ := hq
          rw [ef9, eL9, eQ9] at hP; clear ef9 eL9 eQ9
          refine lv_bipush (v := 43) hx hb dX12_sums_34 (by decide) ?_
          refine lv_icmp_ne (tgt := 43) hx hb dX12_sums_36 (by decide) (fun c => ?_) (fun c => ?_)
          · skip
            have c_43 : r_41.toInt ≠ 43 := (by have z := bn_ne c; have k1 : (43 : Int32).toInt = 43 := (by decide); omega)
            refine lv_iconst (v := 0) hx hb dX12_sums_43 (by decide) ?_
            refine lv_istore_n (lv' := [(2, .int 0), (0, .ref (h 0)), (1, .int y1_5)]) hx hb dX12_sums_44 rfl hl (by decide) rfl (fun ls hl => ?_)
            refine lv_aload_n hx hb dX12_sums_45 rfl (lv_at hl 1 rfl) ?_
            refine lv_dup hx hb dX12_sums_46 rfl ?_
            refine sg_get (ci := 12) (v := .int v_10) (C := RX12) (T := TX12) (N := 55) hx hb hts (fun w h => List.mem_cons_of_mem _ (gx_12 w h)) hown hK hP 0 (by decide) rfl rfl 13 (by decide) (hts _ (List.mem_cons_of_mem _ mw_625)) (fun _ h9 => h9) (congrArg (fun z => some (Value.int z)) (show fp_5 0 13 = v_10 from ev_10.symm)) dX12_sums_47 ?_
            refine lv_iconst (v := 1) hx hb dX12_sums_50 (by decide) ?_
            refine lv_iadd hx hb dX12_sums_51 ?_
            refine lv_topi (fun v_45 ev_45 => ?_)
            have q_46 : v_45.toInt = v_10.toInt + 1 := by rw [ev_45]; have k1 : (1 : Int32).toInt = 1 := (by decide); exact (bn_addI (by omega) (by omega)).trans (by omega)
            refine sg_put (ci := 12) (x := v_45) (ty := .int) (C := RX12) (T := TX12) (N := 55) hx hb hts (fun w h => List.mem_cons_of_mem _ (gx_12 w h)) tyX12 tyX12_ok nmX12 hown hh hA hK hP hS 0 (by decide) rfl rfl 13 (by decide) (hts _ (List.mem_cons_of_mem _ mw_625)) (fun _ h9 => h9) rfl rfl (by decide +kernel) rfl rfl (Nat.le_of_ble_eq_true rfl) dX12_sums_52 (fun f_47 H locs ef_47 hP hS => ?_)
            have hI : sgI loM hiM f_47 := by rw [ef_47]; exact sgI.put hI 0 13 (show 0 ≤ (v_45 : Int32).toInt ∧ (v_45 : Int32).toInt ≤ 120 from by omega)
            have hF : sgK WkX12_sums_4 f f_47 := sgK.put hF ef_47 (by rfl)
            refine lv_aload_n hx hb dX12_sums_55 rfl (lv_at hl 1 rfl) ?_
            have q_48 : (f_47 0 16).toInt = v_13.toInt := (congrArg Int32.toInt (show f_47 0 16 = v_13 from (by rw [ef_47, sg_up_s, sgu_n (by decide)]; exact ev_13.symm)))
            have q_49 : (f_47 0 15).toInt = v_16.toInt := (congrArg Int32.toInt (show f_47 0 15 = v_16 from (by rw [ef_47, sg_up_s, sgu_n (by decide)]; exact ev_16.symm)))
            have q_50 : (f_47 0 16).toInt = v_13.toInt := (congrArg Int32.toInt (show f_47 0 16 = v_13 from (by rw [ef_47, sg_up_s, sgu_n (by decide)]; exact ev_13.symm)))
            have q_51 : (f_47 0 13).toInt = v_45.toInt := (congrArg Int32.toInt (show f_47 0 13 = v_45 from (by rw [ef_47, sg_up_s, sgu_s])))
            refine sg_calli (va_runV (As := []) (rest := []) ⟨hx, hb, hml, hown, hts⟩ (kX12_product_4 l D ca za h hh f_47 L Q hI (by omega) (by omega) H.size) (cwV 0 hts (gw_V (fun _ h => List.mem_cons_of_mem _ h) mw_848 mw_849 mw_850 mw_619 mw_847) rfl rfl rfl (by decide +kernel) ⟨Nat.le_of_ble_eq_true rfl, Nat.le_of_ble_eq_true rfl⟩) (sg_preV (ci := 12) (C := RX12) (T := TX12) (N := 55) hA hK hP hS hZ 0 (by decide) rfl rfl) rfl rfl hl.1 rfl (lv_room (Nat.le_of_ble_eq_true rfl)) dX12_sums_56 ⟨Nat.le_refl _, Nat.le_refl _⟩) hA hS (fun r_55 f_52 L_53 Q_54 H locs hq hP hS => ?_)
            obtain ⟨⟨hI, hk_f_52, eL9, eQ9⟩, hq, p_56, p_57, p_58⟩ := hq
            rw [eL9, eQ9] at hP; clear eL9 eQ9
            have hF : sgK WkX12_sums_4 f f_52 := sgK.tr hF hk_f_52 (by decide)
            obtain ⟨v_59, ev_59⟩ : ∃ z : Int32, z = f_52 0 13 := ⟨_, rfl⟩
            have q_60 : 0 ≤ v_59.toInt ∧ v_59.toInt ≤ 120 := by rw [ev_59]; exact hI 0 13
            have q_61 : (f_52 0 13).toInt = v_59.toInt := (congrArg Int32.toInt (show f_52 0 13 = v_59 from ev_59.symm))
            obtain ⟨v_62, ev_62⟩ : ∃ z : Int32, z = f_52 0 16 := ⟨_, rfl⟩
            have q_63 : 0 ≤ v_62.toInt ∧ v_62.toInt ≤ 6 := by rw [ev_62]; exact hI 0 16
            have q_64 : (f_52 0 16).toInt = v_62.toInt := (congrArg Int32.toInt (show f_52 0 16 = v_62 from ev_62.symm))
            obtain ⟨v_65, ev_65⟩ : ∃ z : Int32, z = f_52 0 15 := ⟨_, rfl⟩
            have q_66 : (-1) ≤ v_65.toInt ∧ v_65.toInt ≤ 120 := by rw [ev_65]; exact hI 0 15
            have q_67 : (f_52 0 15).toInt = v_65.toInt := (congrArg Int32.toInt (show f_52 0 15 = v_65 from ev_65.symm))
            have q_68 : (f_52 0 16).toInt = v_62.toInt := (congrArg Int32.toInt (show f_52 0 16 = v_62 from ev_62.symm))
            refine lv_istore_n (lv' := [(3, .int r_55), (2, .int 0), (0, .ref (h 0)), (1, .int y1_5)]) hx hb dX12_sums_59 rfl hl (by decide) rfl (fun ls hl => ?_)
            refine lv_iload_n hx hb dX12_sums_60 rfl (lv_at hl 1 rfl) ?_
            refine lv_if_eq (tgt := 70) hx hb dX12_sums_61 (by decide) (fun c => ?_) (fun c => absurd c (by decide))
            refine lv_iload_n hx hb dX12_sums_70 rfl (lv_at hl 3 rfl) ?_
            refine lv_iload_n hx hb dX12_sums_71 rfl (lv_at hl 0 rfl) ?_
            refine lv_isub hx hb dX12_sums_72 ?_
            refine lv_topi (fun v_69 ev_69 => ?_)
            refine lv_istore_n (lv' := [(1, .int v_69), (3, .int r_55), (2, .int 0), (0, .ref (h 0))]) hx hb dX12_sums_73 rfl hl (by decide) rfl (fun ls hl => ?_)
            refine lv_goto (tgt := 5) hx hb dX12_sums_74 (by decide) ?_
            exact ih_5 v_69 f_52 _ _ _ (by have zz0_13 : (f_52 0 13).toInt = v_59.toInt := (congrArg Int32.toInt (show f_52 0 13 = v_59 from ev_59.symm)); omega) (by have zz0_13 : (f_52 0 13).toInt = v_59.toInt := (congrArg Int32.toInt (show f_52 0 13 = v_59 from ev_59.symm)); omega) (by have zz0_16 : (f_52 0 16).toInt = v_62.toInt := (congrArg Int32.toInt (show f_52 0 16 = v_62 from ev_62.symm)); omega) (by have zz0_15 : (f_52 0 15).toInt = v_65.toInt := (congrArg Int32.toInt (show f_52 0 15 = v_65 from ev_65.symm)); have zz0_16 : (f_52 0 16).toInt = v_62.toInt := (congrArg Int32.toInt (show f_52 0 16 = v_62 from ev_62.symm)); omega) hI hF hP hS (lv_sub hl [3, 0] rfl)
          · skip
            have c_44 : r_41.toInt = 43 := (by have z := Int32.toInt_inj.mpr c; have k1 : (43 : Int32).toInt = 43 := (by decide); omega)
            refine lv_iconst (v := 1) hx hb dX12_sums_39 (by decide) ?_
            refine lv_goto (tgt := 44) hx hb dX12_sums_40 (by decide) ?_
            refine lv_istore_n (lv' := [(2, .int 1), (0, .ref (h 0)), (1, .int y1_5)]) hx hb dX12_sums_44 rfl hl (by decide) rfl (fun ls hl => ?_)
            refine lv_aload_n hx hb dX12_sums_45 rfl (lv_at hl 1 rfl) ?_
            refine lv_dup hx hb dX12_sums_46 rfl ?_
            refine sg_get (ci := 12) (v := .int v_10) (C := RX12) (T := TX12) (N := 55) hx hb hts (fun w h => List.mem_cons_of_mem _ (gx_12 w h)) hown hK hP 0 (by decide) rfl rfl 13 (by decide) (hts _ (List.mem_cons_of_mem _ mw_625)) (fun _ h9 => h9) (congrArg (fun z => some (Value.int z)) (show fp_5 0 13 = v_10 from ev_10.symm)) dX12_sums_47 ?_
            refine lv_iconst (v := 1) hx hb dX12_sums_50 (by decide) ?_
            refine lv_iadd hx hb dX12_sums_51 ?_
            refine lv_topi (fun v_70 ev_70 => ?_)
            have q_71 : v_70.toInt = v_10.toInt + 1 := by rw [ev_70]; have k1 : (1 : Int32).toInt = 1 := (by decide); exact (bn_addI (by omega) (by omega)).trans (by omega)
            refine sg_put (ci := 12) (x := v_70) (ty := .int) (C := RX12) (T := TX12) (N := 55) hx hb hts (fun w h => List.mem_cons_of_mem _ (gx_12 w h)) tyX12 tyX12_ok nmX12 hown hh hA hK hP hS 0 (by decide) rfl rfl 13 (by decide) (hts _ (List.mem_cons_of_mem _ mw_625)) (fun _ h9 => h9) rfl rfl (by decide +kernel) rfl rfl (Nat.le_of_ble_eq_true rfl) dX12_sums_52 (fun f_72 H locs ef_72 hP hS => ?_)
            have hI : sgI loM hiM f_72 := by rw [ef_72]; exact sgI.put hI 0 13 (show 0 ≤ (v_70 : Int32).toInt ∧ (v_70 : Int32).toInt ≤ 120 from by omega)
            have hF : sgK WkX12_sums_4 f f_72 := sgK.put hF ef_72 (by rfl)
            refine lv_aload_n hx hb dX12_sums_55 rfl (lv_at hl 1 rfl) ?_
            have q_73 : (f_72 0 16).toInt = v_13.toInt := (congrArg Int32.toInt (show f_72 0 16 = v_13 from (by rw [ef_72, sg_up_s, sgu_n (by decide)]; exact ev_13.symm)))
            have q_74 : (f_72 0 15).toInt = v_16.toInt := (congrArg Int32.toInt (show f_72 0 15 = v_16 from (by rw [ef_72, sg_up_s, sgu_n (by decide)]; exact ev_16.symm)))
            have q_75 : (f_72 0 16).toInt = v_13.toInt := (congrArg Int32.toInt (show f_72 0 16 = v_13 from (by rw [ef_72, sg_up_s, sgu_n (by decide)]; exact ev_13.symm)))
            have q_76 : (f_72 0 13).toInt = v_70.toInt := (congrArg Int32.toInt (show f_72 0 13 = v_70 from (by rw [ef_72, sg_up_s, sgu_s])))
            refine sg_calli (va_runV (As := []) (rest := []) ⟨hx, hb, hml, hown, hts⟩ (kX12_product_4 l D ca za h hh f_72 L Q hI (by omega) (by omega) H.size) (cwV 0 hts (gw_V (fun _ h => List.mem_cons_of_mem _ h) mw_848 mw_849 mw_850 mw_619 mw_847) rfl rfl rfl (by decide +kernel) ⟨Nat.le_of_ble_eq_true rfl, Nat.le_of_ble_eq_true rfl⟩) (sg_preV (ci := 12) (C := RX12) (T := TX12) (N := 55) hA hK hP hS hZ 0 (by decide) rfl rfl) rfl rfl hl.1 rfl (lv_room (Nat.le_of_ble_eq_true rfl)) dX12_sums_56 ⟨Nat.le_refl _, Nat.le_refl _⟩) hA hS (fun r_80 f_77 L_78 Q_79 H locs hq hP hS => ?_)
            obtain ⟨⟨hI, hk_f_77, eL9, eQ9⟩, hq, p_81, p_82, p_83⟩ := hq
            rw [eL9, eQ9] at hP; clear eL9 eQ9
            have hF : sgK WkX12_sums_4 f f_77 := sgK.tr hF hk_f_77 (by decide)
            obtain ⟨v_84, ev_84⟩ : ∃ z : Int32, z = f_77 0 13 := ⟨_, rfl⟩
            have q_85 : 0 ≤ v_84.toInt ∧ v_84.toInt ≤ 120 := by rw [ev_84]; exact hI 0 13
            have q_86 : (f_77 0 13).toInt = v_84.toInt := (congrArg Int32.toInt (show f_77 0 13 = v_84 from ev_84.symm))
            obtain ⟨v_87, ev_87⟩ : ∃ z : Int32, z = f_77 0 16 := ⟨_, rfl⟩
            have q_88 : 0 ≤ v_87.toInt ∧ v_87.toInt ≤ 6 := by rw [ev_87]; exact hI 0 16
            have q_89 : (f_77 0 16).toInt = v_87.toInt := (congrArg Int32.toInt (show f_77 0 16 = v_87 from ev_87.symm))
            obtain ⟨v_90, ev_90⟩ : ∃ z : Int32, z = f_77 0 15 := ⟨_, rfl⟩
            have q_91 : (-1) ≤ v_90.toInt ∧ v_90.toInt ≤ 120 := by rw [ev_90]; exact hI 0 15
            have q_92 : (f_77 0 15).toInt = v_90.toInt := (congrArg Int32.toInt (show f_77 0 15 = v_90 from ev_90.symm))
            have q_93 : (f_77 0 16).toInt = v_87.toInt := (congrArg Int32.toInt (show f_77 0 16 = v_87 from ev_87.symm))
            refine lv_istore_n (lv' := [(3, .int r_80), (2, .int 1), (0, .ref (h 0)), (1, .int y1_5)]) hx hb dX12_sums_59 rfl hl (by decide) rfl (fun ls hl => ?_)
            refine lv_iload_n hx hb dX12_sums_60 rfl (lv_at hl 1 rfl) ?_
            refine lv_if_eq (tgt := 70) hx hb dX12_sums_61 (by decide) (fun c => absurd c (by decide)) (fun c => ?_)
            refine lv_iload_n hx hb dX12_sums_64 rfl (lv_at hl 3 rfl) ?_
            refine lv_iload_n hx hb dX12_sums_65 rfl (lv_at hl 0 rfl) ?_
            refine lv_iadd hx hb dX12_sums_66 ?_
            refine lv_topi (fun v_94 ev_94 => ?_)
            refine lv_goto (tgt := 73) hx hb dX12_sums_67 (by decide) ?_
            refine lv_istore_n (lv' := [(1, .int v_94), (3, .int r_80), (2, .int 1), (0, .ref (h 0))]) hx hb dX12_sums_73 rfl hl (by decide) rfl (fun ls hl => ?_)
            refine lv_goto (tgt := 5) hx hb dX12_sums_74 (by decide) ?_
            exact ih_5 v_94 f_77 _ _ _ (by have zz0_13 : (f_77 0 13).toInt = v_84.toInt := (congrArg Int32.toInt (show f_77 0 13 = v_84 from ev_84.symm)); omega) (by have zz0_13 : (f_77 0 13).toInt = v_84.toInt := (congrArg Int32.toInt (show f_77 0 13 = v_84 from ev_84.symm)); omega) (by have zz0_16 : (f_77 0 16).toInt = v_87.toInt := (congrArg Int32.toInt (show f_77 0 16 = v_87 from ev_87.symm)); omega) (by have zz0_15 : (f_77 0 15).toInt = v_90.toInt := (congrArg Int32.toInt (show f_77 0 15 = v_90 from ev_90.symm)); have zz0_16 : (f_77 0 16).toInt = v_87.toInt := (congrArg Int32.toInt (show f_77 0 16 = v_87 from ev_87.symm)); omega) hI hF hP hS (lv_sub hl [3, 0] rfl)
        · skip
          have c_35 : r_32.toInt ≠ 43 := (by have z := bn_ne c; have k1 : (43 : Int32).toInt = 43 := (by decide); omega)
          refine lv_aload_n hx hb dX12_sums_21 rfl (lv_at hl 0 rfl) ?_
          have q_95 : (fp_5 0 13).toInt = v_10.toInt := (congrArg Int32.toInt (show fp_5 0 13 = v_10 from ev_10.symm))
          have q_96 : (fp_5 0 14).toInt = v_26.toInt := (congrArg Int32.toInt (show fp_5 0 14 = v_26 from ev_26.symm))
          refine sg_calli (va_runV (As := []) (rest := []) ⟨hx, hb, hml, hown, hts⟩ (kX12_byteAt l D ca za h hh fp_5 L Q hI H.size) (cwV 0 hts (gw_V (fun _ h => List.mem_cons_of_mem _ h) mw_840 mw_841 mw_842 mw_619 mw_839) rfl rfl rfl (by decide +kernel) ⟨Nat.le_of_ble_eq_true rfl, Nat.le_of_ble_eq_true rfl⟩) (sg_preV (ci := 12) (C := RX12) (T := TX12) (N := 55) hA hK hP hS hZ 0 (by decide) rfl rfl) rfl rfl hl.1 rfl (lv_room (Nat.le_of_ble_eq_true rfl)) dX12_sums_22 ⟨Nat.le_refl _, Nat.le_refl _⟩) hA hS (fun r_100 f_97 L_98 Q_99 H locs hq hP hS => ?_)
          obtain ⟨⟨ef9, eL9, eQ9⟩, hq, p_101⟩ := hq
          rw [ef9, eL9, eQ9] at hP; clear ef9 eL9 eQ9
          refine lv_bipush (v := 45) hx hb dX12_sums_25 (by decide) ?_
          refine lv_icmp_ne (tgt := 77) hx hb dX12_sums_27 (by decide) (fun c => ?_) (fun c => ?_)
          · skip
            have c_102 : r_100.toInt ≠ 45 := (by have z := bn_ne c; have k1 : (45 : Int32).toInt = 45 := (by decide); omega)
            refine lv_iload_n hx hb dX12_sums_77 rfl (lv_at hl 1 rfl) ?_
            have q_104 : (fp_5 0 13).toInt = v_10.toInt := (congrArg Int32.toInt (show fp_5 0 13 = v_10 from ev_10.symm))
            have q_105 : (fp_5 0 16).toInt = v_13.toInt := (congrArg Int32.toInt (show fp_5 0 16 = v_13 from ev_13.symm))
            have q_106 : (fp_5 0 15).toInt = v_16.toInt := (congrArg Int32.toInt (show fp_5 0 15 = v_16 from ev_16.symm))
            have q_107 : (fp_5 0 16).toInt = v_13.toInt := (congrArg Int32.toInt (show fp_5 0 16 = v_13 from ev_13.symm))
            exact hret _ _ _ _ (y1_5) fp_5 L Q dX12_sums_78 hP hS ⟨⟨hI, hF, rfl, rfl⟩, trivial, (by omega), (by omega), (by omega)⟩
          · skip
            have c_103 : r_100.toInt = 45 := (by have z := Int32.toInt_inj.mpr c; have k1 : (45 : Int32).toInt = 45 := (by decide); omega)
            refine lv_aload_n hx hb dX12_sums_30 rfl (lv_at hl 0 rfl) ?_
            have q_108 : (fp_5 0 13).toInt = v_10.toInt := (congrArg Int32.toInt (show fp_5 0 13 = v_10 from ev_10.symm))
            have q_109 : (fp_5 0 14).toInt = v_26.toInt := (congrArg Int32.toInt (show fp_5 0 14 = v_26 from ev_26.symm))
            refine sg_calli (va_runV (As := []) (rest := []) ⟨hx, hb, hml, hown, hts⟩ (kX12_byteAt l D ca za h hh fp_5 L Q hI H.size) (cwV 0 hts (gw_V (fun _ h => List.mem_cons_of_mem _ h) mw_840 mw_841 mw_842 mw_619 mw_839) rfl rfl rfl (by decide +kernel) ⟨Nat.le_of_ble_eq_true rfl, Nat.le_of_ble_eq_true rfl⟩) (sg_preV (ci := 12) (C := RX12) (T := TX12) (N := 55) hA hK hP hS hZ 0 (by decide) rfl rfl) rfl rfl hl.1 rfl (lv_room (Nat.le_of_ble_eq_true rfl)) dX12_sums_31 ⟨Nat.le_refl _, Nat.le_refl _⟩) hA hS (fun r_113 f_110 L_111 Q_112 H locs hq hP hS => ?_)
            obtain ⟨⟨ef9, eL9, eQ9⟩, hq, p_114⟩ := hq
            rw [ef9, eL9, eQ9] at hP; clear ef9 eL9 eQ9
            refine lv_bipush (v := 43) hx hb dX12_sums_34 (by decide) ?_
            refine lv_icmp_ne (tgt := 43) hx hb dX12_sums_36 (by decide) (fun c => ?_) (fun c => ?_)
            · skip
              have c_115 : r_113.toInt ≠ 43 := (by have z := bn_ne c; have k1 : (43 : Int32).toInt = 43 := (by decide); omega)
              refine lv_iconst (v := 0) hx hb dX12_sums_43 (by decide) ?_
              refine lv_istore_n (lv' := [(2, .int 0), (0, .ref (h 0)), (1, .int y1_5)]) hx hb dX12_sums_44 rfl hl (by decide) rfl (fun ls hl => ?_)
              refine lv_aload_n hx hb dX12_sums_45 rfl (lv_at hl 1 rfl) ?_
              refine lv_dup hx hb dX12_sums_46 rfl ?_
              refine sg_get (ci := 12) (v := .int v_10) (C := RX12) (T := TX12) (N := 55) hx hb hts (fun w h => List.mem_cons_of_mem _ (gx_12 w h)) hown hK hP 0 (by decide) rfl rfl 13 (by decide) (hts _ (List.mem_cons_of_mem _ mw_625)) (fun _ h9 => h9) (congrArg (fun z => some (Value.int z)) (show fp_5 0 13 = v_10 from ev_10.symm)) dX12_sums_47 ?_
              refine lv_iconst (v := 1) hx hb dX12_sums_50 (by decide) ?_
              refine lv_iadd hx hb dX12_sums_51 ?_
              refine lv_topi (fun v_117 ev_117 => ?_)
              have q_118 : v_117.toInt = v_10.toInt + 1 := by rw [ev_117]; have k1 : (1 : Int32).toInt = 1 := (by decide); exact (bn_addI (by omega) (by omega)).trans (by omega)
              refine sg_put (ci := 12) (x := v_117) (ty := .int) (C := RX12) (T := TX12) (N := 55) hx hb hts (fun w h => List.mem_cons_of_mem _ (gx_12 w h)) tyX12 tyX12_ok nmX12 hown hh hA hK hP hS 0 (by decide) rfl rfl 13 (by decide) (hts _ (List.mem_cons_of_mem _ mw_625)) (fun _ h9 => h9) rfl rfl (by decide +kernel) rfl rfl (Nat.le_of_ble_eq_true rfl) dX12_sums_52 (fun f_119 H locs ef_119 hP hS => ?_)
              have hI : sgI loM hiM f_119 := by rw [ef_119]; exact sgI.put hI 0 13 (show 0 ≤ (v_117 : Int32).toInt ∧ (v_117 : Int32).toInt ≤ 120 from by omega)
              have hF : sgK WkX12_sums_4 f f_119 := sgK.put hF ef_119 (by rfl)
              refine lv_aload_n hx hb dX12_sums_55 rfl (lv_at hl 1 rfl) ?_
              have q_120 : (f_119 0 16).toInt = v_13.toInt := (congrArg Int32.toInt (show f_119 0 16 = v_13 from (by rw [ef_119, sg_up_s, sgu_n (by decide)]; exact ev_13.symm)))
              have q_121 : (f_119 0 15).toInt = v_16.toInt := (congrArg Int32.toInt (show f_119 0 15 = v_16 from (by rw [ef_119, sg_up_s, sgu_n (by decide)]; exact ev_16.symm)))
              have q_122 : (f_119 0 16).toInt = v_13.toInt := (congrArg Int32.toInt (show f_119 0 16 = v_13 from (by rw [ef_119, sg_up_s, sgu_n (by decide)]; exact ev_13.symm)))
              have q_123 : (f_119 0 13).toInt = v_117.toInt := (congrArg Int32.toInt (show f_119 0 13 = v_117 from (by rw [ef_119, sg_up_s, sgu_s])))
              refine sg_calli (va_runV (As := []) (rest := []) ⟨hx, hb, hml, hown, hts⟩ (kX12_product_4 l D ca za h hh f_119 L Q hI (by omega) (by omega) H.size) (cwV 0 hts (gw_V (fun _ h => List.mem_cons_of_mem _ h) mw_848 mw_849 mw_850 mw_619 mw_847) rfl rfl rfl (by decide +kernel) ⟨Nat.le_of_ble_eq_true rfl, Nat.le_of_ble_eq_true rfl⟩) (sg_preV (ci := 12) (C := RX12) (T := TX12) (N := 55) hA hK hP hS hZ 0 (by decide) rfl rfl) rfl rfl hl.1 rfl (lv_room (Nat.le_of_ble_eq_true rfl)) dX12_sums_56 ⟨Nat.le_refl _, Nat.le_refl _⟩) hA hS (fun r_127 f_124 L_125 Q_126 H locs hq hP hS => ?_)
              obtain ⟨⟨hI, hk_f_124, eL9, eQ9⟩, hq, p_128, p_129, p_130⟩ := hq
              rw [eL9, eQ9] at hP; clear eL9 eQ9
              have hF : sgK WkX12_sums_4 f f_124 := sgK.tr hF hk_f_124 (by decide)
              obtain ⟨v_131, ev_131⟩ : ∃ z : Int32, z = f_124 0 13 := ⟨_, rfl⟩
              have q_132 : 0 ≤ v_131.toInt ∧ v_131.toInt ≤ 120 := by rw [ev_131]; exact hI 0 13
              have q_133 : (f_124 0 13).toInt = v_131.toInt := (congrArg Int32.toInt (show f_124 0 13 = v_131 from ev_131.symm))
              obtain ⟨v_134, ev_134⟩ : ∃ z : Int32, z = f_124 0 16 := ⟨_, rfl⟩
              have q_135 : 0 ≤ v_134.toInt ∧ v_134.toInt ≤ 6 := by rw [ev_134]; exact hI 0 16
              have q_136 : (f_124 0 16).toInt = v_134.toInt := (congrArg Int32.toInt (show f_124 0 16 = v_134 from ev_134.symm))
              obtain ⟨v_137, ev_137⟩ : ∃ z : Int32, z = f_124 0 15 := ⟨_, rfl⟩
              have q_138 : (-1) ≤ v_137.toInt ∧ v_137.toInt ≤ 120 := by rw [ev_137]; exact hI 0 15
              have q_139 : (f_124 0 15).toInt = v_137.toInt := (congrArg Int32.toInt (show f_124 0 15 = v_137 from ev_137.symm))
              have q_140 : (f_124 0 16).toInt = v_134.toInt := (congrArg Int32.toInt (show f_124 0 16 = v_134 from ev_134.symm))
              refine lv_istore_n (lv' := [(3, .int r_127), (2, .int 0), (0, .ref (h 0)), (1, .int y1_5)]) hx hb dX12_sums_59 rfl hl (by decide) rfl (fun ls hl => ?_)
              refine lv_iload_n hx hb dX12_sums_60 rfl (lv_at hl 1 rfl) ?_
              refine lv_if_eq (tgt := 70) hx hb dX12_sums_61 (by decide) (fun c => ?_) (fun c => absurd c (by decide))
              refine lv_iload_n hx hb dX12_sums_70 rfl (lv_at hl 3 rfl) ?_
              refine lv_iload_n hx hb dX12_sums_71 rfl (lv_at hl 0 rfl) ?_
              refine lv_isub hx hb dX12_sums_72 ?_
              refine lv_topi (fun v_141 ev_141 => ?_)
              refine lv_istore_n (lv' := [(1, .int v_141), (3, .int r_127), (2, .int 0), (0, .ref (h 0))]) hx hb dX12_sums_73 rfl hl (by decide) rfl (fun ls hl => ?_)
              refine lv_goto (tgt := 5) hx hb dX12_sums_74 (by decide) ?_
              exact ih_5 v_141 f_124 _ _ _ (by have zz0_13 : (f_124 0 13).toInt = v_131.toInt := (congrArg Int32.toInt (show f_124 0 13 = v_131 from ev_131.symm)); omega) (by have zz0_13 : (f_124 0 13).toInt = v_131.toInt := (congrArg Int32.toInt (show f_124 0 13 = v_131 from ev_131.symm)); omega) (by have zz0_16 : (f_124 0 16).toInt = v_134.toInt := (congrArg Int32.toInt (show f_124 0 16 = v_134 from ev_134.symm)); omega) (by have zz0_15 : (f_124 0 15).toInt = v_137.toInt := (congrArg Int32.toInt (show f_124 0 15 = v_137 from ev_137.symm)); have zz0_16 : (f_124 0 16).toInt = v_134.toInt := (congrArg Int32.toInt (show f_124 0 16 = v_134 from ev_134.symm)); omega) hI hF hP hS (lv_sub hl [3, 0] rfl)
            · skip
              have c_116 : r_113.toInt = 43 := (by have z := Int32.toInt_inj.mpr c; have k1 : (43 : Int32).toInt = 43 := (by decide); omega)
              refine lv_iconst (v := 1) hx hb dX12_sums_39 (by decide) ?_
              refine lv_goto (tgt := 44) hx hb dX12_sums_40 (by decide) ?_
              refine lv_istore_n (lv' := [(2, .int 1), (0, .ref (h 0)), (1, .int y1_5)]) hx hb dX12_sums_44 rfl hl (by decide) rfl (fun ls hl => ?_)
              refine lv_aload_n hx hb dX12_sums_45 rfl (lv_at hl 1 rfl) ?_
              refine lv_dup hx hb dX12_sums_46 rfl ?_
              refine sg_get (ci := 12) (v := .int v_10) (C := RX12) (T := TX12) (N := 55) hx hb hts (fun w h => List.mem_cons_of_mem _ (gx_12 w h)) hown hK hP 0 (by decide) rfl rfl 13 (by decide) (hts _ (List.mem_cons_of_mem _ mw_625)) (fun _ h9 => h9) (congrArg (fun z => some (Value.int z)) (show fp_5 0 13 = v_10 from ev_10.symm)) dX12_sums_47 ?_
              refine lv_iconst (v := 1) hx hb dX12_sums_50 (by decide) ?_
              refine lv_iadd hx hb dX12_sums_51 ?_
              refine lv_topi (fun v_142 ev_142 => ?_)
              have q_143 : v_142.toInt = v_10.toInt + 1 := by rw [ev_142]; have k1 : (1 : Int32).toInt = 1 := (by decide); exact (bn_addI (by omega) (by omega)).trans (by omega)
              refine sg_put (ci := 12) (x := v_142) (ty := .int) (C := RX12) (T := TX12) (N := 55) hx hb hts (fun w h => List.mem_cons_of_mem _ (gx_12 w h)) tyX12 tyX12_ok nmX12 hown hh hA hK hP hS 0 (by decide) rfl rfl 13 (by decide) (hts _ (List.mem_cons_of_mem _ mw_625)) (fun _ h9 => h9) rfl rfl (by decide +kernel) rfl rfl (Nat.le_of_ble_eq_true rfl) dX12_sums_52 (fun f_144 H locs ef_144 hP hS => ?_)
              have hI : sgI loM hiM f_144 := by rw [ef_144]; exact sgI.put hI 0 13 (show 0 ≤ (v_142 : Int32).toInt ∧ (v_142 : Int32).toInt ≤ 120 from by omega)
              have hF : sgK WkX12_sums_4 f f_144 := sgK.put hF ef_144 (by rfl)
              refine lv_aload_n hx hb dX12_sums_55 rfl (lv_at hl 1 rfl) ?_
              have q_145 : (f_144 0 16).toInt = v_13.toInt := (congrArg Int32.toInt (show f_144 0 16 = v_13 from (by rw [ef_144, sg_up_s, sgu_n (by decide)]; exact ev_13.symm)))
              have q_146 : (f_144 0 15).toInt = v_16.toInt := (congrArg Int32.toInt (show f_144 0 15 = v_16 from (by rw [ef_144, sg_up_s, sgu_n (by decide)]; exact ev_16.symm)))
              have q_147 : (f_144 0 16).toInt = v_13.toInt := (congrArg Int32.toInt (show f_144 0 16 = v_13 from (by rw [ef_144, sg_up_s, sgu_n (by decide)]; exact ev_13.symm)))
              have q_148 : (f_144 0 13).toInt = v_142.toInt := (congrArg Int32.toInt (show f_144 0 13 = v_142 from (by rw [ef_144, sg_up_s, sgu_s])))
              refine sg_calli (va_runV (As := []) (rest := []) ⟨hx, hb, hml, hown, hts⟩ (kX12_product_4 l D ca za h hh f_144 L Q hI (by omega) (by omega) H.size) (cwV 0 hts (gw_V (fun _ h => List.mem_cons_of_mem _ h) mw_848 mw_849 mw_850 mw_619 mw_847) rfl rfl rfl (by decide +kernel) ⟨Nat.le_of_ble_eq_true rfl, Nat.le_of_ble_eq_true rfl⟩) (sg_preV (ci := 12) (C := RX12) (T := TX12) (N := 55) hA hK hP hS hZ 0 (by decide) rfl rfl) rfl rfl hl.1 rfl (lv_room (Nat.le_of_ble_eq_true rfl)) dX12_sums_56 ⟨Nat.le_refl _, Nat.le_refl _⟩) hA hS (fun r_152 f_149 L_150 Q_151 H locs hq hP hS => ?_)
              obtain ⟨⟨hI, hk_f_149, eL9, eQ9⟩, hq, p_153, p_154, p_155⟩ := hq
              rw [eL9, eQ9] at hP; clear eL9 eQ9
              have hF : sgK WkX12_sums_4 f f_149 := sgK.tr hF hk_f_149 (by decide)
              obtain ⟨v_156, ev_156⟩ : ∃ z : Int32, z = f_149 0 13 := ⟨_, rfl⟩
              have q_157 : 0 ≤ v_156.toInt ∧ v_156.toInt ≤ 120 := by rw [ev_156]; exact hI 0 13
              have q_158 : (f_149 0 13).toInt = v_156.toInt := (congrArg Int32.toInt (show f_149 0 13 = v_156 from ev_156.symm))
              obtain ⟨v_159, ev_159⟩ : ∃ z : Int32, z = f_149 0 16 := ⟨_, rfl⟩
              have q_160 : 0 ≤ v_159.toInt ∧ v_159.toInt ≤ 6 := by rw [ev_159]; exact hI 0 16
              have q_161 : (f_149 0 16).toInt = v_159.toInt := (congrArg Int32.toInt (show f_149 0 16 = v_159 from ev_159.symm))
              obtain ⟨v_162, ev_162⟩ : ∃ z : Int32, z = f_149 0 15 := ⟨_, rfl⟩
              have q_163 : (-1) ≤ v_162.toInt ∧ v_162.toInt ≤ 120 := by rw [ev_162]; exact hI 0 15
              have q_164 : (f_149 0 15).toInt = v_162.toInt := (congrArg Int32.toInt (show f_149 0 15 = v_162 from ev_162.symm))
              have q_165 : (f_149 0 16).toInt = v_159.toInt := (congrArg Int32.toInt (show f_149 0 16 = v_159 from ev_159.symm))
              refine lv_istore_n (lv' := [(3, .int r_152), (2, .int 1), (0, .ref (h 0)), (1, .int y1_5)]) hx hb dX12_sums_59 rfl hl (by decide) rfl (fun ls hl => ?_)
              refine lv_iload_n hx hb dX12_sums_60 rfl (lv_at hl 1 rfl) ?_
              refine lv_if_eq (tgt := 70) hx hb dX12_sums_61 (by decide) (fun c => absurd c (by decide)) (fun c => ?_)
              refine lv_iload_n hx hb dX12_sums_64 rfl (lv_at hl 3 rfl) ?_
              refine lv_iload_n hx hb dX12_sums_65 rfl (lv_at hl 0 rfl) ?_
              refine lv_iadd hx hb dX12_sums_66 ?_
              refine lv_topi (fun v_166 ev_166 => ?_)
              refine lv_goto (tgt := 73) hx hb dX12_sums_67 (by decide) ?_
              refine lv_istore_n (lv' := [(1, .int v_166), (3, .int r_152), (2, .int 1), (0, .ref (h 0))]) hx hb dX12_sums_73 rfl hl (by decide) rfl (fun ls hl => ?_)
              refine lv_goto (tgt := 5) hx hb dX12_sums_74 (by decide) ?_
              exact ih_5 v_166 f_149 _ _ _ (by have zz0_13 : (f_149 0 13).toInt = v_156.toInt := (congrArg Int32.toInt (show f_149 0 13 = v_156 from ev_156.symm)); omega) (by have zz0_13 : (f_149 0 13).toInt = v_156.toInt := (congrArg Int32.toInt (show f_149 0 13 = v_156 from ev_156.symm)); omega) (by have zz0_16 : (f_149 0 16).toInt = v_159.toInt := (congrArg Int32.toInt (show f_149 0 16 = v_159 from ev_159.symm)); omega) (by have zz0_15 : (f_149 0 15).toInt = v_162.toInt := (congrArg Int32.toInt (show f_149 0 15 = v_162 from ev_162.symm)); have zz0_16 : (f_149 0 16).toInt = v_159.toInt := (congrArg Int32.toInt (show f_149 0 16 = v_159 from ev_159.symm)); omega) hI hF hP hS (lv_sub hl [3, 0] rfl)
  refine lv_aload_n hx hb dX12_sums_0 rfl (lv_at hl 0 rfl) ?_
  have q_167 : (f 0 16).toInt = v_1.toInt := (congrArg Int32.toInt (show f 0 16 = v_1 from ev_1.symm))
  have q_168 : (f 0 15).toInt = v_3.toInt := (congrArg Int32.toInt (show f 0 15 = v_3 from ev_3.symm))
  have q_169 : (f 0 16).toInt = v_1.toInt := (congrArg Int32.toInt (show f 0 16 = v_1 from ev_1.symm))
  have q_170 : (f 0 13).toInt = v_5.toInt := (congrArg Int32.toInt (show f 0 13 = v_5 from ev_5.symm))
  refine sg_calli (va_runV (As := []) (rest := []) ⟨hx, hb, hml, hown, hts⟩ (kX12_product_4 l D ca za h hh f L Q hI (by omega) (by omega) H.size) (cwV 0 hts (gw_V (fun _ h => List.mem_cons_of_mem _ h) mw_848 mw_849 mw_850 mw_619 mw_847) rfl rfl rfl (by decide +kernel) ⟨Nat.le_of_ble_eq_true rfl, Nat.le_of_ble_eq_true rfl⟩) (sg_preV (ci := 12) (C := RX12) (T := TX12) (N := 55) hA hK hP hS hZ 0 (by decide) rfl rfl) rfl rfl hl.1 rfl (lv_room (Nat.le_of_ble_eq_true rfl)) dX12_sums_1 ⟨Nat.le_refl _, Nat.le_refl _⟩) hA hS (fun r_174 f_171 L_172 Q_173 H locs hq hP hS => ?_)
  obtain ⟨⟨hI, hk_f_171, eL9, eQ9⟩, hq, p_175, p_176, p_177⟩ := hq
  rw [eL9, eQ9] at hP; clear eL9 eQ9
  have hF : sgK WkX12_sums_4 f f_171 := sgK.tr hF hk_f_171 (by decide)
  obtain ⟨v_178, ev_178⟩ : ∃ z : Int32, z = f_171 0 13 := ⟨_, rfl⟩
  have q_179 : 0 ≤ v_178.toInt ∧ v_178.toInt ≤ 120 := by rw [ev_178]; exact hI 0 13
  have q_180 : (f_171 0 13).toInt = v_178.toInt := (congrArg Int32.toInt (show f_171 0 13 = v_178 from ev_178.symm))
  obtain ⟨v_181, ev_181⟩ : ∃ z : Int32, z = f_171 0 16 := ⟨_, rfl⟩
  have q_182 : 0 ≤ v_181.toInt ∧ v_181.toInt ≤ 6 := by rw [ev_181]; exact hI 0 16
  have q_183 : (f_171 0 16).toInt = v_181.toInt := (congrArg Int32.toInt (show f_171 0 16 = v_181 from ev_181.symm))
  obtain ⟨v_184, ev_184⟩ : ∃ z : Int32, z = f_171 0 15 := ⟨_, rfl⟩
  have q_185 : (-1) ≤ v_184.toInt ∧ v_184.toInt ≤ 120 := by rw [ev_184]; exact hI 0 15
  have q_186 : (f_171 0 15).toInt = v_184.toInt := (congrArg Int32.toInt (show f_171 0 15 = v_184 from ev_184.symm))
  have q_187 : (f_171 0 16).toInt = v_181.toInt := (congrArg Int32.toInt (show f_171 0 16 = v_181 from ev_181.symm))
  refine lv_istore_n (lv' := [(1, .int r_174), (0, .ref (h 0))]) hx hb dX12_sums_4 rfl hl (by decide) rfl (fun ls hl => ?_)
  exact loop_5 121 r_174 f_171 _ _ _ (by have zz0_13 : (f_171 0 13).toInt = v_178.toInt := (congrArg Int32.toInt (show f_171 0 13 = v_178 from ev_178.symm)); omega) (by have zz0_13 : (f_171 0 13).toInt = v_178.toInt := (congrArg Int32.toInt (show f_171 0 13 = v_178 from ev_178.symm)); omega) (by have zz0_16 : (f_171 0 16).toInt = v_181.toInt := (congrArg Int32.toInt (show f_171 0 16 = v_181 from ev_181.symm)); omega) (by have zz0_15 : (f_171 0 15).toInt = v_184.toInt := (congrArg Int32.toInt (show f_171 0 15 = v_184 from ev_184.symm)); have zz0_16 : (f_171 0 16).toInt = v_181.toInt := (congrArg Int32.toInt (show f_171 0 16 = v_181 from ev_181.symm)); omega) hI hF hP hS (lv_sub hl [1, 0] rfl)
