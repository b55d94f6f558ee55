/-! contracts of any state. Laid by a program (wip/tool) -/
set_option maxHeartbeats 4000000 in
set_option maxRecDepth 100000 in
theorem kX3_takenFor (l : Launch) (D : va_G) (ca : Nat → ClassId) (za h : Nat → Nat) (hh : sgH 52 h) (f : sg_F) (L : sg_L) (Q : sg_Q) (hI : sgI loX hiX f) (x0 : Int32) (x1 : Int32) (b0 : 0 ≤ x0.toInt ∧ x0.toInt ≤ 49) (b1 : 0 ≤ x1.toInt ∧ x1.toInt ≤ 7) (sz : Nat) : Met l yX3_takenFor gwX3_takenFor { frames := 0, cells := 0, slots := 0, locals := 0 } (sgP D vwCl (tyX ca) 52 h (eX ca h) zcX za f L Q sz [.ref (h 36), .int x0, .int x1]) (sgQi D vwCl 52 h (eX ca h) sz (fun r f1 L1 Q1 => ((f1 = f ∧ L1 = L ∧ Q1 = Q) ∧ ((-12) ≤ r.toInt ∧ r.toInt ≤ 7)))) 0 0 (sgA 52 h sz) := by
  refine sg_ofWi (cc := cX3_takenFor) (maxL := 5) RX3 (by decide) rfl rfl (Nat.le_of_ble_eq_true rfl) ?_
  intro p e s m below meth cd Qz ls hx hb hml hown hts hK hZ hP hS hl hret
  have hA := sgY.self (n := 52) (h := h) (sz := s.heap.size)
  have hl : lv_has ls 5 [(0, .ref (h 36)), (1, .int x0), (2, .int x1)] := hl
  obtain ⟨H, hH⟩ : ∃ z : Heap, z = s.heap := ⟨_, rfl⟩
  obtain ⟨locs, hlo⟩ : ∃ z : List Loc, z = [] := ⟨_, rfl⟩
  have hP : va_P D vwCl (sgw 52 h (eX ca h) f L Q) H := by rw [hH]; exact hP
  have hS : va_S (sgA 52 h s.heap.size) s.heap H locs := by rw [hH, hlo]; exact hS
  suffices hgo : W p l e ({ frames := 0, cells := 0, slots := 0, locals := 0 }) s m ([.ref (h 36), .int x0, .int x1] : List Value).toArray below meth cd H locs 0 0 Qz (F0 m 0 ls []) by rw [hH, hlo] at hgo; exact hgo
  clear hH hlo
  have loop_10 : ∀ (n_10 : Nat) (y3_10 : Int32) (y4_10 : Int32) (H : Heap) (locs : List Loc) (ls : Array Slot), 8 - y4_10.toInt < (n_10 : Int) → (-1) ≤ y3_10.toInt ∧ y3_10.toInt ≤ 7 → 0 ≤ y4_10.toInt ∧ y4_10.toInt ≤ 8 → va_P D vwCl (sgw 52 h (eX ca h) f L Q) H → va_S (sgA 52 h s.heap.size) s.heap H locs → lv_has ls 5 [(0, .ref (h 36)), (1, .int x0), (2, .int x1), (3, .int y3_10), (4, .int y4_10)] → W p l e ({ frames := 0, cells := 0, slots := 0, locals := 0 }) s m ([.ref (h 36), .int x0, .int x1] : List Value).toArray below meth cd H locs 0 0 Qz (F0 m 10 ls []) := by
    intro n_10
    induction n_10 with
    | zero => intro y3_10 y4_10 H locs ls hm_10 hy0_10 hy1_10 hP hS hl; exact absurd hm_10 (by omega)
    | succ n_10 ih_10 =>
      intro y3_10 y4_10 H locs ls hm_10 hy0_10 hy1_10 hP hS hl
      refine lv_iload hx hb dX3_takenFor_10 (lv_at hl 4 rfl) ?_
      refine lv_bipush (v := 8) hx hb dX3_takenFor_12 (by decide) ?_
      refine lv_icmp_ge (tgt := 45) hx hb dX3_takenFor_14 (by decide) (fun c => ?_) (fun c => ?_)
      · skip
        have c_1 : 8 ≤ y4_10.toInt := (by have z := bn_le c; have k1 : (8 : Int32).toInt = 8 := (by decide); omega)
        refine lv_bipush (v := (-12)) hx hb dX3_takenFor_45 (by decide) ?_
        have k99 : ((-12) : Int32).toInt = (-12) := (by decide)
        exact hret _ _ _ _ (-12) f L Q dX3_takenFor_47 hP hS ⟨⟨rfl, rfl, rfl⟩, (by decide)⟩
      · skip
        have c_2 : y4_10.toInt < 8 := (by have z := bn_nle c; have k1 : (8 : Int32).toInt = 8 := (by decide); omega)
        refine lv_iload_n hx hb dX3_takenFor_17 rfl (lv_at hl 3 rfl) ?_
        refine lv_if_lt (tgt := 45) hx hb dX3_takenFor_18 (by decide) (fun c => ?_) (fun c => ?_)
        · skip
          have c_3 : y3_10.toInt < 0 := (by have z := bn_lt c; have k1 : (0 : Int32).toInt = 0 := (by decide); omega)
          refine lv_bipush (v := (-12)) hx hb dX3_takenFor_45 (by decide) ?_
          have k99 : ((-12) : Int32).toInt = (-12) := (by decide)
          exact hret _ _ _ _ (-12) f L Q dX3_takenFor_47 hP hS ⟨⟨rfl, rfl, rfl⟩, (by decide)⟩
        · skip
          have c_4 : 0 ≤ y3_10.toInt := (by have z := bn_nlt c; have k1 : (0 : Int32).toInt = 0 := (by decide); omega)
          refine lv_iload_n hx hb dX3_takenFor_21 rfl (lv_at hl 3 rfl) ?_
          refine lv_iload_n hx hb dX3_takenFor_22 rfl (lv_at hl 2 rfl) ?_
          refine lv_icmp_ne (tgt := 33) hx hb dX3_takenFor_23 (by decide) (fun c => ?_) (fun c => ?_)
          · skip
            have c_5 : y3_10.toInt ≠ x1.toInt := (by have z := bn_ne c; omega)
            refine sg_gets hx hb hZ 2 rfl hS hown (hts _ (List.mem_cons_of_mem _ mw_174)) (fun _ h9 => h9) dX3_takenFor_33 ?_
            refine lv_iload_n hx hb dX3_takenFor_36 rfl (lv_at hl 3 rfl) ?_
            refine sg_sald hx hb hZ 2 rfl hS (y := y3_10) (N := 8) (vp_in_iff.mpr ⟨by omega, by omega⟩) dX3_takenFor_37 ?_
            refine lv_topi (fun v_7 ev_7 => ?_)
            have q_8 : -1 ≤ v_7.toInt ∧ v_7.toInt ≤ 4 := by rw [ev_7]; exact zABOVE_b (by omega) (by omega)
            refine lv_istore_n (lv' := [(3, .int v_7), (0, .ref (h 36)), (1, .int x0), (2, .int x1), (4, .int y4_10)]) hx hb dX3_takenFor_38 rfl hl (by decide) rfl (fun ls hl => ?_)
            obtain ⟨v_9, ev_9⟩ : ∃ z : Int32, z = y4_10 + 1 := ⟨_, rfl⟩
            have q_10 : v_9.toInt = y4_10.toInt + 1 := by rw [ev_9]; exact (bn_addc y4_10 1 (by decide) (by omega) (by omega))
            refine lv_iinc (v := v_9) (lv' := [(4, .int v_9), (3, .int v_7), (0, .ref (h 36)), (1, .int x0), (2, .int x1)]) hx hb dX3_takenFor_39 hl (k := 4) rfl (by rw [ev_9]; rfl) (by decide) rfl (fun ls hl => ?_)
            refine lv_goto (tgt := 10) hx hb dX3_takenFor_42 (by decide) ?_
            exact ih_10 v_7 v_9 _ _ _ (by omega) (by omega) (by omega) hP hS (lv_sub hl [2, 3, 4, 1, 0] rfl)
          · skip
            have c_6 : y3_10.toInt = x1.toInt := (by have z := Int32.toInt_inj.mpr c; omega)
            refine lv_aload_n hx hb dX3_takenFor_26 rfl (lv_at hl 0 rfl) ?_
            refine sg_get (ci := 3) (v := .ref (h 37)) (C := RX3) (T := TX3) (N := 6) hx hb hts (fun w h => List.mem_cons_of_mem _ (gx_3 w h)) hown hK hP 36 (by decide) rfl rfl 0 (by decide) (hts _ (List.mem_cons_of_mem _ mw_88)) (fun _ h9 => h9) rfl dX3_takenFor_27 ?_
            refine lv_iload_n hx hb dX3_takenFor_30 rfl (lv_at hl 1 rfl) ?_
            refine sg_iald hx hb hK hP 37 (by decide) 0 rfl rfl (i := x0) (vp_in_iff.mpr ⟨by omega, by omega⟩) dX3_takenFor_31 ?_
            refine lv_topi (fun v_11 ev_11 => ?_)
            have q_12 : 0 ≤ v_11.toInt ∧ v_11.toInt ≤ 7 := by rw [ev_11]; exact hI 37 _
            exact hret _ _ _ _ (v_11) f L Q dX3_takenFor_32 hP hS ⟨⟨rfl, rfl, rfl⟩, (by omega)⟩
  refine lv_aload_n hx hb dX3_takenFor_0 rfl (lv_at hl 0 rfl) ?_
  refine sg_get (ci := 3) (v := .ref (h 37)) (C := RX3) (T := TX3) (N := 6) hx hb hts (fun w h => List.mem_cons_of_mem _ (gx_3 w h)) hown hK hP 36 (by decide) rfl rfl 0 (by decide) (hts _ (List.mem_cons_of_mem _ mw_88)) (fun _ h9 => h9) rfl dX3_takenFor_1 ?_
  refine lv_iload_n hx hb dX3_takenFor_4 rfl (lv_at hl 1 rfl) ?_
  refine sg_iald hx hb hK hP 37 (by decide) 0 rfl rfl (i := x0) (vp_in_iff.mpr ⟨by omega, by omega⟩) dX3_takenFor_5 ?_
  refine lv_topi (fun v_13 ev_13 => ?_)
  have q_14 : 0 ≤ v_13.toInt ∧ v_13.toInt ≤ 7 := by rw [ev_13]; exact hI 37 _
  refine lv_istore_n (lv' := [(3, .int v_13), (0, .ref (h 36)), (1, .int x0), (2, .int x1)]) hx hb dX3_takenFor_6 rfl hl (by decide) rfl (fun ls hl => ?_)
  refine lv_iconst (v := 0) hx hb dX3_takenFor_7 (by decide) ?_
  refine lv_istore (lv' := [(4, .int 0), (3, .int v_13), (0, .ref (h 36)), (1, .int x0), (2, .int x1)]) hx hb dX3_takenFor_8 hl (by decide) rfl (fun ls hl => ?_)
  exact loop_10 9 v_13 0 _ _ _ (by have kc1 : (0 : Int32).toInt = 0 := (by decide); omega) (by omega) (by decide) hP hS (lv_sub hl [2, 3, 4, 1, 0] rfl)

set_option maxHeartbeats 4000000 in
set_option maxRecDepth 100000 in
theorem kX11_taken (l : Launch) (D : va_G) (ca : Nat → ClassId) (za h : Nat → Nat) (hh : sgH 52 h) (f : sg_F) (L : sg_L) (Q : sg_Q) (hI : sgI loX hiX f) (hJ : JX f) (x0 : Int32) (x1 : Int32) (sz : Nat) : Met l yX11_taken gwX11_taken { frames := 1, cells := 0, slots := 0, locals := 24 } (sgP D vwCl (tyX ca) 52 h (eX ca h) zcX za f L Q sz [.ref (h 0), .int x0, .int x1]) (sgQi D vwCl 52 h (eX ca h) sz (fun r f1 L1 Q1 => ((f1 = f ∧ L1 = L ∧ Q1 = Q) ∧ ((-12) ≤ r.toInt ∧ r.toInt ≤ 7)))) 0 0 (sgA 52 h sz) := by
  refine sg_ofWi (cc := cX11_taken) (maxL := 4) RX11 (by decide) rfl rfl (Nat.le_of_ble_eq_true rfl) ?_
  intro p e s m below meth cd Qz ls hx hb hml hown hts hK hZ hP hS hl hret
  have hA := sgY.self (n := 52) (h := h) (sz := s.heap.size)
  have hl : lv_has ls 4 [(0, .ref (h 0)), (1, .int x0), (2, .int x1)] := hl
  obtain ⟨H, hH⟩ : ∃ z : Heap, z = s.heap := ⟨_, rfl⟩
  obtain ⟨locs, hlo⟩ : ∃ z : List Loc, z = [] := ⟨_, rfl⟩
  have hP : va_P D vwCl (sgw 52 h (eX ca h) f L Q) H := by rw [hH]; exact hP
  have hS : va_S (sgA 52 h s.heap.size) s.heap H locs := by rw [hH, hlo]; exact hS
  suffices hgo : W p l e ({ frames := 1, cells := 0, slots := 0, locals := 24 }) s m ([.ref (h 0), .int x0, .int x1] : List Value).toArray below meth cd H locs 0 0 Qz (F0 m 0 ls []) by rw [hH, hlo] at hgo; exact hgo
  clear hH hlo
  refine lv_iload_n hx hb dX11_taken_0 rfl (lv_at hl 1 rfl) ?_
  refine sg_calli (va_runS (As := [.int x0]) (rest := []) ⟨hx, hb, hml, hown, hts⟩ (kX11_isShelf l D ca za h hh f L Q hI x0 H.size) (va_cwS 1 hts (gw_S (fun _ h => List.mem_cons_of_mem _ h) mw_35 mw_36 mw_37 mw_34) rfl rfl rfl (by decide +kernel) ⟨Nat.le_of_ble_eq_true rfl, Nat.le_of_ble_eq_true rfl⟩) (sg_preS hA hK hP hS hZ) rfl rfl hl.1 rfl (lv_room (Nat.le_of_ble_eq_true rfl)) dX11_taken_1 ⟨Nat.le_refl _, Nat.le_refl _⟩) hA hS (fun r_4 f_1 L_2 Q_3 H locs hq hP hS => ?_)
  obtain ⟨⟨ef9, eL9, eQ9⟩, hq⟩ := hq
  rw [ef9, eL9, eQ9] at hP; clear ef9 eL9 eQ9
  rcases hq with ⟨rfl, hq⟩ | ⟨rfl, hq⟩
  · skip
    have q_5 := hq
    refine lv_if_eq (tgt := 14) hx hb dX11_taken_4 (by decide) (fun c => absurd c (by decide)) (fun c => ?_)
    refine lv_iload_n hx hb dX11_taken_7 rfl (lv_at hl 2 rfl) ?_
    refine sg_calli (va_runS (As := [.int x1]) (rest := []) ⟨hx, hb, hml, hown, hts⟩ (kX11_isKind l D ca za h hh f L Q hI x1 H.size) (va_cwS 1 hts (gw_S (fun _ h => List.mem_cons_of_mem _ h) mw_39 mw_40 mw_37 mw_38) rfl rfl rfl (by decide +kernel) ⟨Nat.le_of_ble_eq_true rfl, Nat.le_of_ble_eq_true rfl⟩) (sg_preS hA hK hP hS hZ) rfl rfl hl.1 rfl (lv_room (Nat.le_of_ble_eq_true rfl)) dX11_taken_8 ⟨Nat.le_refl _, Nat.le_refl _⟩) hA hS (fun r_9 f_6 L_7 Q_8 H locs hq hP hS => ?_)
    obtain ⟨⟨ef9, eL9, eQ9⟩, hq⟩ := hq
    rw [ef9, eL9, eQ9] at hP; clear ef9 eL9 eQ9
    rcases hq with ⟨rfl, hq⟩ | ⟨rfl, hq⟩
    · skip
      have q_10 := hq
      refine lv_if_ne (tgt := 16) hx hb dX11_taken_11 (by decide) (fun c => ?_) (fun c => absurd c (by decide))
      refine lv_aload_n hx hb dX11_taken_16 rfl (lv_at hl 0 rfl) ?_
      refine sg_get (ci := 11) (v := .ref (h 39)) (C := RX11) (T := TX11) (N := 10) hx hb hts (fun w h => List.mem_cons_of_mem _ (gx_11 w h)) hown hK hP 0 (by decide) rfl rfl 9 (by decide) (hts _ (List.mem_cons_of_mem _ mw_41)) (fun _ h9 => h9) rfl dX11_taken_17 ?_
      refine lv_iload_n hx hb dX11_taken_20 rfl (lv_at hl 1 rfl) ?_
      obtain ⟨t_11, et_11⟩ : ∃ z : Nat, z = x0.toNatClampNeg := ⟨_, rfl⟩
      have ht_t_11 : t_11 < 6 := by rw [et_11]; exact bn_kI (by omega) (by omega)
      refine sg_aald hx hb hK hP 39 (by decide) 3 rfl rfl (i := x0) (a := (h (40 + 2 * t_11))) (vp_in_iff.mpr ⟨by omega, by omega⟩) (show (if x0.toNatClampNeg < 6 then some (h (40 + 2 * x0.toNatClampNeg)) else none) = some (h (40 + 2 * t_11)) from by rw [← et_11, if_pos ht_t_11]) dX11_taken_21 ?_
      refine lv_astore_n (lv' := [(3, .ref (h (40 + 2 * t_11))), (0, .ref (h 0)), (1, .int x0), (2, .int x1)]) hx hb dX11_taken_22 rfl hl (by decide) rfl (fun ls hl => ?_)
      refine lv_aload_n hx hb dX11_taken_23 rfl (lv_at hl 0 rfl) ?_
      refine sg_get (ci := 7) (v := .int (f (40 + 2 * t_11) 1)) (C := RX7) (T := TX7) (N := 4) hx hb hts (fun w h => List.mem_cons_of_mem _ (gx_7 w h)) hown hK hP (40 + 2 * t_11) (by have := ht_t_11; omega) (eX_sh ca h ht_t_11 _ _ _) rfl 1 (by decide) (hts _ (List.mem_cons_of_mem _ mw_42)) (fun _ h9 => h9) rfl dX11_taken_24 ?_
      refine lv_topi (fun v_12 ev_12 => ?_)
      have q_13 : (-2) ≤ v_12.toInt ∧ v_12.toInt ≤ 4 := by rw [ev_12]; exact shb_1 hI ht_t_11
      refine lv_iconst (v := (-1)) hx hb dX11_taken_27 (by decide) ?_
      refine lv_icmp_ne (tgt := 34) hx hb dX11_taken_28 (by decide) (fun c => ?_) (fun c => ?_)
      · skip
        have c_14 : v_12.toInt ≠ (-1) := (by have z := bn_ne c; have k1 : ((-1) : Int32).toInt = (-1) := (by decide); omega)
        refine lv_aload_n hx hb dX11_taken_34 rfl (lv_at hl 0 rfl) ?_
        refine sg_get (ci := 7) (v := .int v_12) (C := RX7) (T := TX7) (N := 4) hx hb hts (fun w h => List.mem_cons_of_mem _ (gx_7 w h)) hown hK hP (40 + 2 * t_11) (by have := ht_t_11; omega) (eX_sh ca h ht_t_11 _ _ _) rfl 1 (by decide) (hts _ (List.mem_cons_of_mem _ mw_42)) (fun _ h9 => h9) (congrArg (fun z => some (Value.int z)) (show f (40 + 2 * t_11) 1 = v_12 from ev_12.symm)) dX11_taken_35 ?_
        refine lv_bipush (v := (-2)) hx hb dX11_taken_38 (by decide) ?_
        refine lv_icmp_ne (tgt := 58) hx hb dX11_taken_40 (by decide) (fun c => ?_) (fun c => ?_)
        · skip
          have c_16 : v_12.toInt ≠ (-2) := (by have z := bn_ne c; have k1 : ((-2) : Int32).toInt = (-2) := (by decide); omega)
          refine lv_bipush (v := (-12)) hx hb dX11_taken_58 (by decide) ?_
          have k99 : ((-12) : Int32).toInt = (-12) := (by decide)
          exact hret _ _ _ _ (-12) f L Q dX11_taken_60 hP hS ⟨⟨rfl, rfl, rfl⟩, (by decide)⟩
        · skip
          have c_17 : v_12.toInt = (-2) := (by have z := Int32.toInt_inj.mpr c; have k1 : ((-2) : Int32).toInt = (-2) := (by decide); omega)
          refine lv_aload_n hx hb dX11_taken_43 rfl (lv_at hl 1 rfl) ?_
          refine sg_get (ci := 11) (v := .ref (h 36)) (C := RX11) (T := TX11) (N := 10) hx hb hts (fun w h => List.mem_cons_of_mem _ (gx_11 w h)) hown hK hP 0 (by decide) rfl rfl 8 (by decide) (hts _ (List.mem_cons_of_mem _ mw_7)) (fun _ h9 => h9) rfl dX11_taken_44 ?_
          refine lv_aload_n hx hb dX11_taken_47 rfl (lv_at hl 0 rfl) ?_
          refine sg_get (ci := 7) (v := .int (f (40 + 2 * t_11) 3)) (C := RX7) (T := TX7) (N := 4) hx hb hts (fun w h => List.mem_cons_of_mem _ (gx_7 w h)) hown hK hP (40 + 2 * t_11) (by have := ht_t_11; omega) (eX_sh ca h ht_t_11 _ _ _) rfl 3 (by decide) (hts _ (List.mem_cons_of_mem _ mw_210)) (fun _ h9 => h9) rfl dX11_taken_48 ?_
          refine lv_topi (fun v_18 ev_18 => ?_)
          have q_19 : (-1) ≤ v_18.toInt ∧ v_18.toInt ≤ 49 := by rw [ev_18]; exact shb_3 hI ht_t_11
          refine lv_iload_n hx hb dX11_taken_51 rfl (lv_at hl 3 rfl) ?_
          have z_20 : (f (40 + 2 * t_11) 1).toInt = v_12.toInt := congrArg Int32.toInt (show f (40 + 2 * t_11) 1 = v_12 from ev_12.symm)
          have z_21 : (f (40 + 2 * t_11) 3).toInt = v_18.toInt := congrArg Int32.toInt (show f (40 + 2 * t_11) 3 = v_18 from ev_18.symm)
          have zJ := hJ.2 t_11 ht_t_11
          refine sg_calli (va_runV (As := [.int v_18, .int x1]) (rest := []) ⟨hx, hb, hml, hown, hts⟩ (kX3_takenFor l D ca za h hh f L Q hI v_18 x1 (by omega) (by omega) H.size) (cwV 2 hts (gw_V (fun _ h => List.mem_cons_of_mem _ h) mw_322 mw_323 mw_324 mw_47 mw_321) rfl rfl rfl (by decide +kernel) ⟨Nat.le_of_ble_eq_true rfl, Nat.le_of_ble_eq_true rfl⟩) (sg_preV (ci := 3) (C := RX3) (T := TX3) (N := 6) hA hK hP hS hZ 36 (by decide) rfl rfl) rfl rfl hl.1 rfl (lv_room (Nat.le_of_ble_eq_true rfl)) dX11_taken_52 ⟨Nat.le_refl _, Nat.le_refl _⟩) hA hS (fun r_25 f_22 L_23 Q_24 H locs hq hP hS => ?_)
          obtain ⟨⟨ef9, eL9, eQ9⟩, hq⟩ := hq
          rw [ef9, eL9, eQ9] at hP; clear ef9 eL9 eQ9
          refine lv_goto (tgt := 60) hx hb dX11_taken_55 (by decide) ?_
          exact hret _ _ _ _ (r_25) f L Q dX11_taken_60 hP hS ⟨⟨rfl, rfl, rfl⟩, (by omega)⟩
      · skip
        have c_15 : v_12.toInt = (-1) := (by have z := Int32.toInt_inj.mpr c; have k1 : ((-1) : Int32).toInt = (-1) := (by decide); omega)
        refine lv_bipush (v := (-11)) hx hb dX11_taken_31 (by decide) ?_
        have k99 : ((-11) : Int32).toInt = (-11) := (by decide)
        exact hret _ _ _ _ (-11) f L Q dX11_taken_33 hP hS ⟨⟨rfl, rfl, rfl⟩, (by decide)⟩
    · skip
      have q_26 := hq
      refine lv_if_ne (tgt := 16) hx hb dX11_taken_11 (by decide) (fun c => absurd c (by decide)) (fun c => ?_)
      refine lv_iconst (v := (-1)) hx hb dX11_taken_14 (by decide) ?_
      have k99 : ((-1) : Int32).toInt = (-1) := (by decide)
      exact hret _ _ _ _ (-1) f L Q dX11_taken_15 hP hS ⟨⟨rfl, rfl, rfl⟩, (by decide)⟩
  · skip
    have q_27 := hq
    refine lv_if_eq (tgt := 14) hx hb dX11_taken_4 (by decide) (fun c => ?_) (fun c => absurd c (by decide))
    refine lv_iconst (v := (-1)) hx hb dX11_taken_14 (by decide) ?_
    have k99 : ((-1) : Int32).toInt = (-1) := (by decide)
    exact hret _ _ _ _ (-1) f L Q dX11_taken_15 hP hS ⟨⟨rfl, rfl, rfl⟩, (by decide)⟩

set_option maxHeartbeats 4000000 in
set_option maxRecDepth 100000 in
theorem kX11_count (l : Launch) (D : va_G) (ca : Nat → ClassId) (za h : Nat → Nat) (hh : sgH 52 h) (f : sg_F) (L : sg_L) (Q : sg_Q) (hI : sgI loX hiX f) (x0 : Int32) (sz : Nat) : Met l yX11_count gwX11_count { frames := 0, cells := 0, slots := 0, locals := 0 } (sgP D vwCl (tyX ca) 52 h (eX ca h) zcX za f L Q sz [.ref (h 0), .int x0]) (sgQi D vwCl 52 h (eX ca h) sz (fun r f1 L1 Q1 => ((f1 = f ∧ L1 = L ∧ Q1 = Q) ∧ ((-1) ≤ r.toInt ∧ r.toInt ≤ 120)))) 0 0 (sgA 52 h sz) := by
  refine sg_ofWi (cc := cX11_count) (maxL := 2) RX11 (by decide) rfl rfl (Nat.le_of_ble_eq_true rfl) ?_
  intro p e s m below meth cd Qz ls hx hb hml hown hts hK hZ hP hS hl hret
  have hA := sgY.self (n := 52) (h := h) (sz := s.heap.size)
  have hl : lv_has ls 2 [(0, .ref (h 0)), (1, .int x0)] := hl
  obtain ⟨H, hH⟩ : ∃ z : Heap, z = s.heap := ⟨_, rfl⟩
  obtain ⟨locs, hlo⟩ : ∃ z : List Loc, z = [] := ⟨_, rfl⟩
  have hP : va_P D vwCl (sgw 52 h (eX ca h) f L Q) H := by rw [hH]; exact hP
  have hS : va_S (sgA 52 h s.heap.size) s.heap H locs := by rw [hH, hlo]; exact hS
  suffices hgo : W p l e ({ frames := 0, cells := 0, slots := 0, locals := 0 }) s m ([.ref (h 0), .int x0] : List Value).toArray below meth cd H locs 0 0 Qz (F0 m 0 ls []) by rw [hH, hlo] at hgo; exact hgo
  clear hH hlo
  refine lv_iload_n hx hb dX11_count_0 rfl (lv_at hl 1 rfl) ?_
  rcases (show (x0.toInt ≠ 0 ∧ x0.toInt ≠ 1 ∧ x0.toInt ≠ 2 ∧ x0.toInt ≠ 3 ∧ x0.toInt ≠ 4) ∨ x0.toInt = 0 ∨ x0.toInt = 1 ∨ x0.toInt = 2 ∨ x0.toInt = 3 ∨ x0.toInt = 4 from by omega) with c | c | c | c | c | c
  · skip
    refine lv_tableOut (x := x0) (tgt := 79) hx hb dX11_count_1 (by omega) (by decide) ?_
    refine lv_iconst (v := (-1)) hx hb dX11_count_79 (by decide) ?_
    have k99 : ((-1) : Int32).toInt = (-1) := (by decide)
    exact hret _ _ _ _ (-1) f L Q dX11_count_80 hP hS ⟨⟨rfl, rfl, rfl⟩, (by decide)⟩
  · skip
    have c_1 := c
    refine lv_tableIn (x := x0) (tgt := 36) hx hb dX11_count_1 (by omega) (by omega) (by rw [c]; rfl) (by decide) ?_
    refine lv_aload_n hx hb dX11_count_36 rfl (lv_at hl 0 rfl) ?_
    refine sg_get (ci := 11) (v := .ref (h 1)) (C := RX11) (T := TX11) (N := 10) hx hb hts (fun w h => List.mem_cons_of_mem _ (gx_11 w h)) hown hK hP 0 (by decide) rfl rfl 0 (by decide) (hts _ (List.mem_cons_of_mem _ mw_0)) (fun _ h9 => h9) rfl dX11_count_37 ?_
    refine sg_get (ci := 0) (v := .int (f 1 3)) (C := RX0) (T := TX0) (N := 5) hx hb hts (fun w h => List.mem_cons_of_mem _ (gx_0 w h)) hown hK hP 1 (by decide) rfl rfl 3 (by decide) (hts _ (List.mem_cons_of_mem _ mw_13)) (fun _ h9 => h9) rfl dX11_count_40 ?_
    refine lv_topi (fun v_2 ev_2 => ?_)
    have q_3 : 0 ≤ v_2.toInt ∧ v_2.toInt ≤ 8 := by rw [ev_2]; exact hI 1 3
    exact hret _ _ _ _ (v_2) f L Q dX11_count_43 hP hS ⟨⟨rfl, rfl, rfl⟩, (by omega)⟩
  · skip
    have c_4 := c
    refine lv_tableIn (x := x0) (tgt := 44) hx hb dX11_count_1 (by omega) (by omega) (by rw [c]; rfl) (by decide) ?_
    refine lv_aload_n hx hb dX11_count_44 rfl (lv_at hl 0 rfl) ?_
    refine sg_get (ci := 11) (v := .ref (h 1)) (C := RX11) (T := TX11) (N := 10) hx hb hts (fun w h => List.mem_cons_of_mem _ (gx_11 w h)) hown hK hP 0 (by decide) rfl rfl 0 (by decide) (hts _ (List.mem_cons_of_mem _ mw_0)) (fun _ h9 => h9) rfl dX11_count_45 ?_
    refine sg_get (ci := 0) (v := .ref (h 4)) (C := RX0) (T := TX0) (N := 5) hx hb hts (fun w h => List.mem_cons_of_mem _ (gx_0 w h)) hown hK hP 1 (by decide) rfl rfl 2 (by decide) (hts _ (List.mem_cons_of_mem _ mw_1)) (fun _ h9 => h9) rfl dX11_count_48 ?_
    refine sg_get (ci := 5) (v := .int (f 4 1)) (C := RX5) (T := TX5) (N := 10) hx hb hts (fun w h => List.mem_cons_of_mem _ (gx_5 w h)) hown hK hP 4 (by decide) rfl rfl 1 (by decide) (hts _ (List.mem_cons_of_mem _ mw_14)) (fun _ h9 => h9) rfl dX11_count_51 ?_
    refine lv_topi (fun v_5 ev_5 => ?_)
    have q_6 : 0 ≤ v_5.toInt ∧ v_5.toInt ≤ 120 := by rw [ev_5]; exact hI 4 1
    exact hret _ _ _ _ (v_5) f L Q dX11_count_54 hP hS ⟨⟨rfl, rfl, rfl⟩, (by omega)⟩
  · skip
    have c_7 := c
    refine lv_tableIn (x := x0) (tgt := 55) hx hb dX11_count_1 (by omega) (by omega) (by rw [c]; rfl) (by decide) ?_
    refine lv_aload_n hx hb dX11_count_55 rfl (lv_at hl 0 rfl) ?_
    refine sg_get (ci := 11) (v := .ref (h 32)) (C := RX11) (T := TX11) (N := 10) hx hb hts (fun w h => List.mem_cons_of_mem _ (gx_11 w h)) hown hK hP 0 (by decide) rfl rfl 7 (by decide) (hts _ (List.mem_cons_of_mem _ mw_4)) (fun _ h9 => h9) rfl dX11_count_56 ?_
    refine sg_get (ci := 1) (v := .int (f 32 3)) (C := RX1) (T := TX1) (N := 5) hx hb hts (fun w h => List.mem_cons_of_mem _ (gx_1 w h)) hown hK hP 32 (by decide) rfl rfl 3 (by decide) (hts _ (List.mem_cons_of_mem _ mw_5)) (fun _ h9 => h9) rfl dX11_count_59 ?_
    refine lv_topi (fun v_8 ev_8 => ?_)
    have q_9 : 0 ≤ v_8.toInt ∧ v_8.toInt ≤ 40 := by rw [ev_8]; exact hI 32 3
    exact hret _ _ _ _ (v_8) f L Q dX11_count_62 hP hS ⟨⟨rfl, rfl, rfl⟩, (by omega)⟩
  · skip
    have c_10 := c
    refine lv_tableIn (x := x0) (tgt := 63) hx hb dX11_count_1 (by omega) (by omega) (by rw [c]; rfl) (by decide) ?_
    refine lv_aload_n hx hb dX11_count_63 rfl (lv_at hl 0 rfl) ?_
    refine sg_get (ci := 11) (v := .ref (h 36)) (C := RX11) (T := TX11) (N := 10) hx hb hts (fun w h => List.mem_cons_of_mem _ (gx_11 w h)) hown hK hP 0 (by decide) rfl rfl 8 (by decide) (hts _ (List.mem_cons_of_mem _ mw_7)) (fun _ h9 => h9) rfl dX11_count_64 ?_
    refine sg_get (ci := 3) (v := .int (f 36 2)) (C := RX3) (T := TX3) (N := 6) hx hb hts (fun w h => List.mem_cons_of_mem _ (gx_3 w h)) hown hK hP 36 (by decide) rfl rfl 2 (by decide) (hts _ (List.mem_cons_of_mem _ mw_15)) (fun _ h9 => h9) rfl dX11_count_67 ?_
    refine lv_topi (fun v_11 ev_11 => ?_)
    have q_12 : 0 ≤ v_11.toInt ∧ v_11.toInt ≤ 50 := by rw [ev_11]; exact hI 36 2
    exact hret _ _ _ _ (v_11) f L Q dX11_count_70 hP hS ⟨⟨rfl, rfl, rfl⟩, (by omega)⟩
  · skip
    have c_13 := c
    refine lv_tableIn (x := x0) (tgt := 71) hx hb dX11_count_1 (by omega) (by omega) (by rw [c]; rfl) (by decide) ?_
    refine lv_aload_n hx hb dX11_count_71 rfl (lv_at hl 0 rfl) ?_
    refine sg_get (ci := 11) (v := .ref (h 36)) (C := RX11) (T := TX11) (N := 10) hx hb hts (fun w h => List.mem_cons_of_mem _ (gx_11 w h)) hown hK hP 0 (by decide) rfl rfl 8 (by decide) (hts _ (List.mem_cons_of_mem _ mw_7)) (fun _ h9 => h9) rfl dX11_count_72 ?_
    refine sg_get (ci := 3) (v := .int (f 36 3)) (C := RX3) (T := TX3) (N := 6) hx hb hts (fun w h => List.mem_cons_of_mem _ (gx_3 w h)) hown hK hP 36 (by decide) rfl rfl 3 (by decide) (hts _ (List.mem_cons_of_mem _ mw_8)) (fun _ h9 => h9) rfl dX11_count_75 ?_
    refine lv_topi (fun v_14 ev_14 => ?_)
    have q_15 : 0 ≤ v_14.toInt ∧ v_14.toInt ≤ 19 := by rw [ev_14]; exact hI 36 3
    exact hret _ _ _ _ (v_14) f L Q dX11_count_78 hP hS ⟨⟨rfl, rfl, rfl⟩, (by omega)⟩
