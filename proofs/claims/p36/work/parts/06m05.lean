/-! contracts of any state. Laid by a program (wip/tool) -/
abbrev WkX12_night : List (Nat × Nat × Option Nat) := [(5, 5, none)]
set_option maxHeartbeats 4000000 in
set_option maxRecDepth 100000 in
theorem kX12_night (l : Launch) (D : va_G) (ca : Nat → ClassId) (za h : Nat → Nat) (hh : sgH 26 h) (f : sg_F) (L : sg_L) (Q : sg_Q) (hI : sgI loM hiM f) (sz : Nat) : Met l yX12_night gwX12_night { frames := 1, cells := 0, slots := 0, locals := 23 } (sgP D vwCl (tyX ca) 26 h (eM ca h) zcM za f L Q sz [.ref (h 0)]) (sgQi D vwCl 26 h (eM ca h) sz (fun r f1 L1 Q1 => ((sgI loM hiM f1 ∧ sgK WkX12_night f f1 ∧ L1 = L ∧ Q1 = Q) ∧ True))) 0 0 (sgA 26 h sz) := by
  refine sg_ofWi (cc := cX12_night) (maxL := 4) RX12 (by decide) rfl rfl (Nat.le_of_ble_eq_true rfl) ?_
  intro p e s m below meth cd Qz ls hx hb hml hown hts hK hZ hP hS hl hret
  have hA := sgY.self (n := 26) (h := h) (sz := s.heap.size)
  have hl : lv_has ls 4 [(0, .ref (h 0))] := hl
  obtain ⟨H, hH⟩ : ∃ z : Heap, z = s.heap := ⟨_, rfl⟩
  obtain ⟨locs, hlo⟩ : ∃ z : List Loc, z = [] := ⟨_, rfl⟩
  have hP : va_P D vwCl (sgw 26 h (eM ca h) f L Q) H := by rw [hH]; exact hP
  have hS : va_S (sgA 26 h s.heap.size) s.heap H locs := by rw [hH, hlo]; exact hS
  suffices hgo : W p l e ({ frames := 1, cells := 0, slots := 0, locals := 23 }) s m ([.ref (h 0)] : List Value).toArray below meth cd H locs 0 0 Qz (F0 m 0 ls []) by rw [hH, hlo] at hgo; exact hgo
  clear hH hlo
  have hF : sgK WkX12_night f f := sgK.rf
  have loop_4 : ∀ (n_4 : Nat) (y1_4 : Int32) (y2_4 : Int32) (fp_4 : sg_F) (H : Heap) (locs : List Loc) (ls : Array Slot), 3 - y2_4.toInt < (n_4 : Int) → 0 ≤ y2_4.toInt ∧ y2_4.toInt ≤ 3 → sgI loM hiM fp_4 → sgK WkX12_night f fp_4 → va_P D vwCl (sgw 26 h (eM ca h) fp_4 L Q) H → va_S (sgA 26 h s.heap.size) s.heap H locs → lv_has ls 4 [(0, .ref (h 0)), (1, .int y1_4), (2, .int y2_4)] → W p l e ({ frames := 1, cells := 0, slots := 0, locals := 23 }) s m ([.ref (h 0)] : List Value).toArray below meth cd H locs 0 0 Qz (F0 m 4 ls []) := by
    intro n_4
    induction n_4 with
    | zero => intro y1_4 y2_4 fp_4 H locs ls hm_4 hy0_4 hI hF hP hS hl; exact absurd hm_4 (by omega)
    | succ n_4 ih_4 =>
      intro y1_4 y2_4 fp_4 H locs ls hm_4 hy0_4 hI hF hP hS hl
      refine lv_iload_n hx hb dX12_night_4 rfl (lv_at hl 2 rfl) ?_
      refine lv_iconst (v := 3) hx hb dX12_night_5 (by decide) ?_
      refine lv_icmp_ge (tgt := 52) hx hb dX12_night_6 (by decide) (fun c => ?_) (fun c => ?_)
      · skip
        have c_1 : 3 ≤ y2_4.toInt := (by have z := bn_le c; have k1 : (3 : Int32).toInt = 3 := (by decide); omega)
        refine lv_iload_n hx hb dX12_night_52 rfl (lv_at hl 1 rfl) ?_
        exact hret _ _ _ _ (y1_4) fp_4 L Q dX12_night_53 hP hS ⟨⟨hI, hF, rfl, rfl⟩, trivial⟩
      · skip
        have c_2 : y2_4.toInt < 3 := (by have z := bn_nle c; have k1 : (3 : Int32).toInt = 3 := (by decide); omega)
        refine lv_aload_n hx hb dX12_night_9 rfl (lv_at hl 0 rfl) ?_
        refine lv_iload_n hx hb dX12_night_10 rfl (lv_at hl 2 rfl) ?_
        refine lv_aload_n hx hb dX12_night_11 rfl (lv_at hl 0 rfl) ?_
        refine sg_get (ci := 12) (v := .ref (h 5)) (C := RX12) (T := TX12) (N := 55) hx hb hts (fun w h => List.mem_cons_of_mem _ (gx_12 w h)) hown hK hP 0 (by decide) rfl rfl 7 (by decide) (hts _ (List.mem_cons_of_mem _ mw_607)) (fun _ h9 => h9) rfl dX12_night_12 ?_
        refine lv_iload_n hx hb dX12_night_15 rfl (lv_at hl 2 rfl) ?_
        refine sg_iald hx hb hK hP 5 (by decide) 0 rfl rfl (i := y2_4) (vp_in_iff.mpr ⟨by omega, by omega⟩) dX12_night_16 ?_
        refine lv_topi (fun v_3 ev_3 => ?_)
        have q_4 : 0 ≤ v_3.toInt ∧ v_3.toInt ≤ 60 := by rw [ev_3]; exact hI 5 _
        refine sg_calli (va_runV (As := [.int y2_4, .int v_3]) (rest := []) ⟨hx, hb, hml, hown, hts⟩ (kX12_slipped l D ca za h hh fp_4 L Q hI y2_4 v_3 (by omega) (by omega) H.size) (cwV 2 hts (gw_V (fun _ h => List.mem_cons_of_mem _ h) mw_649 mw_650 mw_651 mw_619 mw_648) rfl rfl rfl (by decide +kernel) ⟨Nat.le_of_ble_eq_true rfl, Nat.le_of_ble_eq_true rfl⟩) (sg_preV (ci := 12) (C := RX12) (T := TX12) (N := 55) hA hK hP hS hZ 0 (by decide) rfl rfl) rfl rfl hl.1 rfl (lv_room (Nat.le_of_ble_eq_true rfl)) dX12_night_17 ⟨Nat.le_refl _, Nat.le_refl _⟩) hA hS (fun r_8 f_5 L_6 Q_7 H locs hq hP hS => ?_)
        obtain ⟨⟨ef9, eL9, eQ9⟩, hq⟩ := hq
        rw [ef9, eL9, eQ9] at hP; clear ef9 eL9 eQ9
        refine lv_istore_n (lv' := [(3, .int r_8), (0, .ref (h 0)), (1, .int y1_4), (2, .int y2_4)]) hx hb dX12_night_20 rfl hl (by decide) rfl (fun ls hl => ?_)
        refine lv_iload_n hx hb dX12_night_21 rfl (lv_at hl 2 rfl) ?_
        refine lv_iload_n hx hb dX12_night_22 rfl (lv_at hl 0 rfl) ?_
        refine lv_aload_n hx hb dX12_night_23 rfl (lv_at hl 1 rfl) ?_
        refine sg_get (ci := 12) (v := .ref (h 5)) (C := RX12) (T := TX12) (N := 55) hx hb hts (fun w h => List.mem_cons_of_mem _ (gx_12 w h)) hown hK hP 0 (by decide) rfl rfl 7 (by decide) (hts _ (List.mem_cons_of_mem _ mw_607)) (fun _ h9 => h9) rfl dX12_night_24 ?_
        refine lv_iload_n hx hb dX12_night_27 rfl (lv_at hl 3 rfl) ?_
        refine sg_iald hx hb hK hP 5 (by decide) 0 rfl rfl (i := y2_4) (vp_in_iff.mpr ⟨by omega, by omega⟩) dX12_night_28 ?_
        rw [← ev_3]
        refine lv_icmp_ge (tgt := 36) hx hb dX12_night_29 (by decide) (fun c => ?_) (fun c => ?_)
        · skip
          have c_9 : v_3.toInt ≤ r_8.toInt := (by have z := bn_le c; omega)
          refine lv_iconst (v := 0) hx hb dX12_night_36 (by decide) ?_
          refine lv_iadd hx hb dX12_night_37 ?_
          refine W.eq (g2 := F0 m 38 ls [.int y1_4]) (by rw [Int32.add_zero]) ?_
          refine lv_istore_n (lv' := [(1, .int y1_4), (3, .int r_8), (0, .ref (h 0)), (2, .int y2_4)]) hx hb dX12_night_38 rfl hl (by decide) rfl (fun ls hl => ?_)
          refine lv_aload_n hx hb dX12_night_39 rfl (lv_at hl 2 rfl) ?_
          refine sg_get (ci := 12) (v := .ref (h 5)) (C := RX12) (T := TX12) (N := 55) hx hb hts (fun w h => List.mem_cons_of_mem _ (gx_12 w h)) hown hK hP 0 (by decide) rfl rfl 7 (by decide) (hts _ (List.mem_cons_of_mem _ mw_607)) (fun _ h9 => h9) rfl dX12_night_40 ?_
          refine lv_iload_n hx hb dX12_night_43 rfl (lv_at hl 3 rfl) ?_
          refine lv_iload_n hx hb dX12_night_44 rfl (lv_at hl 1 rfl) ?_
          refine sg_iast hx hb hh hA hK hP hS 5 (by decide) 0 (fun _ => rfl) rfl (i := y2_4) (x := r_8) (vp_in_iff.mpr ⟨by omega, by omega⟩) dX12_night_45 (fun f_11 H locs ef_11 hP hS => ?_)
          have hI : sgI loM hiM f_11 := by rw [ef_11]; exact sgI.put hI 5 y2_4.toNatClampNeg (show 0 ≤ (r_8 : Int32).toInt ∧ (r_8 : Int32).toInt ≤ 60 from by omega)
          have hF : sgK WkX12_night f f_11 := sgK.put hF ef_11 (by rfl)
          obtain ⟨v_12, ev_12⟩ : ∃ z : Int32, z = y2_4 + 1 := ⟨_, rfl⟩
          have q_13 : v_12.toInt = y2_4.toInt + 1 := by rw [ev_12]; exact (bn_addc y2_4 1 (by decide) (by omega) (by omega))
          refine lv_iinc (v := v_12) (lv' := [(2, .int v_12), (1, .int y1_4), (3, .int r_8), (0, .ref (h 0))]) hx hb dX12_night_46 hl (k := 3) rfl (by rw [ev_12]; rfl) (by decide) rfl (fun ls hl => ?_)
          refine lv_goto (tgt := 4) hx hb dX12_night_49 (by decide) ?_
          exact ih_4 y1_4 v_12 f_11 _ _ _ (by omega) (by omega) hI hF hP hS (lv_sub hl [3, 1, 0] rfl)
        · skip
          have c_10 : r_8.toInt < v_3.toInt := (by have z := bn_nle c; omega)
          refine lv_iconst (v := 1) hx hb dX12_night_32 (by decide) ?_
          refine lv_goto (tgt := 37) hx hb dX12_night_33 (by decide) ?_
          refine lv_iadd hx hb dX12_night_37 ?_
          refine lv_topi (fun v_14 ev_14 => ?_)
          refine lv_istore_n (lv' := [(1, .int v_14), (3, .int r_8), (0, .ref (h 0)), (2, .int y2_4)]) hx hb dX12_night_38 rfl hl (by decide) rfl (fun ls hl => ?_)
          refine lv_aload_n hx hb dX12_night_39 rfl (lv_at hl 2 rfl) ?_
          refine sg_get (ci := 12) (v := .ref (h 5)) (C := RX12) (T := TX12) (N := 55) hx hb hts (fun w h => List.mem_cons_of_mem _ (gx_12 w h)) hown hK hP 0 (by decide) rfl rfl 7 (by decide) (hts _ (List.mem_cons_of_mem _ mw_607)) (fun _ h9 => h9) rfl dX12_night_40 ?_
          refine lv_iload_n hx hb dX12_night_43 rfl (lv_at hl 3 rfl) ?_
          refine lv_iload_n hx hb dX12_night_44 rfl (lv_at hl 1 rfl) ?_
          refine sg_iast hx hb hh hA hK hP hS 5 (by decide) 0 (fun _ => rfl) rfl (i := y2_4) (x := r_8) (vp_in_iff.mpr ⟨by omega, by omega⟩) dX12_night_45 (fun f_15 H locs ef_15 hP hS => ?_)
          have hI : sgI loM hiM f_15 := by rw [ef_15]; exact sgI.put hI 5 y2_4.toNatClampNeg (show 0 ≤ (r_8 : Int32).toInt ∧ (r_8 : Int32).toInt ≤ 60 from by omega)
          have hF : sgK WkX12_night f f_15 := sgK.put hF ef_15 (by rfl)
          obtain ⟨v_16, ev_16⟩ : ∃ z : Int32, z = y2_4 + 1 := ⟨_, rfl⟩
          have q_17 : v_16.toInt = y2_4.toInt + 1 := by rw [ev_16]; exact (bn_addc y2_4 1 (by decide) (by omega) (by omega))
          refine lv_iinc (v := v_16) (lv' := [(2, .int v_16), (1, .int v_14), (3, .int r_8), (0, .ref (h 0))]) hx hb dX12_night_46 hl (k := 3) rfl (by rw [ev_16]; rfl) (by decide) rfl (fun ls hl => ?_)
          refine lv_goto (tgt := 4) hx hb dX12_night_49 (by decide) ?_
          exact ih_4 v_14 v_16 f_15 _ _ _ (by omega) (by omega) hI hF hP hS (lv_sub hl [3, 1, 0] rfl)
  refine lv_iconst (v := 0) hx hb dX12_night_0 (by decide) ?_
  refine lv_istore_n (lv' := [(1, .int 0), (0, .ref (h 0))]) hx hb dX12_night_1 rfl hl (by decide) rfl (fun ls hl => ?_)
  refine lv_iconst (v := 0) hx hb dX12_night_2 (by decide) ?_
  refine lv_istore_n (lv' := [(2, .int 0), (1, .int 0), (0, .ref (h 0))]) hx hb dX12_night_3 rfl hl (by decide) rfl (fun ls hl => ?_)
  exact loop_4 4 0 0 f _ _ _ (by have kc0 : (0 : Int32).toInt = 0 := (by decide); have kc1 : (0 : Int32).toInt = 0 := (by decide); omega) (by decide) hI hF hP hS (lv_sub hl [2, 1, 0] rfl)

set_option maxHeartbeats 4000000 in
set_option maxRecDepth 100000 in
theorem kX12_led (l : Launch) (D : va_G) (ca : Nat → ClassId) (za h : Nat → Nat) (hh : sgH 26 h) (f : sg_F) (L : sg_L) (Q : sg_Q) (hI : sgI loM hiM f) (x0 : Int32) (sz : Nat) : Met l yX12_led gwX12_led { frames := 0, cells := 0, slots := 0, locals := 0 } (sgP D vwCl (tyX ca) 26 h (eM ca h) zcM za f L Q sz [.ref (h 0), .int x0]) (sgQi D vwCl 26 h (eM ca h) sz (fun r f1 L1 Q1 => ((f1 = f ∧ L1 = L ∧ Q1 = Q) ∧ True))) 0 0 (sgA 26 h sz) := by
  refine sg_ofWi (cc := cX12_led) (maxL := 2) RX12 (by decide) rfl rfl (Nat.le_of_ble_eq_true rfl) ?_
  intro p e s m below meth cd Qz ls hx hb hml hown hts hK hZ hP hS hl hret
  have hA := sgY.self (n := 26) (h := h) (sz := s.heap.size)
  have hl : lv_has ls 2 [(0, .ref (h 0)), (1, .int x0)] := hl
  obtain ⟨H, hH⟩ : ∃ z : Heap, z = s.heap := ⟨_, rfl⟩
  obtain ⟨locs, hlo⟩ : ∃ z : List Loc, z = [] := ⟨_, rfl⟩
  have hP : va_P D vwCl (sgw 26 h (eM ca h) f L Q) H := by rw [hH]; exact hP
  have hS : va_S (sgA 26 h s.heap.size) s.heap H locs := by rw [hH, hlo]; exact hS
  suffices hgo : W p l e ({ frames := 0, cells := 0, slots := 0, locals := 0 }) s m ([.ref (h 0), .int x0] : List Value).toArray below meth cd H locs 0 0 Qz (F0 m 0 ls []) by rw [hH, hlo] at hgo; exact hgo
  clear hH hlo
  refine lv_iload_n hx hb dX12_led_0 rfl (lv_at hl 1 rfl) ?_
  rcases (show (x0.toInt ≠ 0 ∧ x0.toInt ≠ 1 ∧ x0.toInt ≠ 2 ∧ x0.toInt ≠ 3 ∧ x0.toInt ≠ 4) ∨ x0.toInt = 0 ∨ x0.toInt = 1 ∨ x0.toInt = 2 ∨ x0.toInt = 3 ∨ x0.toInt = 4 from by omega) with c | c | c | c | c | c
  · skip
    refine lv_tableOut (x := x0) (tgt := 61) hx hb dX12_led_1 (by omega) (by decide) ?_
    refine lv_iconst (v := (-1)) hx hb dX12_led_61 (by decide) ?_
    have k99 : ((-1) : Int32).toInt = (-1) := (by decide)
    exact hret _ _ _ _ (-1) f L Q dX12_led_62 hP hS ⟨⟨rfl, rfl, rfl⟩, trivial⟩
  · skip
    have c_1 := c
    refine lv_tableIn (x := x0) (tgt := 36) hx hb dX12_led_1 (by omega) (by omega) (by rw [c]; rfl) (by decide) ?_
    refine lv_aload_n hx hb dX12_led_36 rfl (lv_at hl 0 rfl) ?_
    refine sg_get (ci := 12) (v := .int (f 0 38)) (C := RX12) (T := TX12) (N := 55) hx hb hts (fun w h => List.mem_cons_of_mem _ (gx_12 w h)) hown hK hP 0 (by decide) rfl rfl 38 (by decide) (hts _ (List.mem_cons_of_mem _ mw_608)) (fun _ h9 => h9) rfl dX12_led_37 ?_
    refine lv_topi (fun v_2 ev_2 => ?_)
    exact hret _ _ _ _ (v_2) f L Q dX12_led_40 hP hS ⟨⟨rfl, rfl, rfl⟩, trivial⟩
  · skip
    have c_3 := c
    refine lv_tableIn (x := x0) (tgt := 41) hx hb dX12_led_1 (by omega) (by omega) (by rw [c]; rfl) (by decide) ?_
    refine lv_aload_n hx hb dX12_led_41 rfl (lv_at hl 0 rfl) ?_
    refine sg_get (ci := 12) (v := .int (f 0 39)) (C := RX12) (T := TX12) (N := 55) hx hb hts (fun w h => List.mem_cons_of_mem _ (gx_12 w h)) hown hK hP 0 (by decide) rfl rfl 39 (by decide) (hts _ (List.mem_cons_of_mem _ mw_609)) (fun _ h9 => h9) rfl dX12_led_42 ?_
    refine lv_topi (fun v_4 ev_4 => ?_)
    exact hret _ _ _ _ (v_4) f L Q dX12_led_45 hP hS ⟨⟨rfl, rfl, rfl⟩, trivial⟩
  · skip
    have c_5 := c
    refine lv_tableIn (x := x0) (tgt := 46) hx hb dX12_led_1 (by omega) (by omega) (by rw [c]; rfl) (by decide) ?_
    refine lv_aload_n hx hb dX12_led_46 rfl (lv_at hl 0 rfl) ?_
    refine sg_get (ci := 12) (v := .int (f 0 40)) (C := RX12) (T := TX12) (N := 55) hx hb hts (fun w h => List.mem_cons_of_mem _ (gx_12 w h)) hown hK hP 0 (by decide) rfl rfl 40 (by decide) (hts _ (List.mem_cons_of_mem _ mw_610)) (fun _ h9 => h9) rfl dX12_led_47 ?_
    refine lv_topi (fun v_6 ev_6 => ?_)
    exact hret _ _ _ _ (v_6) f L Q dX12_led_50 hP hS ⟨⟨rfl, rfl, rfl⟩, trivial⟩
  · skip
    have c_7 := c
    refine lv_tableIn (x := x0) (tgt := 51) hx hb dX12_led_1 (by omega) (by omega) (by rw [c]; rfl) (by decide) ?_
    refine lv_aload_n hx hb dX12_led_51 rfl (lv_at hl 0 rfl) ?_
    refine sg_get (ci := 12) (v := .int (f 0 41)) (C := RX12) (T := TX12) (N := 55) hx hb hts (fun w h => List.mem_cons_of_mem _ (gx_12 w h)) hown hK hP 0 (by decide) rfl rfl 41 (by decide) (hts _ (List.mem_cons_of_mem _ mw_611)) (fun _ h9 => h9) rfl dX12_led_52 ?_
    refine lv_topi (fun v_8 ev_8 => ?_)
    exact hret _ _ _ _ (v_8) f L Q dX12_led_55 hP hS ⟨⟨rfl, rfl, rfl⟩, trivial⟩
  · skip
    have c_9 := c
    refine lv_tableIn (x := x0) (tgt := 56) hx hb dX12_led_1 (by omega) (by omega) (by rw [c]; rfl) (by decide) ?_
    refine lv_aload_n hx hb dX12_led_56 rfl (lv_at hl 0 rfl) ?_
    refine sg_get (ci := 12) (v := .int (f 0 42)) (C := RX12) (T := TX12) (N := 55) hx hb hts (fun w h => List.mem_cons_of_mem _ (gx_12 w h)) hown hK hP 0 (by decide) rfl rfl 42 (by decide) (hts _ (List.mem_cons_of_mem _ mw_612)) (fun _ h9 => h9) rfl dX12_led_57 ?_
    refine lv_topi (fun v_10 ev_10 => ?_)
    exact hret _ _ _ _ (v_10) f L Q dX12_led_60 hP hS ⟨⟨rfl, rfl, rfl⟩, trivial⟩

abbrev WkX12_image : List (Nat × Nat × Option Nat) := [(0, 0, some 43), (19, 19, none)]
set_option maxHeartbeats 4000000 in
set_option maxRecDepth 100000 in
theorem kX12_image (l : Launch) (D : va_G) (ca : Nat → ClassId) (za h : Nat → Nat) (hh : sgH 26 h) (f : sg_F) (L : sg_L) (Q : sg_Q) (hI : sgI loM hiM f) (sz : Nat) : Met l yX12_image gwX12_image { frames := 1, cells := 0, slots := 0, locals := 21 } (sgP D vwCl (tyX ca) 26 h (eM ca h) zcM za f L Q sz [.ref (h 0)]) (sgQi D vwCl 26 h (eM ca h) sz (fun r f1 L1 Q1 => ((sgI loM hiM f1 ∧ sgK WkX12_image f f1 ∧ L1 = L ∧ Q1 = Q) ∧ True))) 0 0 (sgA 26 h sz) := by
  refine sg_ofWi (cc := cX12_image) (maxL := 2) RX12 (by decide) rfl rfl (Nat.le_of_ble_eq_true rfl) ?_
  intro p e s m below meth cd Qz ls hx hb hml hown hts hK hZ hP hS hl hret
  have hA := sgY.self (n := 26) (h := h) (sz := s.heap.size)
  have hl : lv_has ls 2 [(0, .ref (h 0))] := hl
  obtain ⟨H, hH⟩ : ∃ z : Heap, z = s.heap := ⟨_, rfl⟩
  obtain ⟨locs, hlo⟩ : ∃ z : List Loc, z = [] := ⟨_, rfl⟩
  have hP : va_P D vwCl (sgw 26 h (eM ca h) f L Q) H := by rw [hH]; exact hP
  have hS : va_S (sgA 26 h s.heap.size) s.heap H locs := by rw [hH, hlo]; exact hS
  suffices hgo : W p l e ({ frames := 1, cells := 0, slots := 0, locals := 21 }) s m ([.ref (h 0)] : List Value).toArray below meth cd H locs 0 0 Qz (F0 m 0 ls []) by rw [hH, hlo] at hgo; exact hgo
  clear hH hlo
  have hF : sgK WkX12_image f f := sgK.rf
  have loop_7 : ∀ (n_7 : Nat) (y1_7 : Int32) (fp_7 : sg_F) (H : Heap) (locs : List Loc) (ls : Array Slot), 8 - y1_7.toInt < (n_7 : Int) → 1 ≤ (fp_7 0 43).toInt ∧ (fp_7 0 43).toInt ≤ 1 → 0 ≤ y1_7.toInt ∧ y1_7.toInt ≤ 8 → sgI loM hiM fp_7 → sgK WkX12_image f fp_7 → va_P D vwCl (sgw 26 h (eM ca h) fp_7 L Q) H → va_S (sgA 26 h s.heap.size) s.heap H locs → lv_has ls 2 [(0, .ref (h 0)), (1, .int y1_7)] → W p l e ({ frames := 1, cells := 0, slots := 0, locals := 21 }) s m ([.ref (h 0)] : List Value).toArray below meth cd H locs 0 0 Qz (F0 m 7 ls []) := by
    intro n_7
    induction n_7 with
    | zero => intro y1_7 fp_7 H locs ls hm_7 hy0_7 hy1_7 hI hF hP hS hl; exact absurd hm_7 (by omega)
    | succ n_7 ih_7 =>
      intro y1_7 fp_7 H locs ls hm_7 hy0_7 hy1_7 hI hF hP hS hl
      obtain ⟨v_1, ev_1⟩ : ∃ z : Int32, z = fp_7 0 43 := ⟨_, rfl⟩
      have q_2 : 0 ≤ v_1.toInt ∧ v_1.toInt ≤ 1 := by rw [ev_1]; exact hI 0 43
      have q_3 : (fp_7 0 43).toInt = v_1.toInt := by rw [ev_1]
      refine lv_iload_n hx hb dX12_image_7 rfl (lv_at hl 1 rfl) ?_
      refine lv_bipush (v := 8) hx hb dX12_image_8 (by decide) ?_
      refine lv_icmp_ge (tgt := 46) hx hb dX12_image_10 (by decide) (fun c => ?_) (fun c => ?_)
      · skip
        have c_4 : 8 ≤ y1_7.toInt := (by have z := bn_le c; have k1 : (8 : Int32).toInt = 8 := (by decide); omega)
        refine lv_aload_n hx hb dX12_image_46 rfl (lv_at hl 0 rfl) ?_
        refine sg_get (ci := 12) (v := .int (fp_7 0 38)) (C := RX12) (T := TX12) (N := 55) hx hb hts (fun w h => List.mem_cons_of_mem _ (gx_12 w h)) hown hK hP 0 (by decide) rfl rfl 38 (by decide) (hts _ (List.mem_cons_of_mem _ mw_608)) (fun _ h9 => h9) rfl dX12_image_47 ?_
        refine lv_topi (fun v_6 ev_6 => ?_)
        exact hret _ _ _ _ (v_6) fp_7 L Q dX12_image_50 hP hS ⟨⟨hI, hF, rfl, rfl⟩, trivial⟩
      · skip
        have c_5 : y1_7.toInt < 8 := (by have z := bn_nle c; have k1 : (8 : Int32).toInt = 8 := (by decide); omega)
        refine lv_aload_n hx hb dX12_image_13 rfl (lv_at hl 0 rfl) ?_
        refine sg_get (ci := 12) (v := .ref (h 19)) (C := RX12) (T := TX12) (N := 55) hx hb hts (fun w h => List.mem_cons_of_mem _ (gx_12 w h)) hown hK hP 0 (by decide) rfl rfl 44 (by decide) (hts _ (List.mem_cons_of_mem _ mw_614)) (fun _ h9 => h9) rfl dX12_image_14 ?_
        refine lv_iload_n hx hb dX12_image_17 rfl (lv_at hl 1 rfl) ?_
        refine lv_iload_n hx hb dX12_image_18 rfl (lv_at hl 1 rfl) ?_
        refine lv_iconst (v := 3) hx hb dX12_image_19 (by decide) ?_
        refine lv_icmp_ge (tgt := 32) hx hb dX12_image_20 (by decide) (fun c => ?_) (fun c => ?_)
        · skip
          have c_7 : 3 ≤ y1_7.toInt := (by have z := bn_le c; have k1 : (3 : Int32).toInt = 3 := (by decide); omega)
          refine lv_aload_n hx hb dX12_image_32 rfl (lv_at hl 0 rfl) ?_
          refine lv_iload_n hx hb dX12_image_33 rfl (lv_at hl 1 rfl) ?_
          refine lv_iconst (v := 3) hx hb dX12_image_34 (by decide) ?_
          refine lv_isub hx hb dX12_image_35 ?_
          refine lv_topi (fun v_9 ev_9 => ?_)
          have q_10 : v_9.toInt = y1_7.toInt - 3 := by rw [ev_9]; have k1 : (3 : Int32).toInt = 3 := (by decide); exact (bn_subI (by omega) (by omega)).trans (by omega)
          refine sg_calli (va_runV (As := [.int v_9]) (rest := [.int y1_7, .ref (h 19)]) ⟨hx, hb, hml, hown, hts⟩ (kX12_led l D ca za h hh fp_7 L Q hI v_9 H.size) (cwV 1 hts (gw_V (fun _ h => List.mem_cons_of_mem _ h) mw_616 mw_617 mw_618 mw_619 mw_615) rfl rfl rfl (by decide +kernel) ⟨Nat.le_of_ble_eq_true rfl, Nat.le_of_ble_eq_true rfl⟩) (sg_preV (ci := 12) (C := RX12) (T := TX12) (N := 55) hA hK hP hS hZ 0 (by decide) rfl rfl) rfl rfl hl.1 rfl (lv_room (Nat.le_of_ble_eq_true rfl)) dX12_image_36 ⟨Nat.le_refl _, Nat.le_refl _⟩) hA hS (fun r_14 f_11 L_12 Q_13 H locs hq hP hS => ?_)
          obtain ⟨⟨ef9, eL9, eQ9⟩, hq⟩ := hq
          rw [ef9, eL9, eQ9] at hP; clear ef9 eL9 eQ9
          refine sg_iast hx hb hh hA hK hP hS 19 (by decide) 0 (fun _ => rfl) rfl (i := y1_7) (x := r_14) (vp_in_iff.mpr ⟨by omega, by omega⟩) dX12_image_39 (fun f_15 H locs ef_15 hP hS => ?_)
          have hI : sgI loM hiM f_15 := by rw [ef_15]; exact sgI.put hI 19 y1_7.toNatClampNeg (segM19_w r_14 (by have z := bn_clI (x := y1_7) (by omega); have z9 := bn_top (r_14 : Int32); omega))
          have hF : sgK WkX12_image f f_15 := sgK.put hF ef_15 (by rfl)
          obtain ⟨v_16, ev_16⟩ : ∃ z : Int32, z = y1_7 + 1 := ⟨_, rfl⟩
          have q_17 : v_16.toInt = y1_7.toInt + 1 := by rw [ev_16]; exact (bn_addc y1_7 1 (by decide) (by omega) (by omega))
          refine lv_iinc (v := v_16) (lv' := [(1, .int v_16), (0, .ref (h 0))]) hx hb dX12_image_40 hl (k := 1) rfl (by rw [ev_16]; rfl) (by decide) rfl (fun ls hl => ?_)
          refine lv_goto (tgt := 7) hx hb dX12_image_43 (by decide) ?_
          exact ih_7 v_16 f_15 _ _ _ (by omega) (by have zz0_43 : (f_15 0 43).toInt = v_1.toInt := (congrArg Int32.toInt (show f_15 0 43 = v_1 from (by rw [ef_15, sg_up_n (by decide)]; exact ev_1.symm))); omega) (by omega) hI hF hP hS (lv_sub hl [1, 0] rfl)
        · skip
          have c_8 : y1_7.toInt < 3 := (by have z := bn_nle c; have k1 : (3 : Int32).toInt = 3 := (by decide); omega)
          refine lv_aload_n hx hb dX12_image_23 rfl (lv_at hl 0 rfl) ?_
          refine sg_get (ci := 12) (v := .ref (h 5)) (C := RX12) (T := TX12) (N := 55) hx hb hts (fun w h => List.mem_cons_of_mem _ (gx_12 w h)) hown hK hP 0 (by decide) rfl rfl 7 (by decide) (hts _ (List.mem_cons_of_mem _ mw_607)) (fun _ h9 => h9) rfl dX12_image_24 ?_
          refine lv_iload_n hx hb dX12_image_27 rfl (lv_at hl 1 rfl) ?_
          refine sg_iald hx hb hK hP 5 (by decide) 0 rfl rfl (i := y1_7) (vp_in_iff.mpr ⟨by omega, by omega⟩) dX12_image_28 ?_
          refine lv_topi (fun v_18 ev_18 => ?_)
          have q_19 : 0 ≤ v_18.toInt ∧ v_18.toInt ≤ 60 := by rw [ev_18]; exact hI 5 _
          refine lv_goto (tgt := 39) hx hb dX12_image_29 (by decide) ?_
          refine sg_iast hx hb hh hA hK hP hS 19 (by decide) 0 (fun _ => rfl) rfl (i := y1_7) (x := v_18) (vp_in_iff.mpr ⟨by omega, by omega⟩) dX12_image_39 (fun f_20 H locs ef_20 hP hS => ?_)
          have hI : sgI loM hiM f_20 := by rw [ef_20]; exact sgI.put hI 19 y1_7.toNatClampNeg (segM19_w v_18 (by have z := bn_clI (x := y1_7) (by omega); have z9 := bn_top (v_18 : Int32); omega))
          have hF : sgK WkX12_image f f_20 := sgK.put hF ef_20 (by rfl)
          obtain ⟨v_21, ev_21⟩ : ∃ z : Int32, z = y1_7 + 1 := ⟨_, rfl⟩
          have q_22 : v_21.toInt = y1_7.toInt + 1 := by rw [ev_21]; exact (bn_addc y1_7 1 (by decide) (by omega) (by omega))
          refine lv_iinc (v := v_21) (lv' := [(1, .int v_21), (0, .ref (h 0))]) hx hb dX12_image_40 hl (k := 1) rfl (by rw [ev_21]; rfl) (by decide) rfl (fun ls hl => ?_)
          refine lv_goto (tgt := 7) hx hb dX12_image_43 (by decide) ?_
          exact ih_7 v_21 f_20 _ _ _ (by omega) (by have zz0_43 : (f_20 0 43).toInt = v_1.toInt := (congrArg Int32.toInt (show f_20 0 43 = v_1 from (by rw [ef_20, sg_up_n (by decide)]; exact ev_1.symm))); omega) (by omega) hI hF hP hS (lv_sub hl [1, 0] rfl)
  refine lv_aload_n hx hb dX12_image_0 rfl (lv_at hl 0 rfl) ?_
  refine lv_iconst (v := 1) hx hb dX12_image_1 (by decide) ?_
  refine sg_put (ci := 12) (x := 1) (ty := .boolean) (C := RX12) (T := TX12) (N := 55) hx hb hts (fun w h => List.mem_cons_of_mem _ (gx_12 w h)) tyX12 tyX12_ok nmX12 hown hh hA hK hP hS 0 (by decide) rfl rfl 43 (by decide) (hts _ (List.mem_cons_of_mem _ mw_613)) (fun _ h9 => h9) rfl rfl (by decide +kernel) (by decide) (by decide) (Nat.le_of_ble_eq_true rfl) dX12_image_2 (fun f_23 H locs ef_23 hP hS => ?_)
  have hI : sgI loM hiM f_23 := by rw [ef_23]; exact sgI.put hI 0 43 (show 0 ≤ (1 : Int32).toInt ∧ (1 : Int32).toInt ≤ 1 from by decide)
  have hF : sgK WkX12_image f f_23 := sgK.put hF ef_23 (by rfl)
  refine lv_iconst (v := 0) hx hb dX12_image_5 (by decide) ?_
  refine lv_istore_n (lv' := [(1, .int 0), (0, .ref (h 0))]) hx hb dX12_image_6 rfl hl (by decide) rfl (fun ls hl => ?_)
  exact loop_7 9 0 f_23 _ _ _ (by have kc0 : (0 : Int32).toInt = 0 := (by decide); omega) (by have zz0_43 : (f_23 0 43).toInt = 1 := (congrArg Int32.toInt (show f_23 0 43 = 1 from (by rw [ef_23, sg_up_s, sgu_s]))).trans (by decide); omega) (by decide) hI hF hP hS (lv_sub hl [1, 0] rfl)

abbrev WkX12_back : List (Nat × Nat × Option Nat) := [(0, 0, some 38), (0, 0, some 39), (0, 0, some 40), (0, 0, some 41), (0, 0, some 42), (5, 5, none)]
set_option maxHeartbeats 4000000 in
set_option maxRecDepth 100000 in
theorem kX12_back (l : Launch) (D : va_G) (ca : Nat → ClassId) (za h : Nat → Nat) (hh : sgH 26 h) (f : sg_F) (L : sg_L) (Q : sg_Q) (hI : sgI loM hiM f) (sz : Nat) : Met l yX12_back gwX12_back { frames := 0, cells := 0, slots := 0, locals := 0 } (sgP D vwCl (tyX ca) 26 h (eM ca h) zcM za f L Q sz [.ref (h 0)]) (sgQi D vwCl 26 h (eM ca h) sz (fun r f1 L1 Q1 => ((sgI loM hiM f1 ∧ sgK WkX12_back f f1 ∧ L1 = L ∧ Q1 = Q) ∧ True))) 0 0 (sgA 26 h sz) := by
  refine sg_ofWi (cc := cX12_back) (maxL := 2) RX12 (by decide) rfl rfl (Nat.le_of_ble_eq_true rfl) ?_
  intro p e s m below meth cd Qz ls hx hb hml hown hts hK hZ hP hS hl hret
  have hA := sgY.self (n := 26) (h := h) (sz := s.heap.size)
  have hl : lv_has ls 2 [(0, .ref (h 0))] := hl
  obtain ⟨H, hH⟩ : ∃ z : Heap, z = s.heap := ⟨_, rfl⟩
  obtain ⟨locs, hlo⟩ : ∃ z : List Loc, z = [] := ⟨_, rfl⟩
  have hP : va_P D vwCl (sgw 26 h (eM ca h) f L Q) H := by rw [hH]; exact hP
  have hS : va_S (sgA 26 h s.heap.size) s.heap H locs := by rw [hH, hlo]; exact hS
  suffices hgo : W p l e ({ frames := 0, cells := 0, slots := 0, locals := 0 }) s m ([.ref (h 0)] : List Value).toArray below meth cd H locs 0 0 Qz (F0 m 0 ls []) by rw [hH, hlo] at hgo; exact hgo
  clear hH hlo
  have hF : sgK WkX12_back f f := sgK.rf
  have loop_12 : ∀ (n_12 : Nat) (y1_12 : Int32) (fp_12 : sg_F) (H : Heap) (locs : List Loc) (ls : Array Slot), 3 - y1_12.toInt < (n_12 : Int) → 1 ≤ (fp_12 0 43).toInt ∧ (fp_12 0 43).toInt ≤ 1 → 0 ≤ y1_12.toInt ∧ y1_12.toInt ≤ 3 → sgI loM hiM fp_12 → sgK WkX12_back f fp_12 → va_P D vwCl (sgw 26 h (eM ca h) fp_12 L Q) H → va_S (sgA 26 h s.heap.size) s.heap H locs → lv_has ls 2 [(0, .ref (h 0)), (1, .int y1_12)] → W p l e ({ frames := 0, cells := 0, slots := 0, locals := 0 }) s m ([.ref (h 0)] : List Value).toArray below meth cd H locs 0 0 Qz (F0 m 12 ls []) := by
    intro n_12
    induction n_12 with
    | zero => intro y1_12 fp_12 H locs ls hm_12 hy0_12 hy1_12 hI hF hP hS hl; exact absurd hm_12 (by omega)
    | succ n_12 ih_12 =>
      intro y1_12 fp_12 H locs ls hm_12 hy0_12 hy1_12 hI hF hP hS hl
      obtain ⟨v_1, ev_1⟩ : ∃ z : Int32, z = fp_12 0 43 := ⟨_, rfl⟩
      have q_2 : 0 ≤ v_1.toInt ∧ v_1.toInt ≤ 1 := by rw [ev_1]; exact hI 0 43
      have q_3 : (fp_12 0 43).toInt = v_1.toInt := by rw [ev_1]
      refine lv_iload_n hx hb dX12_back_12 rfl (lv_at hl 1 rfl) ?_
      refine lv_iconst (v := 3) hx hb dX12_back_13 (by decide) ?_
      refine lv_icmp_ge (tgt := 35) hx hb dX12_back_14 (by decide) (fun c => ?_) (fun c => ?_)
      · skip
        have c_4 : 3 ≤ y1_12.toInt := (by have z := bn_le c; have k1 : (3 : Int32).toInt = 3 := (by decide); omega)
        refine lv_aload_n hx hb dX12_back_35 rfl (lv_at hl 0 rfl) ?_
        refine lv_aload_n hx hb dX12_back_36 rfl (lv_at hl 0 rfl) ?_
        refine sg_get (ci := 12) (v := .ref (h 19)) (C := RX12) (T := TX12) (N := 55) hx hb hts (fun w h => List.mem_cons_of_mem _ (gx_12 w h)) hown hK hP 0 (by decide) rfl rfl 44 (by decide) (hts _ (List.mem_cons_of_mem _ mw_614)) (fun _ h9 => h9) rfl dX12_back_37 ?_
        refine lv_iconst (v := 3) hx hb dX12_back_40 (by decide) ?_
        refine sg_iald hx hb hK hP 19 (by decide) 0 rfl rfl (i := 3) (vp_in_iff.mpr (by decide)) dX12_back_41 ?_
        refine lv_topi (fun v_6 ev_6 => ?_)
        refine sg_put (ci := 12) (x := v_6) (ty := .int) (C := RX12) (T := TX12) (N := 55) hx hb hts (fun w h => List.mem_cons_of_mem _ (gx_12 w h)) tyX12 tyX12_ok nmX12 hown hh hA hK hP hS 0 (by decide) rfl rfl 38 (by decide) (hts _ (List.mem_cons_of_mem _ mw_608)) (fun _ h9 => h9) rfl rfl (by decide +kernel) rfl rfl (Nat.le_of_ble_eq_true rfl) dX12_back_42 (fun f_7 H locs ef_7 hP hS => ?_)
        have hI : sgI loM hiM f_7 := by rw [ef_7]; exact sgI.put hI 0 38 (bn_top _)
        have hF : sgK WkX12_back f f_7 := sgK.put hF ef_7 (by rfl)
        refine lv_aload_n hx hb dX12_back_45 rfl (lv_at hl 0 rfl) ?_
        refine lv_aload_n hx hb dX12_back_46 rfl (lv_at hl 0 rfl) ?_
        refine sg_get (ci := 12) (v := .ref (h 19)) (C := RX12) (T := TX12) (N := 55) hx hb hts (fun w h => List.mem_cons_of_mem _ (gx_12 w h)) hown hK hP 0 (by decide) rfl rfl 44 (by decide) (hts _ (List.mem_cons_of_mem _ mw_614)) (fun _ h9 => h9) rfl dX12_back_47 ?_
        refine lv_iconst (v := 4) hx hb dX12_back_50 (by decide) ?_
        refine sg_iald hx hb hK hP 19 (by decide) 0 rfl rfl (i := 4) (vp_in_iff.mpr (by decide)) dX12_back_51 ?_
        refine lv_topi (fun v_8 ev_8 => ?_)
        refine sg_put (ci := 12) (x := v_8) (ty := .int) (C := RX12) (T := TX12) (N := 55) hx hb hts (fun w h => List.mem_cons_of_mem _ (gx_12 w h)) tyX12 tyX12_ok nmX12 hown hh hA hK hP hS 0 (by decide) rfl rfl 39 (by decide) (hts _ (List.mem_cons_of_mem _ mw_609)) (fun _ h9 => h9) rfl rfl (by decide +kernel) rfl rfl (Nat.le_of_ble_eq_true rfl) dX12_back_52 (fun f_9 H locs ef_9 hP hS => ?_)
        have hI : sgI loM hiM f_9 := by rw [ef_9]; exact sgI.put hI 0 39 (bn_top _)
        have hF : sgK WkX12_back f f_9 := sgK.put hF ef_9 (by rfl)
        refine lv_aload_n hx hb dX12_back_55 rfl (lv_at hl 0 rfl) ?_
        refine lv_aload_n hx hb dX12_back_56 rfl (lv_at hl 0 rfl) ?_
        refine sg_get (ci := 12) (v := .ref (h 19)) (C := RX12) (T := TX12) (N := 55) hx hb hts (fun w h => List.mem_cons_of_mem _ (gx_12 w h)) hown hK hP 0 (by decide) rfl rfl 44 (by decide) (hts _ (List.mem_cons_of_mem _ mw_614)) (fun _ h9 => h9) rfl dX12_back_57 ?_
        refine lv_iconst (v := 5) hx hb dX12_back_60 (by decide) ?_
        refine sg_iald hx hb hK hP 19 (by decide) 0 rfl rfl (i := 5) (vp_in_iff.mpr (by decide)) dX12_back_61 ?_
        refine lv_topi (fun v_10 ev_10 => ?_)
        refine sg_put (ci := 12) (x := v_10) (ty := .int) (C := RX12) (T := TX12) (N := 55) hx hb hts (fun w h => List.mem_cons_of_mem _ (gx_12 w h)) tyX12 tyX12_ok nmX12 hown hh hA hK hP hS 0 (by decide) rfl rfl 40 (by decide) (hts _ (List.mem_cons_of_mem _ mw_610)) (fun _ h9 => h9) rfl rfl (by decide +kernel) rfl rfl (Nat.le_of_ble_eq_true rfl) dX12_back_62 (fun f_11 H locs ef_11 hP hS => ?_)
        have hI : sgI loM hiM f_11 := by rw [ef_11]; exact sgI.put hI 0 40 (bn_top _)
        have hF : sgK WkX12_back f f_11 := sgK.put hF ef_11 (by rfl)
        refine lv_aload_n hx hb dX12_back_65 rfl (lv_at hl 0 rfl) ?_
        refine lv_aload_n hx hb dX12_back_66 rfl (lv_at hl 0 rfl) ?_
        refine sg_get (ci := 12) (v := .ref (h 19)) (C := RX12) (T := TX12) (N := 55) hx hb hts (fun w h => List.mem_cons_of_mem _ (gx_12 w h)) hown hK hP 0 (by decide) rfl rfl 44 (by decide) (hts _ (List.mem_cons_of_mem _ mw_614)) (fun _ h9 => h9) rfl dX12_back_67 ?_
        refine lv_bipush (v := 6) hx hb dX12_back_70 (by decide) ?_
        refine sg_iald hx hb hK hP 19 (by decide) 0 rfl rfl (i := 6) (vp_in_iff.mpr (by decide)) dX12_back_72 ?_
        refine lv_topi (fun v_12 ev_12 => ?_)
        refine sg_put (ci := 12) (x := v_12) (ty := .int) (C := RX12) (T := TX12) (N := 55) hx hb hts (fun w h => List.mem_cons_of_mem _ (gx_12 w h)) tyX12 tyX12_ok nmX12 hown hh hA hK hP hS 0 (by decide) rfl rfl 41 (by decide) (hts _ (List.mem_cons_of_mem _ mw_611)) (fun _ h9 => h9) rfl rfl (by decide +kernel) rfl rfl (Nat.le_of_ble_eq_true rfl) dX12_back_73 (fun f_13 H locs ef_13 hP hS => ?_)
        have hI : sgI loM hiM f_13 := by rw [ef_13]; exact sgI.put hI 0 41 (bn_top _)
        have hF : sgK WkX12_back f f_13 := sgK.put hF ef_13 (by rfl)
        refine lv_aload_n hx hb dX12_back_76 rfl (lv_at hl 0 rfl) ?_
        refine lv_aload_n hx hb dX12_back_77 rfl (lv_at hl 0 rfl) ?_
        refine sg_get (ci := 12) (v := .ref (h 19)) (C := RX12) (T := TX12) (N := 55) hx hb hts (fun w h => List.mem_cons_of_mem _ (gx_12 w h)) hown hK hP 0 (by decide) rfl rfl 44 (by decide) (hts _ (List.mem_cons_of_mem _ mw_614)) (fun _ h9 => h9) rfl dX12_back_78 ?_
        refine lv_bipush (v := 7) hx hb dX12_back_81 (by decide) ?_
        refine sg_iald hx hb hK hP 19 (by decide) 0 rfl rfl (i := 7) (vp_in_iff.mpr (by decide)) dX12_back_83 ?_
        refine lv_topi (fun v_14 ev_14 => ?_)
        refine sg_put (ci := 12) (x := v_14) (ty := .int) (C := RX12) (T := TX12) (N := 55) hx hb hts (fun w h => List.mem_cons_of_mem _ (gx_12 w h)) tyX12 tyX12_ok nmX12 hown hh hA hK hP hS 0 (by decide) rfl rfl 42 (by decide) (hts _ (List.mem_cons_of_mem _ mw_612)) (fun _ h9 => h9) rfl rfl (by decide +kernel) rfl rfl (Nat.le_of_ble_eq_true rfl) dX12_back_84 (fun f_15 H locs ef_15 hP hS => ?_)
        have hI : sgI loM hiM f_15 := by rw [ef_15]; exact sgI.put hI 0 42 (bn_top _)
        have hF : sgK WkX12_back f f_15 := sgK.put hF ef_15 (by rfl)
        refine lv_aload_n hx hb dX12_back_87 rfl (lv_at hl 0 rfl) ?_
        refine sg_get (ci := 12) (v := .int v_6) (C := RX12) (T := TX12) (N := 55) hx hb hts (fun w h => List.mem_cons_of_mem _ (gx_12 w h)) hown hK hP 0 (by decide) rfl rfl 38 (by decide) (hts _ (List.mem_cons_of_mem _ mw_608)) (fun _ h9 => h9) (congrArg (fun z => some (Value.int z)) (show f_15 0 38 = v_6 from (by rw [ef_15, sg_up_s, sgu_n (by decide)]; exact (by rw [ef_13, sg_up_s, sgu_n (by decide)]; exact (by rw [ef_11, sg_up_s, sgu_n (by decide)]; exact (by rw [ef_9, sg_up_s, sgu_n (by decide)]; exact (by rw [ef_7, sg_up_s, sgu_s]))))))) dX12_back_88 ?_
        exact hret _ _ _ _ (v_6) f_15 L Q dX12_back_91 hP hS ⟨⟨hI, hF, rfl, rfl⟩, trivial⟩
      · skip
        have c_5 : y1_12.toInt < 3 := (by have z := bn_nle c; have k1 : (3 : Int32).toInt = 3 := (by decide); omega)
        refine lv_aload_n hx hb dX12_back_17 rfl (lv_at hl 0 rfl) ?_
        refine sg_get (ci := 12) (v := .ref (h 5)) (C := RX12) (T := TX12) (N := 55) hx hb hts (fun w h => List.mem_cons_of_mem _ (gx_12 w h)) hown hK hP 0 (by decide) rfl rfl 7 (by decide) (hts _ (List.mem_cons_of_mem _ mw_607)) (fun _ h9 => h9) rfl dX12_back_18 ?_
        refine lv_iload_n hx hb dX12_back_21 rfl (lv_at hl 1 rfl) ?_
        refine lv_aload_n hx hb dX12_back_22 rfl (lv_at hl 0 rfl) ?_
        refine sg_get (ci := 12) (v := .ref (h 19)) (C := RX12) (T := TX12) (N := 55) hx hb hts (fun w h => List.mem_cons_of_mem _ (gx_12 w h)) hown hK hP 0 (by decide) rfl rfl 44 (by decide) (hts _ (List.mem_cons_of_mem _ mw_614)) (fun _ h9 => h9) rfl dX12_back_23 ?_
        refine lv_iload_n hx hb dX12_back_26 rfl (lv_at hl 1 rfl) ?_
        refine sg_iald hx hb hK hP 19 (by decide) 0 rfl rfl (i := y1_12) (vp_in_iff.mpr ⟨by omega, by omega⟩) dX12_back_27 ?_
        refine lv_topi (fun v_16 ev_16 => ?_)
        have q_17 : y1_12.toInt < 3 → v_16.toInt ≤ 60 := by rw [ev_16]; have z1 := segM19_r hI (j := Int32.toNatClampNeg y1_12); have z2 := bn_clI (x := y1_12) (by omega); intro z3; exact (z1.2.2 (by omega)).2
        have q_18 : 0 ≤ v_16.toInt ∧ v_16.toInt ≤ 60 := by rw [ev_16]; have z1 := segM19_r hI (j := Int32.toNatClampNeg y1_12); have z2 := bn_clI (x := y1_12) (by omega); omega
        refine sg_iast hx hb hh hA hK hP hS 5 (by decide) 0 (fun _ => rfl) rfl (i := y1_12) (x := v_16) (vp_in_iff.mpr ⟨by omega, by omega⟩) dX12_back_28 (fun f_19 H locs ef_19 hP hS => ?_)
        have hI : sgI loM hiM f_19 := by rw [ef_19]; exact sgI.put hI 5 y1_12.toNatClampNeg (show 0 ≤ (v_16 : Int32).toInt ∧ (v_16 : Int32).toInt ≤ 60 from by omega)
        have hF : sgK WkX12_back f f_19 := sgK.put hF ef_19 (by rfl)
        obtain ⟨v_20, ev_20⟩ : ∃ z : Int32, z = y1_12 + 1 := ⟨_, rfl⟩
        have q_21 : v_20.toInt = y1_12.toInt + 1 := by rw [ev_20]; exact (bn_addc y1_12 1 (by decide) (by omega) (by omega))
        refine lv_iinc (v := v_20) (lv' := [(1, .int v_20), (0, .ref (h 0))]) hx hb dX12_back_29 hl (k := 1) rfl (by rw [ev_20]; rfl) (by decide) rfl (fun ls hl => ?_)
        refine lv_goto (tgt := 12) hx hb dX12_back_32 (by decide) ?_
        exact ih_12 v_20 f_19 _ _ _ (by omega) (by have zz0_43 : (f_19 0 43).toInt = v_1.toInt := (congrArg Int32.toInt (show f_19 0 43 = v_1 from (by rw [ef_19, sg_up_n (by decide)]; exact ev_1.symm))); omega) (by omega) hI hF hP hS (lv_sub hl [1, 0] rfl)
  refine lv_aload_n hx hb dX12_back_0 rfl (lv_at hl 0 rfl) ?_
  refine sg_get (ci := 12) (v := .int (f 0 43)) (C := RX12) (T := TX12) (N := 55) hx hb hts (fun w h => List.mem_cons_of_mem _ (gx_12 w h)) hown hK hP 0 (by decide) rfl rfl 43 (by decide) (hts _ (List.mem_cons_of_mem _ mw_613)) (fun _ h9 => h9) rfl dX12_back_1 ?_
  refine lv_topi (fun v_22 ev_22 => ?_)
  have q_23 : 0 ≤ v_22.toInt ∧ v_22.toInt ≤ 1 := by rw [ev_22]; exact hI 0 43
  refine lv_if_ne (tgt := 10) hx hb dX12_back_4 (by decide) (fun c => ?_) (fun c => ?_)
  · skip
    have c_24 : v_22.toInt ≠ 0 := (by have z := bn_ne c; have k1 : (0 : Int32).toInt = 0 := (by decide); omega)
    refine lv_iconst (v := 0) hx hb dX12_back_10 (by decide) ?_
    refine lv_istore_n (lv' := [(1, .int 0), (0, .ref (h 0))]) hx hb dX12_back_11 rfl hl (by decide) rfl (fun ls hl => ?_)
    exact loop_12 4 0 f _ _ _ (by have kc0 : (0 : Int32).toInt = 0 := (by decide); omega) (by have zz0_43 : (f 0 43).toInt = v_22.toInt := (congrArg Int32.toInt (show f 0 43 = v_22 from ev_22.symm)); omega) (by decide) hI hF hP hS (lv_sub hl [1, 0] rfl)
  · skip
    have c_25 : v_22.toInt = 0 := (by have z := Int32.toInt_inj.mpr c; have k1 : (0 : Int32).toInt = 0 := (by decide); omega)
    refine lv_bipush (v := (-5)) hx hb dX12_back_7 (by decide) ?_
    have k99 : ((-5) : Int32).toInt = (-5) := (by decide)
    exact hret _ _ _ _ (-5) f L Q dX12_back_9 hP hS ⟨⟨hI, hF, rfl, rfl⟩, trivial⟩

abbrev WkX12_body : List (Nat × Nat × Option Nat) := [(0, 0, some 45), (20, 20, none)]
set_option maxHeartbeats 4000000 in
set_option maxRecDepth 100000 in
theorem kX12_body (l : Launch) (D : va_G) (ca : Nat → ClassId) (za h : Nat → Nat) (hh : sgH 26 h) (f : sg_F) (L : sg_L) (Q : sg_Q) (hI : sgI loM hiM f) (x0 : Int32) (sz : Nat) : Met l yX12_body gwX12_body { frames := 1, cells := 0, slots := 0, locals := 25 } (sgP D vwCl (tyX ca) 26 h (eM ca h) zcM za f L Q sz [.ref (h 0), .int x0]) (sgQi D vwCl 26 h (eM ca h) sz (fun r f1 L1 Q1 => ((sgI loM hiM f1 ∧ sgK WkX12_body f f1 ∧ L1 = L ∧ Q1 = Q) ∧ ((¬ (0 ≤ x0.toInt ∧ x0.toInt ≤ 7) ∧ r.toInt = -1 ∧ (f1 0 45).toInt = (f 0 45).toInt) ∨ ((0 ≤ x0.toInt ∧ x0.toInt ≤ 7) ∧ (f 0 45).toInt = 50 ∧ r.toInt = -3 ∧ (f1 0 45).toInt = (f 0 45).toInt) ∨ ((0 ≤ x0.toInt ∧ x0.toInt ≤ 7) ∧ (f 0 45).toInt < 50 ∧ r.toInt = (f 0 45).toInt ∧ (f1 0 45).toInt = (f 0 45).toInt + 1))))) 0 0 (sgA 26 h sz) := by
  refine sg_ofWi (cc := cX12_body) (maxL := 2) RX12 (by decide) rfl rfl (Nat.le_of_ble_eq_true rfl) ?_
  intro p e s m below meth cd Qz ls hx hb hml hown hts hK hZ hP hS hl hret
  have hA := sgY.self (n := 26) (h := h) (sz := s.heap.size)
  have hl : lv_has ls 2 [(0, .ref (h 0)), (1, .int x0)] := hl
  obtain ⟨H, hH⟩ : ∃ z : Heap, z = s.heap := ⟨_, rfl⟩
  obtain ⟨locs, hlo⟩ : ∃ z : List Loc, z = [] := ⟨_, rfl⟩
  have hP : va_P D vwCl (sgw 26 h (eM ca h) f L Q) H := by rw [hH]; exact hP
  have hS : va_S (sgA 26 h s.heap.size) s.heap H locs := by rw [hH, hlo]; exact hS
  suffices hgo : W p l e ({ frames := 1, cells := 0, slots := 0, locals := 25 }) s m ([.ref (h 0), .int x0] : List Value).toArray below meth cd H locs 0 0 Qz (F0 m 0 ls []) by rw [hH, hlo] at hgo; exact hgo
  clear hH hlo
  obtain ⟨v_1, ev_1⟩ : ∃ z : Int32, z = f 0 45 := ⟨_, rfl⟩
  have q_2 : 0 ≤ v_1.toInt ∧ v_1.toInt ≤ 50 := by rw [ev_1]; exact hI 0 45
  have o_3 : (f 0 45).toInt = v_1.toInt := (congrArg Int32.toInt (show f 0 45 = v_1 from ev_1.symm))
  have hF : sgK WkX12_body f f := sgK.rf
  refine lv_iload_n hx hb dX12_body_0 rfl (lv_at hl 1 rfl) ?_
  obtain ⟨w_4, ew_4⟩ : ∃ z : Int64, z = Int32.toInt64 x0 := ⟨_, rfl⟩
  have q_5 : w_4.toInt = x0.toInt := by rw [ew_4]; exact Int32.toInt_toInt64 _
  refine lv_i2l (v := w_4) hx hb dX12_body_1 ew_4.symm ?_
  refine lv_lconst (v := 0) hx hb dX12_body_2 (by decide) ?_
  refine lv_ldc2 (v := 7) hx hb hown (hts _ (List.mem_cons_of_mem _ mw_620)) dX12_body_3 ?_
  refine sg_calli (va_runS (As := [.long w_4, .long 0, .long 7]) (rest := []) ⟨hx, hb, hml, hown, hts⟩ (kX12_within l D ca za h hh f L Q hI w_4 0 7 H.size) (va_cwS 3 hts (gw_S (fun _ h => List.mem_cons_of_mem _ h) mw_631 mw_632 mw_619 mw_630) rfl rfl rfl (by decide +kernel) ⟨Nat.le_of_ble_eq_true rfl, Nat.le_of_ble_eq_true rfl⟩) (sg_preS hA hK hP hS hZ) rfl rfl hl.1 rfl (lv_room (Nat.le_of_ble_eq_true rfl)) dX12_body_6 ⟨Nat.le_refl _, Nat.le_refl _⟩) hA hS (fun r_9 f_6 L_7 Q_8 H locs hq hP hS => ?_)
  obtain ⟨⟨ef9, eL9, eQ9⟩, hq⟩ := hq
  rw [ef9, eL9, eQ9] at hP; clear ef9 eL9 eQ9
  have k_10 : (0 : Int64).toInt = 0 := by decide
  have k_11 : (7 : Int64).toInt = 7 := by decide
  rcases hq with ⟨rfl, hq⟩ | ⟨rfl, hq⟩
  · skip
    have q_12 := hq
    refine lv_if_ne (tgt := 14) hx hb dX12_body_9 (by decide) (fun c => ?_) (fun c => absurd c (by decide))
    refine lv_aload_n hx hb dX12_body_14 rfl (lv_at hl 0 rfl) ?_
    refine sg_get (ci := 12) (v := .int v_1) (C := RX12) (T := TX12) (N := 55) hx hb hts (fun w h => List.mem_cons_of_mem _ (gx_12 w h)) hown hK hP 0 (by decide) rfl rfl 45 (by decide) (hts _ (List.mem_cons_of_mem _ mw_623)) (fun _ h9 => h9) (congrArg (fun z => some (Value.int z)) (show f 0 45 = v_1 from ev_1.symm)) dX12_body_15 ?_
    refine lv_bipush (v := 50) hx hb dX12_body_18 (by decide) ?_
    refine lv_icmp_ne (tgt := 26) hx hb dX12_body_20 (by decide) (fun c => ?_) (fun c => ?_)
    · skip
      have c_13 : v_1.toInt ≠ 50 := (by have z := bn_ne c; have k1 : (50 : Int32).toInt = 50 := (by decide); omega)
      refine lv_aload_n hx hb dX12_body_26 rfl (lv_at hl 0 rfl) ?_
      refine sg_get (ci := 12) (v := .ref (h 20)) (C := RX12) (T := TX12) (N := 55) hx hb hts (fun w h => List.mem_cons_of_mem _ (gx_12 w h)) hown hK hP 0 (by decide) rfl rfl 46 (by decide) (hts _ (List.mem_cons_of_mem _ mw_647)) (fun _ h9 => h9) rfl dX12_body_27 ?_
      refine lv_aload_n hx hb dX12_body_30 rfl (lv_at hl 0 rfl) ?_
      refine sg_get (ci := 12) (v := .int v_1) (C := RX12) (T := TX12) (N := 55) hx hb hts (fun w h => List.mem_cons_of_mem _ (gx_12 w h)) hown hK hP 0 (by decide) rfl rfl 45 (by decide) (hts _ (List.mem_cons_of_mem _ mw_623)) (fun _ h9 => h9) (congrArg (fun z => some (Value.int z)) (show f 0 45 = v_1 from ev_1.symm)) dX12_body_31 ?_
      refine lv_iload_n hx hb dX12_body_34 rfl (lv_at hl 1 rfl) ?_
      refine sg_iast hx hb hh hA hK hP hS 20 (by decide) 0 (fun _ => rfl) rfl (i := v_1) (x := x0) (vp_in_iff.mpr ⟨by omega, by omega⟩) dX12_body_35 (fun f_15 H locs ef_15 hP hS => ?_)
      have hI : sgI loM hiM f_15 := by rw [ef_15]; exact sgI.put hI 20 v_1.toNatClampNeg (show 0 ≤ (x0 : Int32).toInt ∧ (x0 : Int32).toInt ≤ 7 from by omega)
      have hF : sgK WkX12_body f f_15 := sgK.put hF ef_15 (by rfl)
      refine lv_aload_n hx hb dX12_body_36 rfl (lv_at hl 0 rfl) ?_
      refine lv_dup hx hb dX12_body_37 rfl ?_
      refine sg_get (ci := 12) (v := .int v_1) (C := RX12) (T := TX12) (N := 55) hx hb hts (fun w h => List.mem_cons_of_mem _ (gx_12 w h)) hown hK hP 0 (by decide) rfl rfl 45 (by decide) (hts _ (List.mem_cons_of_mem _ mw_623)) (fun _ h9 => h9) (congrArg (fun z => some (Value.int z)) (show f_15 0 45 = v_1 from (by rw [ef_15, sg_up_n (by decide)]; exact ev_1.symm))) dX12_body_38 ?_
      refine lv_iconst (v := 1) hx hb dX12_body_41 (by decide) ?_
      refine lv_iadd hx hb dX12_body_42 ?_
      refine lv_topi (fun v_16 ev_16 => ?_)
      have q_17 : v_16.toInt = v_1.toInt + 1 := by rw [ev_16]; have k1 : (1 : Int32).toInt = 1 := (by decide); exact (bn_addI (by omega) (by omega)).trans (by omega)
      refine sg_put (ci := 12) (x := v_16) (ty := .int) (C := RX12) (T := TX12) (N := 55) hx hb hts (fun w h => List.mem_cons_of_mem _ (gx_12 w h)) tyX12 tyX12_ok nmX12 hown hh hA hK hP hS 0 (by decide) rfl rfl 45 (by decide) (hts _ (List.mem_cons_of_mem _ mw_623)) (fun _ h9 => h9) rfl rfl (by decide +kernel) rfl rfl (Nat.le_of_ble_eq_true rfl) dX12_body_43 (fun f_18 H locs ef_18 hP hS => ?_)
      have hI : sgI loM hiM f_18 := by rw [ef_18]; exact sgI.put hI 0 45 (show 0 ≤ (v_16 : Int32).toInt ∧ (v_16 : Int32).toInt ≤ 50 from by omega)
      have hF : sgK WkX12_body f f_18 := sgK.put hF ef_18 (by rfl)
      refine lv_aload_n hx hb dX12_body_46 rfl (lv_at hl 0 rfl) ?_
      refine sg_get (ci := 12) (v := .int v_16) (C := RX12) (T := TX12) (N := 55) hx hb hts (fun w h => List.mem_cons_of_mem _ (gx_12 w h)) hown hK hP 0 (by decide) rfl rfl 45 (by decide) (hts _ (List.mem_cons_of_mem _ mw_623)) (fun _ h9 => h9) (congrArg (fun z => some (Value.int z)) (show f_18 0 45 = v_16 from (by rw [ef_18, sg_up_s, sgu_s]))) dX12_body_47 ?_
      refine lv_iconst (v := 1) hx hb dX12_body_50 (by decide) ?_
      refine lv_isub hx hb dX12_body_51 ?_
      refine lv_topi (fun v_19 ev_19 => ?_)
      have q_20 : v_19.toInt = v_16.toInt - 1 := by rw [ev_19]; have k1 : (1 : Int32).toInt = 1 := (by decide); exact (bn_subI (by omega) (by omega)).trans (by omega)
      have q_21 : (f_18 0 45).toInt = v_16.toInt := (congrArg Int32.toInt (show f_18 0 45 = v_16 from (by rw [ef_18, sg_up_s, sgu_s])))
      have q_22 : (f_18 0 45).toInt = v_16.toInt := (congrArg Int32.toInt (show f_18 0 45 = v_16 from (by rw [ef_18, sg_up_s, sgu_s])))
      have q_23 : (f_18 0 45).toInt = v_16.toInt := (congrArg Int32.toInt (show f_18 0 45 = v_16 from (by rw [ef_18, sg_up_s, sgu_s])))
      exact hret _ _ _ _ (v_19) f_18 L Q dX12_body_52 hP hS ⟨⟨hI, hF, rfl, rfl⟩, (by first | exact Or.inl (by omega) | exact Or.inr (Or.inl (by omega)) | exact Or.inr (Or.inr ((by omega))))⟩
    · skip
      have c_14 : v_1.toInt = 50 := (by have z := Int32.toInt_inj.mpr c; have k1 : (50 : Int32).toInt = 50 := (by decide); omega)
      refine lv_bipush (v := (-3)) hx hb dX12_body_23 (by decide) ?_
      have q_24 : (f 0 45).toInt = v_1.toInt := (congrArg Int32.toInt (show f 0 45 = v_1 from ev_1.symm))
      have q_25 : (f 0 45).toInt = v_1.toInt := (congrArg Int32.toInt (show f 0 45 = v_1 from ev_1.symm))
      have q_26 : (f 0 45).toInt = v_1.toInt := (congrArg Int32.toInt (show f 0 45 = v_1 from ev_1.symm))
      have k99 : ((-3) : Int32).toInt = (-3) := (by decide)
      exact hret _ _ _ _ (-3) f L Q dX12_body_25 hP hS ⟨⟨hI, hF, rfl, rfl⟩, (by first | exact Or.inl (by omega) | exact Or.inr (Or.inl (by omega)) | exact Or.inr (Or.inr ((by omega))))⟩
  · skip
    have q_27 := hq
    refine lv_if_ne (tgt := 14) hx hb dX12_body_9 (by decide) (fun c => absurd c (by decide)) (fun c => ?_)
    refine lv_iconst (v := (-1)) hx hb dX12_body_12 (by decide) ?_
    have q_28 : (f 0 45).toInt = v_1.toInt := (congrArg Int32.toInt (show f 0 45 = v_1 from ev_1.symm))
    have q_29 : (f 0 45).toInt = v_1.toInt := (congrArg Int32.toInt (show f 0 45 = v_1 from ev_1.symm))
    have q_30 : (f 0 45).toInt = v_1.toInt := (congrArg Int32.toInt (show f 0 45 = v_1 from ev_1.symm))
    have k99 : ((-1) : Int32).toInt = (-1) := (by decide)
    exact hret _ _ _ _ (-1) f L Q dX12_body_13 hP hS ⟨⟨hI, hF, rfl, rfl⟩, (by first | exact Or.inl (by omega) | exact Or.inr (Or.inl (by omega)) | exact Or.inr (Or.inr ((by omega))))⟩

set_option maxHeartbeats 4000000 in
set_option maxRecDepth 100000 in
theorem kX12_isBody (l : Launch) (D : va_G) (ca : Nat → ClassId) (za h : Nat → Nat) (hh : sgH 26 h) (f : sg_F) (L : sg_L) (Q : sg_Q) (hI : sgI loM hiM f) (x0 : Int32) (sz : Nat) : Met l yX12_isBody gwX12_isBody { frames := 1, cells := 0, slots := 0, locals := 25 } (sgP D vwCl (tyX ca) 26 h (eM ca h) zcM za f L Q sz [.ref (h 0), .int x0]) (sgQi D vwCl 26 h (eM ca h) sz (fun r f1 L1 Q1 => ((f1 = f ∧ L1 = L ∧ Q1 = Q) ∧ ((r = 1 ∧ (0 ≤ x0.toInt ∧ x0.toInt < (f 0 45).toInt)) ∨ (r = 0 ∧ (¬ (0 ≤ x0.toInt ∧ x0.toInt < (f 0 45).toInt))))))) 0 0 (sgA 26 h sz) := by
  refine sg_ofWz (cc := cX12_isBody) (maxL := 2) RX12 (by decide) rfl rfl (Nat.le_of_ble_eq_true rfl) ?_
  intro p e s m below meth cd Qz ls hx hb hml hown hts hK hZ hP hS hl hret
  have hA := sgY.self (n := 26) (h := h) (sz := s.heap.size)
  have hl : lv_has ls 2 [(0, .ref (h 0)), (1, .int x0)] := hl
  obtain ⟨H, hH⟩ : ∃ z : Heap, z = s.heap := ⟨_, rfl⟩
  obtain ⟨locs, hlo⟩ : ∃ z : List Loc, z = [] := ⟨_, rfl⟩
  have hP : va_P D vwCl (sgw 26 h (eM ca h) f L Q) H := by rw [hH]; exact hP
  have hS : va_S (sgA 26 h s.heap.size) s.heap H locs := by rw [hH, hlo]; exact hS
  suffices hgo : W p l e ({ frames := 1, cells := 0, slots := 0, locals := 25 }) s m ([.ref (h 0), .int x0] : List Value).toArray below meth cd H locs 0 0 Qz (F0 m 0 ls []) by rw [hH, hlo] at hgo; exact hgo
  clear hH hlo
  obtain ⟨v_1, ev_1⟩ : ∃ z : Int32, z = f 0 45 := ⟨_, rfl⟩
  have q_2 : 0 ≤ v_1.toInt ∧ v_1.toInt ≤ 50 := by rw [ev_1]; exact hI 0 45
  have o_3 : (f 0 45).toInt = v_1.toInt := (congrArg Int32.toInt (show f 0 45 = v_1 from ev_1.symm))
  refine lv_iload_n hx hb dX12_isBody_0 rfl (lv_at hl 1 rfl) ?_
  obtain ⟨w_4, ew_4⟩ : ∃ z : Int64, z = Int32.toInt64 x0 := ⟨_, rfl⟩
  have q_5 : w_4.toInt = x0.toInt := by rw [ew_4]; exact Int32.toInt_toInt64 _
  refine lv_i2l (v := w_4) hx hb dX12_isBody_1 ew_4.symm ?_
  refine lv_lconst (v := 0) hx hb dX12_isBody_2 (by decide) ?_
  refine lv_aload_n hx hb dX12_isBody_3 rfl (lv_at hl 0 rfl) ?_
  refine sg_get (ci := 12) (v := .int v_1) (C := RX12) (T := TX12) (N := 55) hx hb hts (fun w h => List.mem_cons_of_mem _ (gx_12 w h)) hown hK hP 0 (by decide) rfl rfl 45 (by decide) (hts _ (List.mem_cons_of_mem _ mw_623)) (fun _ h9 => h9) (congrArg (fun z => some (Value.int z)) (show f 0 45 = v_1 from ev_1.symm)) dX12_isBody_4 ?_
  refine lv_iconst (v := 1) hx hb dX12_isBody_7 (by decide) ?_
  refine lv_isub hx hb dX12_isBody_8 ?_
  refine lv_topi (fun v_6 ev_6 => ?_)
  have q_7 : v_6.toInt = v_1.toInt - 1 := by rw [ev_6]; have k1 : (1 : Int32).toInt = 1 := (by decide); exact (bn_subI (by omega) (by omega)).trans (by omega)
  obtain ⟨w_8, ew_8⟩ : ∃ z : Int64, z = Int32.toInt64 v_6 := ⟨_, rfl⟩
  have q_9 : w_8.toInt = v_6.toInt := by rw [ew_8]; exact Int32.toInt_toInt64 _
  refine lv_i2l (v := w_8) hx hb dX12_isBody_9 ew_8.symm ?_
  refine sg_calli (va_runS (As := [.long w_4, .long 0, .long w_8]) (rest := []) ⟨hx, hb, hml, hown, hts⟩ (kX12_within l D ca za h hh f L Q hI w_4 0 w_8 H.size) (va_cwS 3 hts (gw_S (fun _ h => List.mem_cons_of_mem _ h) mw_631 mw_632 mw_619 mw_630) rfl rfl rfl (by decide +kernel) ⟨Nat.le_of_ble_eq_true rfl, Nat.le_of_ble_eq_true rfl⟩) (sg_preS hA hK hP hS hZ) rfl rfl hl.1 rfl (lv_room (Nat.le_of_ble_eq_true rfl)) dX12_isBody_10 ⟨Nat.le_refl _, Nat.le_refl _⟩) hA hS (fun r_13 f_10 L_11 Q_12 H locs hq hP hS => ?_)
  obtain ⟨⟨ef9, eL9, eQ9⟩, hq⟩ := hq
  rw [ef9, eL9, eQ9] at hP; clear ef9 eL9 eQ9
  have k_14 : (0 : Int64).toInt = 0 := by decide
  rcases hq with ⟨rfl, hq⟩ | ⟨rfl, hq⟩
  · skip
    have q_15 := hq
    have k99 : (1 : Int32).toInt = 1 := (by decide)
    exact hret _ _ _ _ (1) f L Q dX12_isBody_13 (by decide) hP hS ⟨⟨rfl, rfl, rfl⟩, Or.inl ⟨rfl, by omega⟩⟩
  · skip
    have q_16 := hq
    have k99 : (0 : Int32).toInt = 0 := (by decide)
    exact hret _ _ _ _ (0) f L Q dX12_isBody_13 (by decide) hP hS ⟨⟨rfl, rfl, rfl⟩, Or.inr (⟨rfl, by omega⟩)⟩

abbrev WkX12_begins_1_f0 : List (Nat × Nat × Option Nat) := [(0, 0, some 48), (21, 21, none)]
set_option maxHeartbeats 4000000 in
set_option maxRecDepth 100000 in
theorem kX12_begins_1_f0 (l : Launch) (D : va_G) (ca : Nat → ClassId) (za h : Nat → Nat) (hh : sgH 26 h) (f : sg_F) (L : sg_L) (Q : sg_Q) (hI : sgI loM hiM f) (hf_0_48 : f 0 48 = 0) (p0 : 0 ≤ (f 0 48).toInt ∧ (f 0 48).toInt ≤ 0) (sz : Nat) : Met l yX12_begins gwX12_begins { frames := 0, cells := 0, slots := 0, locals := 0 } (sgP D vwCl (tyX ca) 26 h (eM ca h) zcM za f L Q sz [.ref (h 0), .int 1]) (sgQv D vwCl 26 h (eM ca h) sz (fun f1 L1 Q1 => ((sgI loM hiM f1 ∧ sgK WkX12_begins_1_f0 f f1 ∧ L1 = L ∧ Q1 = Q) ∧ (1 ≤ (f1 0 48).toInt ∧ (f1 0 48).toInt ≤ 1)))) 0 0 (sgA 26 h sz) := by
  refine sg_ofWv (cc := cX12_begins) (maxL := 2) RX12 (by decide) rfl rfl (Nat.le_of_ble_eq_true rfl) ?_
  intro p e s m below meth cd Qz ls hx hb hml hown hts hK hZ hP hS hl hret
  have hA := sgY.self (n := 26) (h := h) (sz := s.heap.size)
  have hl : lv_has ls 2 [(0, .ref (h 0)), (1, .int 1)] := hl
  obtain ⟨H, hH⟩ : ∃ z : Heap, z = s.heap := ⟨_, rfl⟩
  obtain ⟨locs, hlo⟩ : ∃ z : List Loc, z = [] := ⟨_, rfl⟩
  have hP : va_P D vwCl (sgw 26 h (eM ca h) f L Q) H := by rw [hH]; exact hP
  have hS : va_S (sgA 26 h s.heap.size) s.heap H locs := by rw [hH, hlo]; exact hS
  suffices hgo : W p l e ({ frames := 0, cells := 0, slots := 0, locals := 0 }) s m ([.ref (h 0), .int 1] : List Value).toArray below meth cd H locs 0 0 Qz (F0 m 0 ls []) by rw [hH, hlo] at hgo; exact hgo
  clear hH hlo
  have o_1 : (f 0 48).toInt = 0 := (congrArg Int32.toInt (show f 0 48 = 0 from hf_0_48)).trans (by decide)
  have hF : sgK WkX12_begins_1_f0 f f := sgK.rf
  have blk_19 : ∀ (fp_19 : sg_F) (H : Heap) (locs : List Loc) (ls : Array Slot), 0 ≤ (fp_19 0 48).toInt ∧ (fp_19 0 48).toInt ≤ 0 → sgI loM hiM fp_19 → sgK WkX12_begins_1_f0 f fp_19 → va_P D vwCl (sgw 26 h (eM ca h) fp_19 L Q) H → va_S (sgA 26 h s.heap.size) s.heap H locs → lv_has ls 2 [(0, .ref (h 0))] → W p l e ({ frames := 0, cells := 0, slots := 0, locals := 0 }) s m ([.ref (h 0), .int 1] : List Value).toArray below meth cd H locs 0 0 Qz (F0 m 19 ls []) := by
    intro fp_19 H locs ls hy0_19 hI hF hP hS hl
    obtain ⟨v_2, ev_2⟩ : ∃ z : Int32, z = fp_19 0 48 := ⟨_, rfl⟩
    have q_3 : 0 ≤ v_2.toInt ∧ v_2.toInt ≤ 19 := by rw [ev_2]; exact hI 0 48
    have q_4 : (fp_19 0 48).toInt = v_2.toInt := by rw [ev_2]
    refine lv_aload_n hx hb dX12_begins_19 rfl (lv_at hl 0 rfl) ?_
    refine lv_dup hx hb dX12_begins_20 rfl ?_
    refine sg_get (ci := 12) (v := .int v_2) (C := RX12) (T := TX12) (N := 55) hx hb hts (fun w h => List.mem_cons_of_mem _ (gx_12 w h)) hown hK hP 0 (by decide) rfl rfl 48 (by decide) (hts _ (List.mem_cons_of_mem _ mw_621)) (fun _ h9 => h9) (congrArg (fun z => some (Value.int z)) (show fp_19 0 48 = v_2 from ev_2.symm)) dX12_begins_21 ?_
    refine lv_iconst (v := 1) hx hb dX12_begins_24 (by decide) ?_
    refine lv_iadd hx hb dX12_begins_25 ?_
    refine lv_topi (fun v_5 ev_5 => ?_)
    have q_6 : v_5.toInt = v_2.toInt + 1 := by rw [ev_5]; have k1 : (1 : Int32).toInt = 1 := (by decide); exact (bn_addI (by omega) (by omega)).trans (by omega)
    refine sg_put (ci := 12) (x := v_5) (ty := .int) (C := RX12) (T := TX12) (N := 55) hx hb hts (fun w h => List.mem_cons_of_mem _ (gx_12 w h)) tyX12 tyX12_ok nmX12 hown hh hA hK hP hS 0 (by decide) rfl rfl 48 (by decide) (hts _ (List.mem_cons_of_mem _ mw_621)) (fun _ h9 => h9) rfl rfl (by decide +kernel) rfl rfl (Nat.le_of_ble_eq_true rfl) dX12_begins_26 (fun f_7 H locs ef_7 hP hS => ?_)
    have hI : sgI loM hiM f_7 := by rw [ef_7]; exact sgI.put hI 0 48 (show 0 ≤ (v_5 : Int32).toInt ∧ (v_5 : Int32).toInt ≤ 19 from by omega)
    have hF : sgK WkX12_begins_1_f0 f f_7 := sgK.put hF ef_7 (by rfl)
    have q_8 : (f_7 0 48).toInt = v_5.toInt := (congrArg Int32.toInt (show f_7 0 48 = v_5 from (by rw [ef_7, sg_up_s, sgu_s])))
    have q_9 : (f_7 0 48).toInt = v_5.toInt := (congrArg Int32.toInt (show f_7 0 48 = v_5 from (by rw [ef_7, sg_up_s, sgu_s])))
    exact hret _ _ _ _ f_7 L Q dX12_begins_29 hP hS ⟨⟨hI, hF, rfl, rfl⟩, (by omega)⟩
  refine lv_aload_n hx hb dX12_begins_0 rfl (lv_at hl 0 rfl) ?_
  refine sg_get (ci := 12) (v := .int 0) (C := RX12) (T := TX12) (N := 55) hx hb hts (fun w h => List.mem_cons_of_mem _ (gx_12 w h)) hown hK hP 0 (by decide) rfl rfl 48 (by decide) (hts _ (List.mem_cons_of_mem _ mw_621)) (fun _ h9 => h9) (congrArg (fun z => some (Value.int z)) (show f 0 48 = 0 from hf_0_48)) dX12_begins_1 ?_
  refine lv_bipush (v := 24) hx hb dX12_begins_4 (by decide) ?_
  refine lv_icmp_ge (tgt := 19) hx hb dX12_begins_6 (by decide) (fun c => absurd c (by decide)) (fun c => ?_)
  refine lv_aload_n hx hb dX12_begins_9 rfl (lv_at hl 0 rfl) ?_
  refine sg_get (ci := 12) (v := .ref (h 21)) (C := RX12) (T := TX12) (N := 55) hx hb hts (fun w h => List.mem_cons_of_mem _ (gx_12 w h)) hown hK hP 0 (by decide) rfl rfl 47 (by decide) (hts _ (List.mem_cons_of_mem _ mw_718)) (fun _ h9 => h9) rfl dX12_begins_10 ?_
  refine lv_aload_n hx hb dX12_begins_13 rfl (lv_at hl 0 rfl) ?_
  refine sg_get (ci := 12) (v := .int 0) (C := RX12) (T := TX12) (N := 55) hx hb hts (fun w h => List.mem_cons_of_mem _ (gx_12 w h)) hown hK hP 0 (by decide) rfl rfl 48 (by decide) (hts _ (List.mem_cons_of_mem _ mw_621)) (fun _ h9 => h9) (congrArg (fun z => some (Value.int z)) (show f 0 48 = 0 from hf_0_48)) dX12_begins_14 ?_
  refine lv_iload_n hx hb dX12_begins_17 rfl (lv_at hl 1 rfl) ?_
  refine sg_iast hx hb hh hA hK hP hS 21 (by decide) 0 (fun _ => rfl) rfl (i := 0) (x := 1) (vp_in_iff.mpr (by decide)) dX12_begins_18 (fun f_10 H locs ef_10 hP hS => ?_)
  have hI : sgI loM hiM f_10 := by rw [ef_10]; exact sgI.put hI 21 (Int32.toNatClampNeg 0) (show 0 ≤ (1 : Int32).toInt ∧ (1 : Int32).toInt ≤ 81 from by decide)
  have hF : sgK WkX12_begins_1_f0 f f_10 := sgK.put hF ef_10 (by rfl)
  exact blk_19 f_10 _ _ _ (by have zz0_48 : (f_10 0 48).toInt = 0 := (congrArg Int32.toInt (show f_10 0 48 = 0 from (by rw [ef_10, sg_up_n (by decide)]; exact hf_0_48))).trans (by decide); omega) hI hF hP hS (lv_sub hl [0] rfl)

abbrev WkX12_setsAs_0_f0_f0 : List (Nat × Nat × Option Nat) := [(0, 0, some 48), (21, 21, none)]
set_option maxHeartbeats 4000000 in
set_option maxRecDepth 100000 in
theorem kX12_setsAs_0_f0_f0 (l : Launch) (D : va_G) (ca : Nat → ClassId) (za h : Nat → Nat) (hh : sgH 26 h) (f : sg_F) (L : sg_L) (Q : sg_Q) (hI : sgI loM hiM f) (x1 : Int32) (hf_0_48 : f 0 48 = 0) (hf_0_49 : f 0 49 = 0) (p0 : 0 ≤ (f 0 48).toInt ∧ (f 0 48).toInt ≤ 0) (sz : Nat) : Met l yX12_setsAs gwX12_setsAs { frames := 1, cells := 0, slots := 0, locals := 21 } (sgP D vwCl (tyX ca) 26 h (eM ca h) zcM za f L Q sz [.ref (h 0), .int 0, .int x1]) (sgQi D vwCl 26 h (eM ca h) sz (fun r f1 L1 Q1 => ((sgI loM hiM f1 ∧ sgK WkX12_setsAs_0_f0_f0 f f1 ∧ L1 = L ∧ Q1 = Q) ∧ True ∧ (1 ≤ (f1 0 48).toInt ∧ (f1 0 48).toInt ≤ 1)))) 0 0 (sgA 26 h sz) := by
  refine sg_ofWi (cc := cX12_setsAs) (maxL := 3) RX12 (by decide) rfl rfl (Nat.le_of_ble_eq_true rfl) ?_
  intro p e s m below meth cd Qz ls hx hb hml hown hts hK hZ hP hS hl hret
  have hA := sgY.self (n := 26) (h := h) (sz := s.heap.size)
  have hl : lv_has ls 3 [(0, .ref (h 0)), (1, .int 0), (2, .int x1)] := hl
  obtain ⟨H, hH⟩ : ∃ z : Heap, z = s.heap := ⟨_, rfl⟩
  obtain ⟨locs, hlo⟩ : ∃ z : List Loc, z = [] := ⟨_, rfl⟩
  have hP : va_P D vwCl (sgw 26 h (eM ca h) f L Q) H := by rw [hH]; exact hP
  have hS : va_S (sgA 26 h s.heap.size) s.heap H locs := by rw [hH, hlo]; exact hS
  suffices hgo : W p l e ({ frames := 1, cells := 0, slots := 0, locals := 21 }) s m ([.ref (h 0), .int 0, .int x1] : List Value).toArray below meth cd H locs 0 0 Qz (F0 m 0 ls []) by rw [hH, hlo] at hgo; exact hgo
  clear hH hlo
  have o_1 : (f 0 48).toInt = 0 := (congrArg Int32.toInt (show f 0 48 = 0 from hf_0_48)).trans (by decide)
  have hF : sgK WkX12_setsAs_0_f0_f0 f f := sgK.rf
  refine lv_iload_n hx hb dX12_setsAs_0 rfl (lv_at hl 1 rfl) ?_
  refine lv_iconst (v := 1) hx hb dX12_setsAs_1 (by decide) ?_
  refine lv_icmp_eq (tgt := 16) hx hb dX12_setsAs_2 (by decide) (fun c => absurd c (by decide)) (fun c => ?_)
  refine lv_iload_n hx hb dX12_setsAs_5 rfl (lv_at hl 1 rfl) ?_
  refine lv_iconst (v := 4) hx hb dX12_setsAs_6 (by decide) ?_
  refine lv_icmp_eq (tgt := 16) hx hb dX12_setsAs_7 (by decide) (fun c => absurd c (by decide)) (fun c => ?_)
  refine lv_iload_n hx hb dX12_setsAs_10 rfl (lv_at hl 1 rfl) ?_
  refine lv_bipush (v := 7) hx hb dX12_setsAs_11 (by decide) ?_
  refine lv_icmp_ne (tgt := 31) hx hb dX12_setsAs_13 (by decide) (fun c => ?_) (fun c => absurd c (by decide))
  refine lv_iload_n hx hb dX12_setsAs_31 rfl (lv_at hl 1 rfl) ?_
  refine lv_bipush (v := 6) hx hb dX12_setsAs_32 (by decide) ?_
  refine lv_icmp_ne (tgt := 52) hx hb dX12_setsAs_34 (by decide) (fun c => ?_) (fun c => absurd c (by decide))
  refine lv_aload_n hx hb dX12_setsAs_52 rfl (lv_at hl 0 rfl) ?_
  refine lv_iconst (v := 1) hx hb dX12_setsAs_53 (by decide) ?_
  have q_2 : (f 0 48).toInt = 0 := (congrArg Int32.toInt (show f 0 48 = 0 from hf_0_48)).trans (by decide)
  have q_3 : (f 0 48).toInt = 0 := (congrArg Int32.toInt (show f 0 48 = 0 from hf_0_48)).trans (by decide)
  refine sg_callv (va_runV (As := [.int 1]) (rest := []) ⟨hx, hb, hml, hown, hts⟩ (kX12_begins_1_f0 l D ca za h hh f L Q hI hf_0_48 (by have k0 : (1 : Int32).toInt = 1 := (by decide); omega) H.size) (cwV 1 hts (gw_V (fun _ h => List.mem_cons_of_mem _ h) mw_734 mw_735 mw_736 mw_619 mw_733) rfl rfl rfl (by decide +kernel) ⟨Nat.le_of_ble_eq_true rfl, Nat.le_of_ble_eq_true rfl⟩) (sg_preV (ci := 12) (C := RX12) (T := TX12) (N := 55) hA hK hP hS hZ 0 (by decide) rfl rfl) rfl rfl hl.1 rfl (lv_room (Nat.le_of_ble_eq_true rfl)) dX12_setsAs_54 ⟨Nat.le_refl _, Nat.le_refl _⟩) hA hS (fun f_4 L_5 Q_6 H locs hq hP hS => ?_)
  obtain ⟨⟨hI, hk_f_4, eL9, eQ9⟩, p_7⟩ := hq
  rw [eL9, eQ9] at hP; clear eL9 eQ9
  have hF : sgK WkX12_setsAs_0_f0_f0 f f_4 := sgK.tr hF hk_f_4 (by decide)
  obtain ⟨v_8, ev_8⟩ : ∃ z : Int32, z = f_4 0 48 := ⟨_, rfl⟩
  have q_9 : 0 ≤ v_8.toInt ∧ v_8.toInt ≤ 19 := by rw [ev_8]; exact hI 0 48
  have q_10 : (f_4 0 48).toInt = v_8.toInt := (congrArg Int32.toInt (show f_4 0 48 = v_8 from ev_8.symm))
  have q_11 : (f_4 0 48).toInt = v_8.toInt := (congrArg Int32.toInt (show f_4 0 48 = v_8 from ev_8.symm))
  refine lv_iload_n hx hb dX12_setsAs_57 rfl (lv_at hl 2 rfl) ?_
  refine lv_aload_n hx hb dX12_setsAs_58 rfl (lv_at hl 0 rfl) ?_
  refine sg_get (ci := 12) (v := .int (f_4 0 50)) (C := RX12) (T := TX12) (N := 55) hx hb hts (fun w h => List.mem_cons_of_mem _ (gx_12 w h)) hown hK hP 0 (by decide) rfl rfl 50 (by decide) (hts _ (List.mem_cons_of_mem _ mw_680)) (fun _ h9 => h9) rfl dX12_setsAs_59 ?_
  refine lv_topi (fun v_12 ev_12 => ?_)
  have q_13 : 0 ≤ v_12.toInt ∧ v_12.toInt ≤ 49 := by rw [ev_12]; exact hI 0 50
  refine lv_iadd hx hb dX12_setsAs_62 ?_
  refine lv_topi (fun v_14 ev_14 => ?_)
  have q_15 : (f_4 0 48).toInt = v_8.toInt := (congrArg Int32.toInt (show f_4 0 48 = v_8 from ev_8.symm))
  have q_16 : (f_4 0 48).toInt = v_8.toInt := (congrArg Int32.toInt (show f_4 0 48 = v_8 from ev_8.symm))
  exact hret _ _ _ _ (v_14) f_4 L Q dX12_setsAs_63 hP hS ⟨⟨hI, hF, rfl, rfl⟩, trivial, (by omega)⟩

abbrev WkX12_begins_20_f0 : List (Nat × Nat × Option Nat) := [(0, 0, some 48), (21, 21, none)]
set_option maxHeartbeats 4000000 in
set_option maxRecDepth 100000 in
theorem kX12_begins_20_f0 (l : Launch) (D : va_G) (ca : Nat → ClassId) (za h : Nat → Nat) (hh : sgH 26 h) (f : sg_F) (L : sg_L) (Q : sg_Q) (hI : sgI loM hiM f) (hf_0_48 : f 0 48 = 0) (p0 : 0 ≤ (f 0 48).toInt ∧ (f 0 48).toInt ≤ 0) (sz : Nat) : Met l yX12_begins gwX12_begins { frames := 0, cells := 0, slots := 0, locals := 0 } (sgP D vwCl (tyX ca) 26 h (eM ca h) zcM za f L Q sz [.ref (h 0), .int 20]) (sgQv D vwCl 26 h (eM ca h) sz (fun f1 L1 Q1 => ((sgI loM hiM f1 ∧ sgK WkX12_begins_20_f0 f f1 ∧ L1 = L ∧ Q1 = Q) ∧ (1 ≤ (f1 0 48).toInt ∧ (f1 0 48).toInt ≤ 1)))) 0 0 (sgA 26 h sz) := by
  refine sg_ofWv (cc := cX12_begins) (maxL := 2) RX12 (by decide) rfl rfl (Nat.le_of_ble_eq_true rfl) ?_
  intro p e s m below meth cd Qz ls hx hb hml hown hts hK hZ hP hS hl hret
  have hA := sgY.self (n := 26) (h := h) (sz := s.heap.size)
  have hl : lv_has ls 2 [(0, .ref (h 0)), (1, .int 20)] := hl
  obtain ⟨H, hH⟩ : ∃ z : Heap, z = s.heap := ⟨_, rfl⟩
  obtain ⟨locs, hlo⟩ : ∃ z : List Loc, z = [] := ⟨_, rfl⟩
  have hP : va_P D vwCl (sgw 26 h (eM ca h) f L Q) H := by rw [hH]; exact hP
  have hS : va_S (sgA 26 h s.heap.size) s.heap H locs := by rw [hH, hlo]; exact hS
  suffices hgo : W p l e ({ frames := 0, cells := 0, slots := 0, locals := 0 }) s m ([.ref (h 0), .int 20] : List Value).toArray below meth cd H locs 0 0 Qz (F0 m 0 ls []) by rw [hH, hlo] at hgo; exact hgo
  clear hH hlo
  have o_1 : (f 0 48).toInt = 0 := (congrArg Int32.toInt (show f 0 48 = 0 from hf_0_48)).trans (by decide)
  have hF : sgK WkX12_begins_20_f0 f f := sgK.rf
  have blk_19 : ∀ (fp_19 : sg_F) (H : Heap) (locs : List Loc) (ls : Array Slot), 0 ≤ (fp_19 0 48).toInt ∧ (fp_19 0 48).toInt ≤ 0 → sgI loM hiM fp_19 → sgK WkX12_begins_20_f0 f fp_19 → va_P D vwCl (sgw 26 h (eM ca h) fp_19 L Q) H → va_S (sgA 26 h s.heap.size) s.heap H locs → lv_has ls 2 [(0, .ref (h 0))] → W p l e ({ frames := 0, cells := 0, slots := 0, locals := 0 }) s m ([.ref (h 0), .int 20] : List Value).toArray below meth cd H locs 0 0 Qz (F0 m 19 ls []) := by
    intro fp_19 H locs ls hy0_19 hI hF hP hS hl
    obtain ⟨v_2, ev_2⟩ : ∃ z : Int32, z = fp_19 0 48 := ⟨_, rfl⟩
    have q_3 : 0 ≤ v_2.toInt ∧ v_2.toInt ≤ 19 := by rw [ev_2]; exact hI 0 48
    have q_4 : (fp_19 0 48).toInt = v_2.toInt := by rw [ev_2]
    refine lv_aload_n hx hb dX12_begins_19 rfl (lv_at hl 0 rfl) ?_
    refine lv_dup hx hb dX12_begins_20 rfl ?_
    refine sg_get (ci := 12) (v := .int v_2) (C := RX12) (T := TX12) (N := 55) hx hb hts (fun w h => List.mem_cons_of_mem _ (gx_12 w h)) hown hK hP 0 (by decide) rfl rfl 48 (by decide) (hts _ (List.mem_cons_of_mem _ mw_621)) (fun _ h9 => h9) (congrArg (fun z => some (Value.int z)) (show fp_19 0 48 = v_2 from ev_2.symm)) dX12_begins_21 ?_
    refine lv_iconst (v := 1) hx hb dX12_begins_24 (by decide) ?_
    refine lv_iadd hx hb dX12_begins_25 ?_
    refine lv_topi (fun v_5 ev_5 => ?_)
    have q_6 : v_5.toInt = v_2.toInt + 1 := by rw [ev_5]; have k1 : (1 : Int32).toInt = 1 := (by decide); exact (bn_addI (by omega) (by omega)).trans (by omega)
    refine sg_put (ci := 12) (x := v_5) (ty := .int) (C := RX12) (T := TX12) (N := 55) hx hb hts (fun w h => List.mem_cons_of_mem _ (gx_12 w h)) tyX12 tyX12_ok nmX12 hown hh hA hK hP hS 0 (by decide) rfl rfl 48 (by decide) (hts _ (List.mem_cons_of_mem _ mw_621)) (fun _ h9 => h9) rfl rfl (by decide +kernel) rfl rfl (Nat.le_of_ble_eq_true rfl) dX12_begins_26 (fun f_7 H locs ef_7 hP hS => ?_)
    have hI : sgI loM hiM f_7 := by rw [ef_7]; exact sgI.put hI 0 48 (show 0 ≤ (v_5 : Int32).toInt ∧ (v_5 : Int32).toInt ≤ 19 from by omega)
    have hF : sgK WkX12_begins_20_f0 f f_7 := sgK.put hF ef_7 (by rfl)
    have q_8 : (f_7 0 48).toInt = v_5.toInt := (congrArg Int32.toInt (show f_7 0 48 = v_5 from (by rw [ef_7, sg_up_s, sgu_s])))
    have q_9 : (f_7 0 48).toInt = v_5.toInt := (congrArg Int32.toInt (show f_7 0 48 = v_5 from (by rw [ef_7, sg_up_s, sgu_s])))
    exact hret _ _ _ _ f_7 L Q dX12_begins_29 hP hS ⟨⟨hI, hF, rfl, rfl⟩, (by omega)⟩
  refine lv_aload_n hx hb dX12_begins_0 rfl (lv_at hl 0 rfl) ?_
  refine sg_get (ci := 12) (v := .int 0) (C := RX12) (T := TX12) (N := 55) hx hb hts (fun w h => List.mem_cons_of_mem _ (gx_12 w h)) hown hK hP 0 (by decide) rfl rfl 48 (by decide) (hts _ (List.mem_cons_of_mem _ mw_621)) (fun _ h9 => h9) (congrArg (fun z => some (Value.int z)) (show f 0 48 = 0 from hf_0_48)) dX12_begins_1 ?_
  refine lv_bipush (v := 24) hx hb dX12_begins_4 (by decide) ?_
  refine lv_icmp_ge (tgt := 19) hx hb dX12_begins_6 (by decide) (fun c => absurd c (by decide)) (fun c => ?_)
  refine lv_aload_n hx hb dX12_begins_9 rfl (lv_at hl 0 rfl) ?_
  refine sg_get (ci := 12) (v := .ref (h 21)) (C := RX12) (T := TX12) (N := 55) hx hb hts (fun w h => List.mem_cons_of_mem _ (gx_12 w h)) hown hK hP 0 (by decide) rfl rfl 47 (by decide) (hts _ (List.mem_cons_of_mem _ mw_718)) (fun _ h9 => h9) rfl dX12_begins_10 ?_
  refine lv_aload_n hx hb dX12_begins_13 rfl (lv_at hl 0 rfl) ?_
  refine sg_get (ci := 12) (v := .int 0) (C := RX12) (T := TX12) (N := 55) hx hb hts (fun w h => List.mem_cons_of_mem _ (gx_12 w h)) hown hK hP 0 (by decide) rfl rfl 48 (by decide) (hts _ (List.mem_cons_of_mem _ mw_621)) (fun _ h9 => h9) (congrArg (fun z => some (Value.int z)) (show f 0 48 = 0 from hf_0_48)) dX12_begins_14 ?_
  refine lv_iload_n hx hb dX12_begins_17 rfl (lv_at hl 1 rfl) ?_
  refine sg_iast hx hb hh hA hK hP hS 21 (by decide) 0 (fun _ => rfl) rfl (i := 0) (x := 20) (vp_in_iff.mpr (by decide)) dX12_begins_18 (fun f_10 H locs ef_10 hP hS => ?_)
  have hI : sgI loM hiM f_10 := by rw [ef_10]; exact sgI.put hI 21 (Int32.toNatClampNeg 0) (show 0 ≤ (20 : Int32).toInt ∧ (20 : Int32).toInt ≤ 81 from by decide)
  have hF : sgK WkX12_begins_20_f0 f f_10 := sgK.put hF ef_10 (by rfl)
  exact blk_19 f_10 _ _ _ (by have zz0_48 : (f_10 0 48).toInt = 0 := (congrArg Int32.toInt (show f_10 0 48 = 0 from (by rw [ef_10, sg_up_n (by decide)]; exact hf_0_48))).trans (by decide); omega) hI hF hP hS (lv_sub hl [0] rfl)

abbrev WkX12_begins_1_f1 : List (Nat × Nat × Option Nat) := [(0, 0, some 48), (21, 21, none)]
set_option maxHeartbeats 4000000 in
set_option maxRecDepth 100000 in
theorem kX12_begins_1_f1 (l : Launch) (D : va_G) (ca : Nat → ClassId) (za h : Nat → Nat) (hh : sgH 26 h) (f : sg_F) (L : sg_L) (Q : sg_Q) (hI : sgI loM hiM f) (hf_0_48 : f 0 48 = 1) (p0 : 1 ≤ (f 0 48).toInt ∧ (f 0 48).toInt ≤ 1) (sz : Nat) : Met l yX12_begins gwX12_begins { frames := 0, cells := 0, slots := 0, locals := 0 } (sgP D vwCl (tyX ca) 26 h (eM ca h) zcM za f L Q sz [.ref (h 0), .int 1]) (sgQv D vwCl 26 h (eM ca h) sz (fun f1 L1 Q1 => ((sgI loM hiM f1 ∧ sgK WkX12_begins_1_f1 f f1 ∧ L1 = L ∧ Q1 = Q) ∧ (2 ≤ (f1 0 48).toInt ∧ (f1 0 48).toInt ≤ 2)))) 0 0 (sgA 26 h sz) := by
  refine sg_ofWv (cc := cX12_begins) (maxL := 2) RX12 (by decide) rfl rfl (Nat.le_of_ble_eq_true rfl) ?_
  intro p e s m below meth cd Qz ls hx hb hml hown hts hK hZ hP hS hl hret
  have hA := sgY.self (n := 26) (h := h) (sz := s.heap.size)
  have hl : lv_has ls 2 [(0, .ref (h 0)), (1, .int 1)] := hl
  obtain ⟨H, hH⟩ : ∃ z : Heap, z = s.heap := ⟨_, rfl⟩
  obtain ⟨locs, hlo⟩ : ∃ z : List Loc, z = [] := ⟨_, rfl⟩
  have hP : va_P D vwCl (sgw 26 h (eM ca h) f L Q) H := by rw [hH]; exact hP
  have hS : va_S (sgA 26 h s.heap.size) s.heap H locs := by rw [hH, hlo]; exact hS
  suffices hgo : W p l e ({ frames := 0, cells := 0, slots := 0, locals := 0 }) s m ([.ref (h 0), .int 1] : List Value).toArray below meth cd H locs 0 0 Qz (F0 m 0 ls []) by rw [hH, hlo] at hgo; exact hgo
  clear hH hlo
  have o_1 : (f 0 48).toInt = 1 := (congrArg Int32.toInt (show f 0 48 = 1 from hf_0_48)).trans (by decide)
  have hF : sgK WkX12_begins_1_f1 f f := sgK.rf
  have blk_19 : ∀ (fp_19 : sg_F) (H : Heap) (locs : List Loc) (ls : Array Slot), 1 ≤ (fp_19 0 48).toInt ∧ (fp_19 0 48).toInt ≤ 1 → sgI loM hiM fp_19 → sgK WkX12_begins_1_f1 f fp_19 → va_P D vwCl (sgw 26 h (eM ca h) fp_19 L Q) H → va_S (sgA 26 h s.heap.size) s.heap H locs → lv_has ls 2 [(0, .ref (h 0))] → W p l e ({ frames := 0, cells := 0, slots := 0, locals := 0 }) s m ([.ref (h 0), .int 1] : List Value).toArray below meth cd H locs 0 0 Qz (F0 m 19 ls []) := by
    intro fp_19 H locs ls hy0_19 hI hF hP hS hl
    obtain ⟨v_2, ev_2⟩ : ∃ z : Int32, z = fp_19 0 48 := ⟨_, rfl⟩
    have q_3 : 0 ≤ v_2.toInt ∧ v_2.toInt ≤ 19 := by rw [ev_2]; exact hI 0 48
    have q_4 : (fp_19 0 48).toInt = v_2.toInt := by rw [ev_2]
    refine lv_aload_n hx hb dX12_begins_19 rfl (lv_at hl 0 rfl) ?_
    refine lv_dup hx hb dX12_begins_20 rfl ?_
    refine sg_get (ci := 12) (v := .int v_2) (C := RX12) (T := TX12) (N := 55) hx hb hts (fun w h => List.mem_cons_of_mem _ (gx_12 w h)) hown hK hP 0 (by decide) rfl rfl 48 (by decide) (hts _ (List.mem_cons_of_mem _ mw_621)) (fun _ h9 => h9) (congrArg (fun z => some (Value.int z)) (show fp_19 0 48 = v_2 from ev_2.symm)) dX12_begins_21 ?_
    refine lv_iconst (v := 1) hx hb dX12_begins_24 (by decide) ?_
    refine lv_iadd hx hb dX12_begins_25 ?_
    refine lv_topi (fun v_5 ev_5 => ?_)
    have q_6 : v_5.toInt = v_2.toInt + 1 := by rw [ev_5]; have k1 : (1 : Int32).toInt = 1 := (by decide); exact (bn_addI (by omega) (by omega)).trans (by omega)
    refine sg_put (ci := 12) (x := v_5) (ty := .int) (C := RX12) (T := TX12) (N := 55) hx hb hts (fun w h => List.mem_cons_of_mem _ (gx_12 w h)) tyX12 tyX12_ok nmX12 hown hh hA hK hP hS 0 (by decide) rfl rfl 48 (by decide) (hts _ (List.mem_cons_of_mem _ mw_621)) (fun _ h9 => h9) rfl rfl (by decide +kernel) rfl rfl (Nat.le_of_ble_eq_true rfl) dX12_begins_26 (fun f_7 H locs ef_7 hP hS => ?_)
    have hI : sgI loM hiM f_7 := by rw [ef_7]; exact sgI.put hI 0 48 (show 0 ≤ (v_5 : Int32).toInt ∧ (v_5 : Int32).toInt ≤ 19 from by omega)
    have hF : sgK WkX12_begins_1_f1 f f_7 := sgK.put hF ef_7 (by rfl)
    have q_8 : (f_7 0 48).toInt = v_5.toInt := (congrArg Int32.toInt (show f_7 0 48 = v_5 from (by rw [ef_7, sg_up_s, sgu_s])))
    have q_9 : (f_7 0 48).toInt = v_5.toInt := (congrArg Int32.toInt (show f_7 0 48 = v_5 from (by rw [ef_7, sg_up_s, sgu_s])))
    exact hret _ _ _ _ f_7 L Q dX12_begins_29 hP hS ⟨⟨hI, hF, rfl, rfl⟩, (by omega)⟩
  refine lv_aload_n hx hb dX12_begins_0 rfl (lv_at hl 0 rfl) ?_
  refine sg_get (ci := 12) (v := .int 1) (C := RX12) (T := TX12) (N := 55) hx hb hts (fun w h => List.mem_cons_of_mem _ (gx_12 w h)) hown hK hP 0 (by decide) rfl rfl 48 (by decide) (hts _ (List.mem_cons_of_mem _ mw_621)) (fun _ h9 => h9) (congrArg (fun z => some (Value.int z)) (show f 0 48 = 1 from hf_0_48)) dX12_begins_1 ?_
  refine lv_bipush (v := 24) hx hb dX12_begins_4 (by decide) ?_
  refine lv_icmp_ge (tgt := 19) hx hb dX12_begins_6 (by decide) (fun c => absurd c (by decide)) (fun c => ?_)
  refine lv_aload_n hx hb dX12_begins_9 rfl (lv_at hl 0 rfl) ?_
  refine sg_get (ci := 12) (v := .ref (h 21)) (C := RX12) (T := TX12) (N := 55) hx hb hts (fun w h => List.mem_cons_of_mem _ (gx_12 w h)) hown hK hP 0 (by decide) rfl rfl 47 (by decide) (hts _ (List.mem_cons_of_mem _ mw_718)) (fun _ h9 => h9) rfl dX12_begins_10 ?_
  refine lv_aload_n hx hb dX12_begins_13 rfl (lv_at hl 0 rfl) ?_
  refine sg_get (ci := 12) (v := .int 1) (C := RX12) (T := TX12) (N := 55) hx hb hts (fun w h => List.mem_cons_of_mem _ (gx_12 w h)) hown hK hP 0 (by decide) rfl rfl 48 (by decide) (hts _ (List.mem_cons_of_mem _ mw_621)) (fun _ h9 => h9) (congrArg (fun z => some (Value.int z)) (show f 0 48 = 1 from hf_0_48)) dX12_begins_14 ?_
  refine lv_iload_n hx hb dX12_begins_17 rfl (lv_at hl 1 rfl) ?_
  refine sg_iast hx hb hh hA hK hP hS 21 (by decide) 0 (fun _ => rfl) rfl (i := 1) (x := 1) (vp_in_iff.mpr (by decide)) dX12_begins_18 (fun f_10 H locs ef_10 hP hS => ?_)
  have hI : sgI loM hiM f_10 := by rw [ef_10]; exact sgI.put hI 21 (Int32.toNatClampNeg 1) (show 0 ≤ (1 : Int32).toInt ∧ (1 : Int32).toInt ≤ 81 from by decide)
  have hF : sgK WkX12_begins_1_f1 f f_10 := sgK.put hF ef_10 (by rfl)
  exact blk_19 f_10 _ _ _ (by have zz0_48 : (f_10 0 48).toInt = 1 := (congrArg Int32.toInt (show f_10 0 48 = 1 from (by rw [ef_10, sg_up_n (by decide)]; exact hf_0_48))).trans (by decide); omega) hI hF hP hS (lv_sub hl [0] rfl)

abbrev WkX12_setsAs_0_f1_f1 : List (Nat × Nat × Option Nat) := [(0, 0, some 48), (21, 21, none)]
set_option maxHeartbeats 4000000 in
set_option maxRecDepth 100000 in
theorem kX12_setsAs_0_f1_f1 (l : Launch) (D : va_G) (ca : Nat → ClassId) (za h : Nat → Nat) (hh : sgH 26 h) (f : sg_F) (L : sg_L) (Q : sg_Q) (hI : sgI loM hiM f) (x1 : Int32) (hf_0_48 : f 0 48 = 1) (hf_0_49 : f 0 49 = 1) (p0 : 1 ≤ (f 0 48).toInt ∧ (f 0 48).toInt ≤ 1) (sz : Nat) : Met l yX12_setsAs gwX12_setsAs { frames := 1, cells := 0, slots := 0, locals := 21 } (sgP D vwCl (tyX ca) 26 h (eM ca h) zcM za f L Q sz [.ref (h 0), .int 0, .int x1]) (sgQi D vwCl 26 h (eM ca h) sz (fun r f1 L1 Q1 => ((sgI loM hiM f1 ∧ sgK WkX12_setsAs_0_f1_f1 f f1 ∧ L1 = L ∧ Q1 = Q) ∧ True ∧ (2 ≤ (f1 0 48).toInt ∧ (f1 0 48).toInt ≤ 2)))) 0 0 (sgA 26 h sz) := by
  refine sg_ofWi (cc := cX12_setsAs) (maxL := 3) RX12 (by decide) rfl rfl (Nat.le_of_ble_eq_true rfl) ?_
  intro p e s m below meth cd Qz ls hx hb hml hown hts hK hZ hP hS hl hret
  have hA := sgY.self (n := 26) (h := h) (sz := s.heap.size)
  have hl : lv_has ls 3 [(0, .ref (h 0)), (1, .int 0), (2, .int x1)] := hl
  obtain ⟨H, hH⟩ : ∃ z : Heap, z = s.heap := ⟨_, rfl⟩
  obtain ⟨locs, hlo⟩ : ∃ z : List Loc, z = [] := ⟨_, rfl⟩
  have hP : va_P D vwCl (sgw 26 h (eM ca h) f L Q) H := by rw [hH]; exact hP
  have hS : va_S (sgA 26 h s.heap.size) s.heap H locs := by rw [hH, hlo]; exact hS
  suffices hgo : W p l e ({ frames := 1, cells := 0, slots := 0, locals := 21 }) s m ([.ref (h 0), .int 0, .int x1] : List Value).toArray below meth cd H locs 0 0 Qz (F0 m 0 ls []) by rw [hH, hlo] at hgo; exact hgo
  clear hH hlo
  have o_1 : (f 0 48).toInt = 1 := (congrArg Int32.toInt (show f 0 48 = 1 from hf_0_48)).trans (by decide)
  have hF : sgK WkX12_setsAs_0_f1_f1 f f := sgK.rf
  refine lv_iload_n hx hb dX12_setsAs_0 rfl (lv_at hl 1 rfl) ?_
  refine lv_iconst (v := 1) hx hb dX12_setsAs_1 (by decide) ?_
  refine lv_icmp_eq (tgt := 16) hx hb dX12_setsAs_2 (by decide) (fun c => absurd c (by decide)) (fun c => ?_)
  refine lv_iload_n hx hb dX12_setsAs_5 rfl (lv_at hl 1 rfl) ?_
  refine lv_iconst (v := 4) hx hb dX12_setsAs_6 (by decide) ?_
  refine lv_icmp_eq (tgt := 16) hx hb dX12_setsAs_7 (by decide) (fun c => absurd c (by decide)) (fun c => ?_)
  refine lv_iload_n hx hb dX12_setsAs_10 rfl (lv_at hl 1 rfl) ?_
  refine lv_bipush (v := 7) hx hb dX12_setsAs_11 (by decide) ?_
  refine lv_icmp_ne (tgt := 31) hx hb dX12_setsAs_13 (by decide) (fun c => ?_) (fun c => absurd c (by decide))
  refine lv_iload_n hx hb dX12_setsAs_31 rfl (lv_at hl 1 rfl) ?_
  refine lv_bipush (v := 6) hx hb dX12_setsAs_32 (by decide) ?_
  refine lv_icmp_ne (tgt := 52) hx hb dX12_setsAs_34 (by decide) (fun c => ?_) (fun c => absurd c (by decide))
  refine lv_aload_n hx hb dX12_setsAs_52 rfl (lv_at hl 0 rfl) ?_
  refine lv_iconst (v := 1) hx hb dX12_setsAs_53 (by decide) ?_
  have q_2 : (f 0 48).toInt = 1 := (congrArg Int32.toInt (show f 0 48 = 1 from hf_0_48)).trans (by decide)
  have q_3 : (f 0 48).toInt = 1 := (congrArg Int32.toInt (show f 0 48 = 1 from hf_0_48)).trans (by decide)
  refine sg_callv (va_runV (As := [.int 1]) (rest := []) ⟨hx, hb, hml, hown, hts⟩ (kX12_begins_1_f1 l D ca za h hh f L Q hI hf_0_48 (by have k0 : (1 : Int32).toInt = 1 := (by decide); omega) H.size) (cwV 1 hts (gw_V (fun _ h => List.mem_cons_of_mem _ h) mw_734 mw_735 mw_736 mw_619 mw_733) rfl rfl rfl (by decide +kernel) ⟨Nat.le_of_ble_eq_true rfl, Nat.le_of_ble_eq_true rfl⟩) (sg_preV (ci := 12) (C := RX12) (T := TX12) (N := 55) hA hK hP hS hZ 0 (by decide) rfl rfl) rfl rfl hl.1 rfl (lv_room (Nat.le_of_ble_eq_true rfl)) dX12_setsAs_54 ⟨Nat.le_refl _, Nat.le_refl _⟩) hA hS (fun f_4 L_5 Q_6 H locs hq hP hS => ?_)
  obtain ⟨⟨hI, hk_f_4, eL9, eQ9⟩, p_7⟩ := hq
  rw [eL9, eQ9] at hP; clear eL9 eQ9
  have hF : sgK WkX12_setsAs_0_f1_f1 f f_4 := sgK.tr hF hk_f_4 (by decide)
  obtain ⟨v_8, ev_8⟩ : ∃ z : Int32, z = f_4 0 48 := ⟨_, rfl⟩
  have q_9 : 0 ≤ v_8.toInt ∧ v_8.toInt ≤ 19 := by rw [ev_8]; exact hI 0 48
  have q_10 : (f_4 0 48).toInt = v_8.toInt := (congrArg Int32.toInt (show f_4 0 48 = v_8 from ev_8.symm))
  have q_11 : (f_4 0 48).toInt = v_8.toInt := (congrArg Int32.toInt (show f_4 0 48 = v_8 from ev_8.symm))
  refine lv_iload_n hx hb dX12_setsAs_57 rfl (lv_at hl 2 rfl) ?_
  refine lv_aload_n hx hb dX12_setsAs_58 rfl (lv_at hl 0 rfl) ?_
  refine sg_get (ci := 12) (v := .int (f_4 0 50)) (C := RX12) (T := TX12) (N := 55) hx hb hts (fun w h => List.mem_cons_of_mem _ (gx_12 w h)) hown hK hP 0 (by decide) rfl rfl 50 (by decide) (hts _ (List.mem_cons_of_mem _ mw_680)) (fun _ h9 => h9) rfl dX12_setsAs_59 ?_
  refine lv_topi (fun v_12 ev_12 => ?_)
  have q_13 : 0 ≤ v_12.toInt ∧ v_12.toInt ≤ 49 := by rw [ev_12]; exact hI 0 50
  refine lv_iadd hx hb dX12_setsAs_62 ?_
  refine lv_topi (fun v_14 ev_14 => ?_)
  have q_15 : (f_4 0 48).toInt = v_8.toInt := (congrArg Int32.toInt (show f_4 0 48 = v_8 from ev_8.symm))
  have q_16 : (f_4 0 48).toInt = v_8.toInt := (congrArg Int32.toInt (show f_4 0 48 = v_8 from ev_8.symm))
  exact hret _ _ _ _ (v_14) f_4 L Q dX12_setsAs_63 hP hS ⟨⟨hI, hF, rfl, rfl⟩, trivial, (by omega)⟩

abbrev WkX12_setsAs_1_f0_f1 : List (Nat × Nat × Option Nat) := [(0, 0, some 48), (21, 21, none)]
set_option maxHeartbeats 4000000 in
set_option maxRecDepth 100000 in
theorem kX12_setsAs_1_f0_f1 (l : Launch) (D : va_G) (ca : Nat → ClassId) (za h : Nat → Nat) (hh : sgH 26 h) (f : sg_F) (L : sg_L) (Q : sg_Q) (hI : sgI loM hiM f) (x1 : Int32) (hf_0_48 : f 0 48 = 0) (hf_0_49 : f 0 49 = 1) (p0 : 0 ≤ (f 0 48).toInt ∧ (f 0 48).toInt ≤ 0) (sz : Nat) : Met l yX12_setsAs gwX12_setsAs { frames := 2, cells := 0, slots := 0, locals := 43 } (sgP D vwCl (tyX ca) 26 h (eM ca h) zcM za f L Q sz [.ref (h 0), .int 1, .int x1]) (sgQi D vwCl 26 h (eM ca h) sz (fun r f1 L1 Q1 => ((sgI loM hiM f1 ∧ sgK WkX12_setsAs_1_f0_f1 f f1 ∧ L1 = L ∧ Q1 = Q) ∧ True ∧ (2 ≤ (f1 0 48).toInt ∧ (f1 0 48).toInt ≤ 2)))) 0 0 (sgA 26 h sz) := by
  refine sg_ofWi (cc := cX12_setsAs) (maxL := 3) RX12 (by decide) rfl rfl (Nat.le_of_ble_eq_true rfl) ?_
  intro p e s m below meth cd Qz ls hx hb hml hown hts hK hZ hP hS hl hret
  have hA := sgY.self (n := 26) (h := h) (sz := s.heap.size)
  have hl : lv_has ls 3 [(0, .ref (h 0)), (1, .int 1), (2, .int x1)] := hl
  obtain ⟨H, hH⟩ : ∃ z : Heap, z = s.heap := ⟨_, rfl⟩
  obtain ⟨locs, hlo⟩ : ∃ z : List Loc, z = [] := ⟨_, rfl⟩
  have hP : va_P D vwCl (sgw 26 h (eM ca h) f L Q) H := by rw [hH]; exact hP
  have hS : va_S (sgA 26 h s.heap.size) s.heap H locs := by rw [hH, hlo]; exact hS
  suffices hgo : W p l e ({ frames := 2, cells := 0, slots := 0, locals := 43 }) s m ([.ref (h 0), .int 1, .int x1] : List Value).toArray below meth cd H locs 0 0 Qz (F0 m 0 ls []) by rw [hH, hlo] at hgo; exact hgo
  clear hH hlo
  have o_1 : (f 0 48).toInt = 0 := (congrArg Int32.toInt (show f 0 48 = 0 from hf_0_48)).trans (by decide)
  have hF : sgK WkX12_setsAs_1_f0_f1 f f := sgK.rf
  have blk_16 : ∀ (fp_16 : sg_F) (H : Heap) (locs : List Loc) (ls : Array Slot), 0 ≤ (fp_16 0 48).toInt ∧ (fp_16 0 48).toInt ≤ 0 → 1 ≤ (fp_16 0 49).toInt ∧ (fp_16 0 49).toInt ≤ 1 → sgI loM hiM fp_16 → sgK WkX12_setsAs_1_f0_f1 f fp_16 → va_P D vwCl (sgw 26 h (eM ca h) fp_16 L Q) H → va_S (sgA 26 h s.heap.size) s.heap H locs → lv_has ls 3 [(0, .ref (h 0)), (2, .int x1)] → W p l e ({ frames := 2, cells := 0, slots := 0, locals := 43 }) s m ([.ref (h 0), .int 1, .int x1] : List Value).toArray below meth cd H locs 0 0 Qz (F0 m 16 ls []) := by
    intro fp_16 H locs ls hy0_16 hy1_16 hI hF hP hS hl
    obtain ⟨v_2, ev_2⟩ : ∃ z : Int32, z = fp_16 0 48 := ⟨_, rfl⟩
    have q_3 : 0 ≤ v_2.toInt ∧ v_2.toInt ≤ 19 := by rw [ev_2]; exact hI 0 48
    have q_4 : (fp_16 0 48).toInt = v_2.toInt := by rw [ev_2]
    obtain ⟨v_5, ev_5⟩ : ∃ z : Int32, z = fp_16 0 49 := ⟨_, rfl⟩
    have q_6 : 0 ≤ v_5.toInt ∧ v_5.toInt ≤ 7 := by rw [ev_5]; exact hI 0 49
    have q_7 : (fp_16 0 49).toInt = v_5.toInt := by rw [ev_5]
    have m_8 : fp_16 0 49 = 1 := (hF 0 49 (by decide)).trans hf_0_49
    refine lv_aload_n hx hb dX12_setsAs_16 rfl (lv_at hl 0 rfl) ?_
    refine lv_bipush (v := 20) hx hb dX12_setsAs_17 (by decide) ?_
    have c_9 : v_2 = 0 := Int32.toInt_inj.mp (by have k9 : (0 : Int32).toInt = 0 := (by decide); omega)
    have q_10 : (fp_16 0 48).toInt = 0 := (congrArg Int32.toInt (show fp_16 0 48 = 0 from (Eq.trans ev_2.symm c_9))).trans (by decide)
    have q_11 : (fp_16 0 48).toInt = 0 := (congrArg Int32.toInt (show fp_16 0 48 = 0 from (Eq.trans ev_2.symm c_9))).trans (by decide)
    refine sg_callv (va_runV (As := [.int 20]) (rest := []) ⟨hx, hb, hml, hown, hts⟩ (kX12_begins_20_f0 l D ca za h hh fp_16 L Q hI (Eq.trans ev_2.symm c_9) (by have k0 : (20 : Int32).toInt = 20 := (by decide); omega) H.size) (cwV 1 hts (gw_V (fun _ h => List.mem_cons_of_mem _ h) mw_734 mw_735 mw_736 mw_619 mw_733) rfl rfl rfl (by decide +kernel) ⟨Nat.le_of_ble_eq_true rfl, Nat.le_of_ble_eq_true rfl⟩) (sg_preV (ci := 12) (C := RX12) (T := TX12) (N := 55) hA hK hP hS hZ 0 (by decide) rfl rfl) rfl rfl hl.1 rfl (lv_room (Nat.le_of_ble_eq_true rfl)) dX12_setsAs_19 ⟨Nat.le_refl _, Nat.le_refl _⟩) hA hS (fun f_12 L_13 Q_14 H locs hq hP hS => ?_)
    obtain ⟨⟨hI, hk_f_12, eL9, eQ9⟩, p_15⟩ := hq
    rw [eL9, eQ9] at hP; clear eL9 eQ9
    have hF : sgK WkX12_setsAs_1_f0_f1 f f_12 := sgK.tr hF hk_f_12 (by decide)
    obtain ⟨v_16, ev_16⟩ : ∃ z : Int32, z = f_12 0 48 := ⟨_, rfl⟩
    have q_17 : 0 ≤ v_16.toInt ∧ v_16.toInt ≤ 19 := by rw [ev_16]; exact hI 0 48
    have q_18 : (f_12 0 48).toInt = v_16.toInt := (congrArg Int32.toInt (show f_12 0 48 = v_16 from ev_16.symm))
    have q_19 : (f_12 0 48).toInt = v_16.toInt := (congrArg Int32.toInt (show f_12 0 48 = v_16 from ev_16.symm))
    refine lv_aload_n hx hb dX12_setsAs_22 rfl (lv_at hl 0 rfl) ?_
    refine lv_iconst (v := 0) hx hb dX12_setsAs_23 (by decide) ?_
    refine lv_iload_n hx hb dX12_setsAs_24 rfl (lv_at hl 1 rfl) ?_
    have c_20 : v_16 = 1 := Int32.toInt_inj.mp (by have k9 : (1 : Int32).toInt = 1 := (by decide); omega)
    have q_21 : (f_12 0 48).toInt = 1 := (congrArg Int32.toInt (show f_12 0 48 = 1 from (Eq.trans ev_16.symm c_20))).trans (by decide)
    have q_22 : (f_12 0 48).toInt = 1 := (congrArg Int32.toInt (show f_12 0 48 = 1 from (Eq.trans ev_16.symm c_20))).trans (by decide)
    refine sg_calli (va_runV (As := [.int 0, .int x1]) (rest := []) ⟨hx, hb, hml, hown, hts⟩ (kX12_setsAs_0_f1_f1 l D ca za h hh f_12 L Q hI x1 (Eq.trans ev_16.symm c_20) ((hk_f_12 0 49 (by decide)).trans m_8) (by have k0 : (0 : Int32).toInt = 0 := (by decide); omega) H.size) (cwV 2 hts (gw_V (fun _ h => List.mem_cons_of_mem _ h) mw_744 mw_745 mw_746 mw_619 mw_743) rfl rfl rfl (by decide +kernel) ⟨Nat.le_of_ble_eq_true rfl, Nat.le_of_ble_eq_true rfl⟩) (sg_preV (ci := 12) (C := RX12) (T := TX12) (N := 55) hA hK hP hS hZ 0 (by decide) rfl rfl) rfl rfl hl.1 rfl (lv_room (Nat.le_of_ble_eq_true rfl)) dX12_setsAs_25 ⟨Nat.le_refl _, Nat.le_refl _⟩) hA hS (fun r_26 f_23 L_24 Q_25 H locs hq hP hS => ?_)
    obtain ⟨⟨hI, hk_f_23, eL9, eQ9⟩, hq, p_27⟩ := hq
    rw [eL9, eQ9] at hP; clear eL9 eQ9
    have hF : sgK WkX12_setsAs_1_f0_f1 f f_23 := sgK.tr hF hk_f_23 (by decide)
    obtain ⟨v_28, ev_28⟩ : ∃ z : Int32, z = f_23 0 48 := ⟨_, rfl⟩
    have q_29 : 0 ≤ v_28.toInt ∧ v_28.toInt ≤ 19 := by rw [ev_28]; exact hI 0 48
    have q_30 : (f_23 0 48).toInt = v_28.toInt := (congrArg Int32.toInt (show f_23 0 48 = v_28 from ev_28.symm))
    have q_31 : (f_23 0 48).toInt = v_28.toInt := (congrArg Int32.toInt (show f_23 0 48 = v_28 from ev_28.symm))
    have k_32 : (0 : Int32).toInt = 0 := by decide
    refine lv_iconst (v := 3) hx hb dX12_setsAs_28 (by decide) ?_
    refine lv_iadd hx hb dX12_setsAs_29 ?_
    refine lv_topi (fun v_33 ev_33 => ?_)
    have q_34 : (f_23 0 48).toInt = v_28.toInt := (congrArg Int32.toInt (show f_23 0 48 = v_28 from ev_28.symm))
    have q_35 : (f_23 0 48).toInt = v_28.toInt := (congrArg Int32.toInt (show f_23 0 48 = v_28 from ev_28.symm))
    exact hret _ _ _ _ (v_33) f_23 L Q dX12_setsAs_30 hP hS ⟨⟨hI, hF, rfl, rfl⟩, trivial, (by omega)⟩
  refine lv_iload_n hx hb dX12_setsAs_0 rfl (lv_at hl 1 rfl) ?_
  refine lv_iconst (v := 1) hx hb dX12_setsAs_1 (by decide) ?_
  refine lv_icmp_eq (tgt := 16) hx hb dX12_setsAs_2 (by decide) (fun c => ?_) (fun c => absurd c (by decide))
  exact blk_16 f _ _ _ (by have zz0_48 : (f 0 48).toInt = 0 := (congrArg Int32.toInt (show f 0 48 = 0 from hf_0_48)).trans (by decide); omega) (by have zz0_49 : (f 0 49).toInt = 1 := (congrArg Int32.toInt (show f 0 49 = 1 from hf_0_49)).trans (by decide); omega) hI hF hP hS (lv_sub hl [0, 2] rfl)

abbrev WkX12_setsAs_2_f0_f2 : List (Nat × Nat × Option Nat) := [(0, 0, some 48), (21, 21, none)]
set_option maxHeartbeats 4000000 in
set_option maxRecDepth 100000 in
theorem kX12_setsAs_2_f0_f2 (l : Launch) (D : va_G) (ca : Nat → ClassId) (za h : Nat → Nat) (hh : sgH 26 h) (f : sg_F) (L : sg_L) (Q : sg_Q) (hI : sgI loM hiM f) (x1 : Int32) (hf_0_48 : f 0 48 = 0) (hf_0_49 : f 0 49 = 2) (p0 : 0 ≤ (f 0 48).toInt ∧ (f 0 48).toInt ≤ 0) (sz : Nat) : Met l yX12_setsAs gwX12_setsAs { frames := 1, cells := 0, slots := 0, locals := 21 } (sgP D vwCl (tyX ca) 26 h (eM ca h) zcM za f L Q sz [.ref (h 0), .int 2, .int x1]) (sgQi D vwCl 26 h (eM ca h) sz (fun r f1 L1 Q1 => ((sgI loM hiM f1 ∧ sgK WkX12_setsAs_2_f0_f2 f f1 ∧ L1 = L ∧ Q1 = Q) ∧ True ∧ (1 ≤ (f1 0 48).toInt ∧ (f1 0 48).toInt ≤ 1)))) 0 0 (sgA 26 h sz) := by
  refine sg_ofWi (cc := cX12_setsAs) (maxL := 3) RX12 (by decide) rfl rfl (Nat.le_of_ble_eq_true rfl) ?_
  intro p e s m below meth cd Qz ls hx hb hml hown hts hK hZ hP hS hl hret
  have hA := sgY.self (n := 26) (h := h) (sz := s.heap.size)
  have hl : lv_has ls 3 [(0, .ref (h 0)), (1, .int 2), (2, .int x1)] := hl
  obtain ⟨H, hH⟩ : ∃ z : Heap, z = s.heap := ⟨_, rfl⟩
  obtain ⟨locs, hlo⟩ : ∃ z : List Loc, z = [] := ⟨_, rfl⟩
  have hP : va_P D vwCl (sgw 26 h (eM ca h) f L Q) H := by rw [hH]; exact hP
  have hS : va_S (sgA 26 h s.heap.size) s.heap H locs := by rw [hH, hlo]; exact hS
  suffices hgo : W p l e ({ frames := 1, cells := 0, slots := 0, locals := 21 }) s m ([.ref (h 0), .int 2, .int x1] : List Value).toArray below meth cd H locs 0 0 Qz (F0 m 0 ls []) by rw [hH, hlo] at hgo; exact hgo
  clear hH hlo
  have o_1 : (f 0 48).toInt = 0 := (congrArg Int32.toInt (show f 0 48 = 0 from hf_0_48)).trans (by decide)
  have hF : sgK WkX12_setsAs_2_f0_f2 f f := sgK.rf
  refine lv_iload_n hx hb dX12_setsAs_0 rfl (lv_at hl 1 rfl) ?_
  refine lv_iconst (v := 1) hx hb dX12_setsAs_1 (by decide) ?_
  refine lv_icmp_eq (tgt := 16) hx hb dX12_setsAs_2 (by decide) (fun c => absurd c (by decide)) (fun c => ?_)
  refine lv_iload_n hx hb dX12_setsAs_5 rfl (lv_at hl 1 rfl) ?_
  refine lv_iconst (v := 4) hx hb dX12_setsAs_6 (by decide) ?_
  refine lv_icmp_eq (tgt := 16) hx hb dX12_setsAs_7 (by decide) (fun c => absurd c (by decide)) (fun c => ?_)
  refine lv_iload_n hx hb dX12_setsAs_10 rfl (lv_at hl 1 rfl) ?_
  refine lv_bipush (v := 7) hx hb dX12_setsAs_11 (by decide) ?_
  refine lv_icmp_ne (tgt := 31) hx hb dX12_setsAs_13 (by decide) (fun c => ?_) (fun c => absurd c (by decide))
  refine lv_iload_n hx hb dX12_setsAs_31 rfl (lv_at hl 1 rfl) ?_
  refine lv_bipush (v := 6) hx hb dX12_setsAs_32 (by decide) ?_
  refine lv_icmp_ne (tgt := 52) hx hb dX12_setsAs_34 (by decide) (fun c => ?_) (fun c => absurd c (by decide))
  refine lv_aload_n hx hb dX12_setsAs_52 rfl (lv_at hl 0 rfl) ?_
  refine lv_iconst (v := 1) hx hb dX12_setsAs_53 (by decide) ?_
  have q_2 : (f 0 48).toInt = 0 := (congrArg Int32.toInt (show f 0 48 = 0 from hf_0_48)).trans (by decide)
  have q_3 : (f 0 48).toInt = 0 := (congrArg Int32.toInt (show f 0 48 = 0 from hf_0_48)).trans (by decide)
  refine sg_callv (va_runV (As := [.int 1]) (rest := []) ⟨hx, hb, hml, hown, hts⟩ (kX12_begins_1_f0 l D ca za h hh f L Q hI hf_0_48 (by have k0 : (1 : Int32).toInt = 1 := (by decide); omega) H.size) (cwV 1 hts (gw_V (fun _ h => List.mem_cons_of_mem _ h) mw_734 mw_735 mw_736 mw_619 mw_733) rfl rfl rfl (by decide +kernel) ⟨Nat.le_of_ble_eq_true rfl, Nat.le_of_ble_eq_true rfl⟩) (sg_preV (ci := 12) (C := RX12) (T := TX12) (N := 55) hA hK hP hS hZ 0 (by decide) rfl rfl) rfl rfl hl.1 rfl (lv_room (Nat.le_of_ble_eq_true rfl)) dX12_setsAs_54 ⟨Nat.le_refl _, Nat.le_refl _⟩) hA hS (fun f_4 L_5 Q_6 H locs hq hP hS => ?_)
  obtain ⟨⟨hI, hk_f_4, eL9, eQ9⟩, p_7⟩ := hq
  rw [eL9, eQ9] at hP; clear eL9 eQ9
  have hF : sgK WkX12_setsAs_2_f0_f2 f f_4 := sgK.tr hF hk_f_4 (by decide)
  obtain ⟨v_8, ev_8⟩ : ∃ z : Int32, z = f_4 0 48 := ⟨_, rfl⟩
  have q_9 : 0 ≤ v_8.toInt ∧ v_8.toInt ≤ 19 := by rw [ev_8]; exact hI 0 48
  have q_10 : (f_4 0 48).toInt = v_8.toInt := (congrArg Int32.toInt (show f_4 0 48 = v_8 from ev_8.symm))
  have q_11 : (f_4 0 48).toInt = v_8.toInt := (congrArg Int32.toInt (show f_4 0 48 = v_8 from ev_8.symm))
  refine lv_iload_n hx hb dX12_setsAs_57 rfl (lv_at hl 2 rfl) ?_
  refine lv_aload_n hx hb dX12_setsAs_58 rfl (lv_at hl 0 rfl) ?_
  refine sg_get (ci := 12) (v := .int (f_4 0 50)) (C := RX12) (T := TX12) (N := 55) hx hb hts (fun w h => List.mem_cons_of_mem _ (gx_12 w h)) hown hK hP 0 (by decide) rfl rfl 50 (by decide) (hts _ (List.mem_cons_of_mem _ mw_680)) (fun _ h9 => h9) rfl dX12_setsAs_59 ?_
  refine lv_topi (fun v_12 ev_12 => ?_)
  have q_13 : 0 ≤ v_12.toInt ∧ v_12.toInt ≤ 49 := by rw [ev_12]; exact hI 0 50
  refine lv_iadd hx hb dX12_setsAs_62 ?_
  refine lv_topi (fun v_14 ev_14 => ?_)
  have q_15 : (f_4 0 48).toInt = v_8.toInt := (congrArg Int32.toInt (show f_4 0 48 = v_8 from ev_8.symm))
  have q_16 : (f_4 0 48).toInt = v_8.toInt := (congrArg Int32.toInt (show f_4 0 48 = v_8 from ev_8.symm))
  exact hret _ _ _ _ (v_14) f_4 L Q dX12_setsAs_63 hP hS ⟨⟨hI, hF, rfl, rfl⟩, trivial, (by omega)⟩

abbrev WkX12_setsAs_3_f0_f3 : List (Nat × Nat × Option Nat) := [(0, 0, some 48), (21, 21, none)]
set_option maxHeartbeats 4000000 in
set_option maxRecDepth 100000 in
theorem kX12_setsAs_3_f0_f3 (l : Launch) (D : va_G) (ca : Nat → ClassId) (za h : Nat → Nat) (hh : sgH 26 h) (f : sg_F) (L : sg_L) (Q : sg_Q) (hI : sgI loM hiM f) (x1 : Int32) (hf_0_48 : f 0 48 = 0) (hf_0_49 : f 0 49 = 3) (p0 : 0 ≤ (f 0 48).toInt ∧ (f 0 48).toInt ≤ 0) (sz : Nat) : Met l yX12_setsAs gwX12_setsAs { frames := 1, cells := 0, slots := 0, locals := 21 } (sgP D vwCl (tyX ca) 26 h (eM ca h) zcM za f L Q sz [.ref (h 0), .int 3, .int x1]) (sgQi D vwCl 26 h (eM ca h) sz (fun r f1 L1 Q1 => ((sgI loM hiM f1 ∧ sgK WkX12_setsAs_3_f0_f3 f f1 ∧ L1 = L ∧ Q1 = Q) ∧ True ∧ (1 ≤ (f1 0 48).toInt ∧ (f1 0 48).toInt ≤ 1)))) 0 0 (sgA 26 h sz) := by
  refine sg_ofWi (cc := cX12_setsAs) (maxL := 3) RX12 (by decide) rfl rfl (Nat.le_of_ble_eq_true rfl) ?_
  intro p e s m below meth cd Qz ls hx hb hml hown hts hK hZ hP hS hl hret
  have hA := sgY.self (n := 26) (h := h) (sz := s.heap.size)
  have hl : lv_has ls 3 [(0, .ref (h 0)), (1, .int 3), (2, .int x1)] := hl
  obtain ⟨H, hH⟩ : ∃ z : Heap, z = s.heap := ⟨_, rfl⟩
  obtain ⟨locs, hlo⟩ : ∃ z : List Loc, z = [] := ⟨_, rfl⟩
  have hP : va_P D vwCl (sgw 26 h (eM ca h) f L Q) H := by rw [hH]; exact hP
  have hS : va_S (sgA 26 h s.heap.size) s.heap H locs := by rw [hH, hlo]; exact hS
  suffices hgo : W p l e ({ frames := 1, cells := 0, slots := 0, locals := 21 }) s m ([.ref (h 0), .int 3, .int x1] : List Value).toArray below meth cd H locs 0 0 Qz (F0 m 0 ls []) by rw [hH, hlo] at hgo; exact hgo
  clear hH hlo
  have o_1 : (f 0 48).toInt = 0 := (congrArg Int32.toInt (show f 0 48 = 0 from hf_0_48)).trans (by decide)
  have hF : sgK WkX12_setsAs_3_f0_f3 f f := sgK.rf
  refine lv_iload_n hx hb dX12_setsAs_0 rfl (lv_at hl 1 rfl) ?_
  refine lv_iconst (v := 1) hx hb dX12_setsAs_1 (by decide) ?_
  refine lv_icmp_eq (tgt := 16) hx hb dX12_setsAs_2 (by decide) (fun c => absurd c (by decide)) (fun c => ?_)
  refine lv_iload_n hx hb dX12_setsAs_5 rfl (lv_at hl 1 rfl) ?_
  refine lv_iconst (v := 4) hx hb dX12_setsAs_6 (by decide) ?_
  refine lv_icmp_eq (tgt := 16) hx hb dX12_setsAs_7 (by decide) (fun c => absurd c (by decide)) (fun c => ?_)
  refine lv_iload_n hx hb dX12_setsAs_10 rfl (lv_at hl 1 rfl) ?_
  refine lv_bipush (v := 7) hx hb dX12_setsAs_11 (by decide) ?_
  refine lv_icmp_ne (tgt := 31) hx hb dX12_setsAs_13 (by decide) (fun c => ?_) (fun c => absurd c (by decide))
  refine lv_iload_n hx hb dX12_setsAs_31 rfl (lv_at hl 1 rfl) ?_
  refine lv_bipush (v := 6) hx hb dX12_setsAs_32 (by decide) ?_
  refine lv_icmp_ne (tgt := 52) hx hb dX12_setsAs_34 (by decide) (fun c => ?_) (fun c => absurd c (by decide))
  refine lv_aload_n hx hb dX12_setsAs_52 rfl (lv_at hl 0 rfl) ?_
  refine lv_iconst (v := 1) hx hb dX12_setsAs_53 (by decide) ?_
  have q_2 : (f 0 48).toInt = 0 := (congrArg Int32.toInt (show f 0 48 = 0 from hf_0_48)).trans (by decide)
  have q_3 : (f 0 48).toInt = 0 := (congrArg Int32.toInt (show f 0 48 = 0 from hf_0_48)).trans (by decide)
  refine sg_callv (va_runV (As := [.int 1]) (rest := []) ⟨hx, hb, hml, hown, hts⟩ (kX12_begins_1_f0 l D ca za h hh f L Q hI hf_0_48 (by have k0 : (1 : Int32).toInt = 1 := (by decide); omega) H.size) (cwV 1 hts (gw_V (fun _ h => List.mem_cons_of_mem _ h) mw_734 mw_735 mw_736 mw_619 mw_733) rfl rfl rfl (by decide +kernel) ⟨Nat.le_of_ble_eq_true rfl, Nat.le_of_ble_eq_true rfl⟩) (sg_preV (ci := 12) (C := RX12) (T := TX12) (N := 55) hA hK hP hS hZ 0 (by decide) rfl rfl) rfl rfl hl.1 rfl (lv_room (Nat.le_of_ble_eq_true rfl)) dX12_setsAs_54 ⟨Nat.le_refl _, Nat.le_refl _⟩) hA hS (fun f_4 L_5 Q_6 H locs hq hP hS => ?_)
  obtain ⟨⟨hI, hk_f_4, eL9, eQ9⟩, p_7⟩ := hq
  rw [eL9, eQ9] at hP; clear eL9 eQ9
  have hF : sgK WkX12_setsAs_3_f0_f3 f f_4 := sgK.tr hF hk_f_4 (by decide)
  obtain ⟨v_8, ev_8⟩ : ∃ z : Int32, z = f_4 0 48 := ⟨_, rfl⟩
  have q_9 : 0 ≤ v_8.toInt ∧ v_8.toInt ≤ 19 := by rw [ev_8]; exact hI 0 48
  have q_10 : (f_4 0 48).toInt = v_8.toInt := (congrArg Int32.toInt (show f_4 0 48 = v_8 from ev_8.symm))
  have q_11 : (f_4 0 48).toInt = v_8.toInt := (congrArg Int32.toInt (show f_4 0 48 = v_8 from ev_8.symm))
  refine lv_iload_n hx hb dX12_setsAs_57 rfl (lv_at hl 2 rfl) ?_
  refine lv_aload_n hx hb dX12_setsAs_58 rfl (lv_at hl 0 rfl) ?_
  refine sg_get (ci := 12) (v := .int (f_4 0 50)) (C := RX12) (T := TX12) (N := 55) hx hb hts (fun w h => List.mem_cons_of_mem _ (gx_12 w h)) hown hK hP 0 (by decide) rfl rfl 50 (by decide) (hts _ (List.mem_cons_of_mem _ mw_680)) (fun _ h9 => h9) rfl dX12_setsAs_59 ?_
  refine lv_topi (fun v_12 ev_12 => ?_)
  have q_13 : 0 ≤ v_12.toInt ∧ v_12.toInt ≤ 49 := by rw [ev_12]; exact hI 0 50
  refine lv_iadd hx hb dX12_setsAs_62 ?_
  refine lv_topi (fun v_14 ev_14 => ?_)
  have q_15 : (f_4 0 48).toInt = v_8.toInt := (congrArg Int32.toInt (show f_4 0 48 = v_8 from ev_8.symm))
  have q_16 : (f_4 0 48).toInt = v_8.toInt := (congrArg Int32.toInt (show f_4 0 48 = v_8 from ev_8.symm))
  exact hret _ _ _ _ (v_14) f_4 L Q dX12_setsAs_63 hP hS ⟨⟨hI, hF, rfl, rfl⟩, trivial, (by omega)⟩

abbrev WkX12_setsAs_0_f1_f4 : List (Nat × Nat × Option Nat) := [(0, 0, some 48), (21, 21, none)]
set_option maxHeartbeats 4000000 in
set_option maxRecDepth 100000 in
theorem kX12_setsAs_0_f1_f4 (l : Launch) (D : va_G) (ca : Nat → ClassId) (za h : Nat → Nat) (hh : sgH 26 h) (f : sg_F) (L : sg_L) (Q : sg_Q) (hI : sgI loM hiM f) (x1 : Int32) (hf_0_48 : f 0 48 = 1) (hf_0_49 : f 0 49 = 4) (p0 : 1 ≤ (f 0 48).toInt ∧ (f 0 48).toInt ≤ 1) (sz : Nat) : Met l yX12_setsAs gwX12_setsAs { frames := 1, cells := 0, slots := 0, locals := 21 } (sgP D vwCl (tyX ca) 26 h (eM ca h) zcM za f L Q sz [.ref (h 0), .int 0, .int x1]) (sgQi D vwCl 26 h (eM ca h) sz (fun r f1 L1 Q1 => ((sgI loM hiM f1 ∧ sgK WkX12_setsAs_0_f1_f4 f f1 ∧ L1 = L ∧ Q1 = Q) ∧ True ∧ (2 ≤ (f1 0 48).toInt ∧ (f1 0 48).toInt ≤ 2)))) 0 0 (sgA 26 h sz) := by
  refine sg_ofWi (cc := cX12_setsAs) (maxL := 3) RX12 (by decide) rfl rfl (Nat.le_of_ble_eq_true rfl) ?_
  intro p e s m below meth cd Qz ls hx hb hml hown hts hK hZ hP hS hl hret
  have hA := sgY.self (n := 26) (h := h) (sz := s.heap.size)
  have hl : lv_has ls 3 [(0, .ref (h 0)), (1, .int 0), (2, .int x1)] := hl
  obtain ⟨H, hH⟩ : ∃ z : Heap, z = s.heap := ⟨_, rfl⟩
  obtain ⟨locs, hlo⟩ : ∃ z : List Loc, z = [] := ⟨_, rfl⟩
  have hP : va_P D vwCl (sgw 26 h (eM ca h) f L Q) H := by rw [hH]; exact hP
  have hS : va_S (sgA 26 h s.heap.size) s.heap H locs := by rw [hH, hlo]; exact hS
  suffices hgo : W p l e ({ frames := 1, cells := 0, slots := 0, locals := 21 }) s m ([.ref (h 0), .int 0, .int x1] : List Value).toArray below meth cd H locs 0 0 Qz (F0 m 0 ls []) by rw [hH, hlo] at hgo; exact hgo
  clear hH hlo
  have o_1 : (f 0 48).toInt = 1 := (congrArg Int32.toInt (show f 0 48 = 1 from hf_0_48)).trans (by decide)
  have hF : sgK WkX12_setsAs_0_f1_f4 f f := sgK.rf
  refine lv_iload_n hx hb dX12_setsAs_0 rfl (lv_at hl 1 rfl) ?_
  refine lv_iconst (v := 1) hx hb dX12_setsAs_1 (by decide) ?_
  refine lv_icmp_eq (tgt := 16) hx hb dX12_setsAs_2 (by decide) (fun c => absurd c (by decide)) (fun c => ?_)
  refine lv_iload_n hx hb dX12_setsAs_5 rfl (lv_at hl 1 rfl) ?_
  refine lv_iconst (v := 4) hx hb dX12_setsAs_6 (by decide) ?_
  refine lv_icmp_eq (tgt := 16) hx hb dX12_setsAs_7 (by decide) (fun c => absurd c (by decide)) (fun c => ?_)
  refine lv_iload_n hx hb dX12_setsAs_10 rfl (lv_at hl 1 rfl) ?_
  refine lv_bipush (v := 7) hx hb dX12_setsAs_11 (by decide) ?_
  refine lv_icmp_ne (tgt := 31) hx hb dX12_setsAs_13 (by decide) (fun c => ?_) (fun c => absurd c (by decide))
  refine lv_iload_n hx hb dX12_setsAs_31 rfl (lv_at hl 1 rfl) ?_
  refine lv_bipush (v := 6) hx hb dX12_setsAs_32 (by decide) ?_
  refine lv_icmp_ne (tgt := 52) hx hb dX12_setsAs_34 (by decide) (fun c => ?_) (fun c => absurd c (by decide))
  refine lv_aload_n hx hb dX12_setsAs_52 rfl (lv_at hl 0 rfl) ?_
  refine lv_iconst (v := 1) hx hb dX12_setsAs_53 (by decide) ?_
  have q_2 : (f 0 48).toInt = 1 := (congrArg Int32.toInt (show f 0 48 = 1 from hf_0_48)).trans (by decide)
  have q_3 : (f 0 48).toInt = 1 := (congrArg Int32.toInt (show f 0 48 = 1 from hf_0_48)).trans (by decide)
  refine sg_callv (va_runV (As := [.int 1]) (rest := []) ⟨hx, hb, hml, hown, hts⟩ (kX12_begins_1_f1 l D ca za h hh f L Q hI hf_0_48 (by have k0 : (1 : Int32).toInt = 1 := (by decide); omega) H.size) (cwV 1 hts (gw_V (fun _ h => List.mem_cons_of_mem _ h) mw_734 mw_735 mw_736 mw_619 mw_733) rfl rfl rfl (by decide +kernel) ⟨Nat.le_of_ble_eq_true rfl, Nat.le_of_ble_eq_true rfl⟩) (sg_preV (ci := 12) (C := RX12) (T := TX12) (N := 55) hA hK hP hS hZ 0 (by decide) rfl rfl) rfl rfl hl.1 rfl (lv_room (Nat.le_of_ble_eq_true rfl)) dX12_setsAs_54 ⟨Nat.le_refl _, Nat.le_refl _⟩) hA hS (fun f_4 L_5 Q_6 H locs hq hP hS => ?_)
  obtain ⟨⟨hI, hk_f_4, eL9, eQ9⟩, p_7⟩ := hq
  rw [eL9, eQ9] at hP; clear eL9 eQ9
  have hF : sgK WkX12_setsAs_0_f1_f4 f f_4 := sgK.tr hF hk_f_4 (by decide)
  obtain ⟨v_8, ev_8⟩ : ∃ z : Int32, z = f_4 0 48 := ⟨_, rfl⟩
  have q_9 : 0 ≤ v_8.toInt ∧ v_8.toInt ≤ 19 := by rw [ev_8]; exact hI 0 48
  have q_10 : (f_4 0 48).toInt = v_8.toInt := (congrArg Int32.toInt (show f_4 0 48 = v_8 from ev_8.symm))
  have q_11 : (f_4 0 48).toInt = v_8.toInt := (congrArg Int32.toInt (show f_4 0 48 = v_8 from ev_8.symm))
  refine lv_iload_n hx hb dX12_setsAs_57 rfl (lv_at hl 2 rfl) ?_
  refine lv_aload_n hx hb dX12_setsAs_58 rfl (lv_at hl 0 rfl) ?_
  refine sg_get (ci := 12) (v := .int (f_4 0 50)) (C := RX12) (T := TX12) (N := 55) hx hb hts (fun w h => List.mem_cons_of_mem _ (gx_12 w h)) hown hK hP 0 (by decide) rfl rfl 50 (by decide) (hts _ (List.mem_cons_of_mem _ mw_680)) (fun _ h9 => h9) rfl dX12_setsAs_59 ?_
  refine lv_topi (fun v_12 ev_12 => ?_)
  have q_13 : 0 ≤ v_12.toInt ∧ v_12.toInt ≤ 49 := by rw [ev_12]; exact hI 0 50
  refine lv_iadd hx hb dX12_setsAs_62 ?_
  refine lv_topi (fun v_14 ev_14 => ?_)
  have q_15 : (f_4 0 48).toInt = v_8.toInt := (congrArg Int32.toInt (show f_4 0 48 = v_8 from ev_8.symm))
  have q_16 : (f_4 0 48).toInt = v_8.toInt := (congrArg Int32.toInt (show f_4 0 48 = v_8 from ev_8.symm))
  exact hret _ _ _ _ (v_14) f_4 L Q dX12_setsAs_63 hP hS ⟨⟨hI, hF, rfl, rfl⟩, trivial, (by omega)⟩

abbrev WkX12_setsAs_4_f0_f4 : List (Nat × Nat × Option Nat) := [(0, 0, some 48), (21, 21, none)]
set_option maxHeartbeats 4000000 in
set_option maxRecDepth 100000 in
theorem kX12_setsAs_4_f0_f4 (l : Launch) (D : va_G) (ca : Nat → ClassId) (za h : Nat → Nat) (hh : sgH 26 h) (f : sg_F) (L : sg_L) (Q : sg_Q) (hI : sgI loM hiM f) (x1 : Int32) (hf_0_48 : f 0 48 = 0) (hf_0_49 : f 0 49 = 4) (p0 : 0 ≤ (f 0 48).toInt ∧ (f 0 48).toInt ≤ 0) (sz : Nat) : Met l yX12_setsAs gwX12_setsAs { frames := 2, cells := 0, slots := 0, locals := 43 } (sgP D vwCl (tyX ca) 26 h (eM ca h) zcM za f L Q sz [.ref (h 0), .int 4, .int x1]) (sgQi D vwCl 26 h (eM ca h) sz (fun r f1 L1 Q1 => ((sgI loM hiM f1 ∧ sgK WkX12_setsAs_4_f0_f4 f f1 ∧ L1 = L ∧ Q1 = Q) ∧ True ∧ (2 ≤ (f1 0 48).toInt ∧ (f1 0 48).toInt ≤ 2)))) 0 0 (sgA 26 h sz) := by
  refine sg_ofWi (cc := cX12_setsAs) (maxL := 3) RX12 (by decide) rfl rfl (Nat.le_of_ble_eq_true rfl) ?_
  intro p e s m below meth cd Qz ls hx hb hml hown hts hK hZ hP hS hl hret
  have hA := sgY.self (n := 26) (h := h) (sz := s.heap.size)
  have hl : lv_has ls 3 [(0, .ref (h 0)), (1, .int 4), (2, .int x1)] := hl
  obtain ⟨H, hH⟩ : ∃ z : Heap, z = s.heap := ⟨_, rfl⟩
  obtain ⟨locs, hlo⟩ : ∃ z : List Loc, z = [] := ⟨_, rfl⟩
  have hP : va_P D vwCl (sgw 26 h (eM ca h) f L Q) H := by rw [hH]; exact hP
  have hS : va_S (sgA 26 h s.heap.size) s.heap H locs := by rw [hH, hlo]; exact hS
  suffices hgo : W p l e ({ frames := 2, cells := 0, slots := 0, locals := 43 }) s m ([.ref (h 0), .int 4, .int x1] : List Value).toArray below meth cd H locs 0 0 Qz (F0 m 0 ls []) by rw [hH, hlo] at hgo; exact hgo
  clear hH hlo
  have o_1 : (f 0 48).toInt = 0 := (congrArg Int32.toInt (show f 0 48 = 0 from hf_0_48)).trans (by decide)
  have hF : sgK WkX12_setsAs_4_f0_f4 f f := sgK.rf
  have blk_16 : ∀ (fp_16 : sg_F) (H : Heap) (locs : List Loc) (ls : Array Slot), 0 ≤ (fp_16 0 48).toInt ∧ (fp_16 0 48).toInt ≤ 0 → 4 ≤ (fp_16 0 49).toInt ∧ (fp_16 0 49).toInt ≤ 4 → sgI loM hiM fp_16 → sgK WkX12_setsAs_4_f0_f4 f fp_16 → va_P D vwCl (sgw 26 h (eM ca h) fp_16 L Q) H → va_S (sgA 26 h s.heap.size) s.heap H locs → lv_has ls 3 [(0, .ref (h 0)), (2, .int x1)] → W p l e ({ frames := 2, cells := 0, slots := 0, locals := 43 }) s m ([.ref (h 0), .int 4, .int x1] : List Value).toArray below meth cd H locs 0 0 Qz (F0 m 16 ls []) := by
    intro fp_16 H locs ls hy0_16 hy1_16 hI hF hP hS hl
    obtain ⟨v_2, ev_2⟩ : ∃ z : Int32, z = fp_16 0 48 := ⟨_, rfl⟩
    have q_3 : 0 ≤ v_2.toInt ∧ v_2.toInt ≤ 19 := by rw [ev_2]; exact hI 0 48
    have q_4 : (fp_16 0 48).toInt = v_2.toInt := by rw [ev_2]
    obtain ⟨v_5, ev_5⟩ : ∃ z : Int32, z = fp_16 0 49 := ⟨_, rfl⟩
    have q_6 : 0 ≤ v_5.toInt ∧ v_5.toInt ≤ 7 := by rw [ev_5]; exact hI 0 49
    have q_7 : (fp_16 0 49).toInt = v_5.toInt := by rw [ev_5]
    have m_8 : fp_16 0 49 = 4 := (hF 0 49 (by decide)).trans hf_0_49
    refine lv_aload_n hx hb dX12_setsAs_16 rfl (lv_at hl 0 rfl) ?_
    refine lv_bipush (v := 20) hx hb dX12_setsAs_17 (by decide) ?_
    have c_9 : v_2 = 0 := Int32.toInt_inj.mp (by have k9 : (0 : Int32).toInt = 0 := (by decide); omega)
    have q_10 : (fp_16 0 48).toInt = 0 := (congrArg Int32.toInt (show fp_16 0 48 = 0 from (Eq.trans ev_2.symm c_9))).trans (by decide)
    have q_11 : (fp_16 0 48).toInt = 0 := (congrArg Int32.toInt (show fp_16 0 48 = 0 from (Eq.trans ev_2.symm c_9))).trans (by decide)
    refine sg_callv (va_runV (As := [.int 20]) (rest := []) ⟨hx, hb, hml, hown, hts⟩ (kX12_begins_20_f0 l D ca za h hh fp_16 L Q hI (Eq.trans ev_2.symm c_9) (by have k0 : (20 : Int32).toInt = 20 := (by decide); omega) H.size) (cwV 1 hts (gw_V (fun _ h => List.mem_cons_of_mem _ h) mw_734 mw_735 mw_736 mw_619 mw_733) rfl rfl rfl (by decide +kernel) ⟨Nat.le_of_ble_eq_true rfl, Nat.le_of_ble_eq_true rfl⟩) (sg_preV (ci := 12) (C := RX12) (T := TX12) (N := 55) hA hK hP hS hZ 0 (by decide) rfl rfl) rfl rfl hl.1 rfl (lv_room (Nat.le_of_ble_eq_true rfl)) dX12_setsAs_19 ⟨Nat.le_refl _, Nat.le_refl _⟩) hA hS (fun f_12 L_13 Q_14 H locs hq hP hS => ?_)
    obtain ⟨⟨hI, hk_f_12, eL9, eQ9⟩, p_15⟩ := hq
    rw [eL9, eQ9] at hP; clear eL9 eQ9
    have hF : sgK WkX12_setsAs_4_f0_f4 f f_12 := sgK.tr hF hk_f_12 (by decide)
    obtain ⟨v_16, ev_16⟩ : ∃ z : Int32, z = f_12 0 48 := ⟨_, rfl⟩
    have q_17 : 0 ≤ v_16.toInt ∧ v_16.toInt ≤ 19 := by rw [ev_16]; exact hI 0 48
    have q_18 : (f_12 0 48).toInt = v_16.toInt := (congrArg Int32.toInt (show f_12 0 48 = v_16 from ev_16.symm))
    have q_19 : (f_12 0 48).toInt = v_16.toInt := (congrArg Int32.toInt (show f_12 0 48 = v_16 from ev_16.symm))
    refine lv_aload_n hx hb dX12_setsAs_22 rfl (lv_at hl 0 rfl) ?_
    refine lv_iconst (v := 0) hx hb dX12_setsAs_23 (by decide) ?_
    refine lv_iload_n hx hb dX12_setsAs_24 rfl (lv_at hl 1 rfl) ?_
    have c_20 : v_16 = 1 := Int32.toInt_inj.mp (by have k9 : (1 : Int32).toInt = 1 := (by decide); omega)
    have q_21 : (f_12 0 48).toInt = 1 := (congrArg Int32.toInt (show f_12 0 48 = 1 from (Eq.trans ev_16.symm c_20))).trans (by decide)
    have q_22 : (f_12 0 48).toInt = 1 := (congrArg Int32.toInt (show f_12 0 48 = 1 from (Eq.trans ev_16.symm c_20))).trans (by decide)
    refine sg_calli (va_runV (As := [.int 0, .int x1]) (rest := []) ⟨hx, hb, hml, hown, hts⟩ (kX12_setsAs_0_f1_f4 l D ca za h hh f_12 L Q hI x1 (Eq.trans ev_16.symm c_20) ((hk_f_12 0 49 (by decide)).trans m_8) (by have k0 : (0 : Int32).toInt = 0 := (by decide); omega) H.size) (cwV 2 hts (gw_V (fun _ h => List.mem_cons_of_mem _ h) mw_744 mw_745 mw_746 mw_619 mw_743) rfl rfl rfl (by decide +kernel) ⟨Nat.le_of_ble_eq_true rfl, Nat.le_of_ble_eq_true rfl⟩) (sg_preV (ci := 12) (C := RX12) (T := TX12) (N := 55) hA hK hP hS hZ 0 (by decide) rfl rfl) rfl rfl hl.1 rfl (lv_room (Nat.le_of_ble_eq_true rfl)) dX12_setsAs_25 ⟨Nat.le_refl _, Nat.le_refl _⟩) hA hS (fun r_26 f_23 L_24 Q_25 H locs hq hP hS => ?_)
    obtain ⟨⟨hI, hk_f_23, eL9, eQ9⟩, hq, p_27⟩ := hq
    rw [eL9, eQ9] at hP; clear eL9 eQ9
    have hF : sgK WkX12_setsAs_4_f0_f4 f f_23 := sgK.tr hF hk_f_23 (by decide)
    obtain ⟨v_28, ev_28⟩ : ∃ z : Int32, z = f_23 0 48 := ⟨_, rfl⟩
    have q_29 : 0 ≤ v_28.toInt ∧ v_28.toInt ≤ 19 := by rw [ev_28]; exact hI 0 48
    have q_30 : (f_23 0 48).toInt = v_28.toInt := (congrArg Int32.toInt (show f_23 0 48 = v_28 from ev_28.symm))
    have q_31 : (f_23 0 48).toInt = v_28.toInt := (congrArg Int32.toInt (show f_23 0 48 = v_28 from ev_28.symm))
    have k_32 : (0 : Int32).toInt = 0 := by decide
    refine lv_iconst (v := 3) hx hb dX12_setsAs_28 (by decide) ?_
    refine lv_iadd hx hb dX12_setsAs_29 ?_
    refine lv_topi (fun v_33 ev_33 => ?_)
    have q_34 : (f_23 0 48).toInt = v_28.toInt := (congrArg Int32.toInt (show f_23 0 48 = v_28 from ev_28.symm))
    have q_35 : (f_23 0 48).toInt = v_28.toInt := (congrArg Int32.toInt (show f_23 0 48 = v_28 from ev_28.symm))
    exact hret _ _ _ _ (v_33) f_23 L Q dX12_setsAs_30 hP hS ⟨⟨hI, hF, rfl, rfl⟩, trivial, (by omega)⟩
  refine lv_iload_n hx hb dX12_setsAs_0 rfl (lv_at hl 1 rfl) ?_
  refine lv_iconst (v := 1) hx hb dX12_setsAs_1 (by decide) ?_
  refine lv_icmp_eq (tgt := 16) hx hb dX12_setsAs_2 (by decide) (fun c => absurd c (by decide)) (fun c => ?_)
  refine lv_iload_n hx hb dX12_setsAs_5 rfl (lv_at hl 1 rfl) ?_
  refine lv_iconst (v := 4) hx hb dX12_setsAs_6 (by decide) ?_
  refine lv_icmp_eq (tgt := 16) hx hb dX12_setsAs_7 (by decide) (fun c => ?_) (fun c => absurd c (by decide))
  exact blk_16 f _ _ _ (by have zz0_48 : (f 0 48).toInt = 0 := (congrArg Int32.toInt (show f 0 48 = 0 from hf_0_48)).trans (by decide); omega) (by have zz0_49 : (f 0 49).toInt = 4 := (congrArg Int32.toInt (show f 0 49 = 4 from hf_0_49)).trans (by decide); omega) hI hF hP hS (lv_sub hl [0, 2] rfl)

abbrev WkX12_setsAs_5_f0_f5 : List (Nat × Nat × Option Nat) := [(0, 0, some 48), (21, 21, none)]
set_option maxHeartbeats 4000000 in
set_option maxRecDepth 100000 in
theorem kX12_setsAs_5_f0_f5 (l : Launch) (D : va_G) (ca : Nat → ClassId) (za h : Nat → Nat) (hh : sgH 26 h) (f : sg_F) (L : sg_L) (Q : sg_Q) (hI : sgI loM hiM f) (x1 : Int32) (hf_0_48 : f 0 48 = 0) (hf_0_49 : f 0 49 = 5) (p0 : 0 ≤ (f 0 48).toInt ∧ (f 0 48).toInt ≤ 0) (sz : Nat) : Met l yX12_setsAs gwX12_setsAs { frames := 1, cells := 0, slots := 0, locals := 21 } (sgP D vwCl (tyX ca) 26 h (eM ca h) zcM za f L Q sz [.ref (h 0), .int 5, .int x1]) (sgQi D vwCl 26 h (eM ca h) sz (fun r f1 L1 Q1 => ((sgI loM hiM f1 ∧ sgK WkX12_setsAs_5_f0_f5 f f1 ∧ L1 = L ∧ Q1 = Q) ∧ True ∧ (1 ≤ (f1 0 48).toInt ∧ (f1 0 48).toInt ≤ 1)))) 0 0 (sgA 26 h sz) := by
  refine sg_ofWi (cc := cX12_setsAs) (maxL := 3) RX12 (by decide) rfl rfl (Nat.le_of_ble_eq_true rfl) ?_
  intro p e s m below meth cd Qz ls hx hb hml hown hts hK hZ hP hS hl hret
  have hA := sgY.self (n := 26) (h := h) (sz := s.heap.size)
  have hl : lv_has ls 3 [(0, .ref (h 0)), (1, .int 5), (2, .int x1)] := hl
  obtain ⟨H, hH⟩ : ∃ z : Heap, z = s.heap := ⟨_, rfl⟩
  obtain ⟨locs, hlo⟩ : ∃ z : List Loc, z = [] := ⟨_, rfl⟩
  have hP : va_P D vwCl (sgw 26 h (eM ca h) f L Q) H := by rw [hH]; exact hP
  have hS : va_S (sgA 26 h s.heap.size) s.heap H locs := by rw [hH, hlo]; exact hS
  suffices hgo : W p l e ({ frames := 1, cells := 0, slots := 0, locals := 21 }) s m ([.ref (h 0), .int 5, .int x1] : List Value).toArray below meth cd H locs 0 0 Qz (F0 m 0 ls []) by rw [hH, hlo] at hgo; exact hgo
  clear hH hlo
  have o_1 : (f 0 48).toInt = 0 := (congrArg Int32.toInt (show f 0 48 = 0 from hf_0_48)).trans (by decide)
  have hF : sgK WkX12_setsAs_5_f0_f5 f f := sgK.rf
  refine lv_iload_n hx hb dX12_setsAs_0 rfl (lv_at hl 1 rfl) ?_
  refine lv_iconst (v := 1) hx hb dX12_setsAs_1 (by decide) ?_
  refine lv_icmp_eq (tgt := 16) hx hb dX12_setsAs_2 (by decide) (fun c => absurd c (by decide)) (fun c => ?_)
  refine lv_iload_n hx hb dX12_setsAs_5 rfl (lv_at hl 1 rfl) ?_
  refine lv_iconst (v := 4) hx hb dX12_setsAs_6 (by decide) ?_
  refine lv_icmp_eq (tgt := 16) hx hb dX12_setsAs_7 (by decide) (fun c => absurd c (by decide)) (fun c => ?_)
  refine lv_iload_n hx hb dX12_setsAs_10 rfl (lv_at hl 1 rfl) ?_
  refine lv_bipush (v := 7) hx hb dX12_setsAs_11 (by decide) ?_
  refine lv_icmp_ne (tgt := 31) hx hb dX12_setsAs_13 (by decide) (fun c => ?_) (fun c => absurd c (by decide))
  refine lv_iload_n hx hb dX12_setsAs_31 rfl (lv_at hl 1 rfl) ?_
  refine lv_bipush (v := 6) hx hb dX12_setsAs_32 (by decide) ?_
  refine lv_icmp_ne (tgt := 52) hx hb dX12_setsAs_34 (by decide) (fun c => ?_) (fun c => absurd c (by decide))
  refine lv_aload_n hx hb dX12_setsAs_52 rfl (lv_at hl 0 rfl) ?_
  refine lv_iconst (v := 1) hx hb dX12_setsAs_53 (by decide) ?_
  have q_2 : (f 0 48).toInt = 0 := (congrArg Int32.toInt (show f 0 48 = 0 from hf_0_48)).trans (by decide)
  have q_3 : (f 0 48).toInt = 0 := (congrArg Int32.toInt (show f 0 48 = 0 from hf_0_48)).trans (by decide)
  refine sg_callv (va_runV (As := [.int 1]) (rest := []) ⟨hx, hb, hml, hown, hts⟩ (kX12_begins_1_f0 l D ca za h hh f L Q hI hf_0_48 (by have k0 : (1 : Int32).toInt = 1 := (by decide); omega) H.size) (cwV 1 hts (gw_V (fun _ h => List.mem_cons_of_mem _ h) mw_734 mw_735 mw_736 mw_619 mw_733) rfl rfl rfl (by decide +kernel) ⟨Nat.le_of_ble_eq_true rfl, Nat.le_of_ble_eq_true rfl⟩) (sg_preV (ci := 12) (C := RX12) (T := TX12) (N := 55) hA hK hP hS hZ 0 (by decide) rfl rfl) rfl rfl hl.1 rfl (lv_room (Nat.le_of_ble_eq_true rfl)) dX12_setsAs_54 ⟨Nat.le_refl _, Nat.le_refl _⟩) hA hS (fun f_4 L_5 Q_6 H locs hq hP hS => ?_)
  obtain ⟨⟨hI, hk_f_4, eL9, eQ9⟩, p_7⟩ := hq
  rw [eL9, eQ9] at hP; clear eL9 eQ9
  have hF : sgK WkX12_setsAs_5_f0_f5 f f_4 := sgK.tr hF hk_f_4 (by decide)
  obtain ⟨v_8, ev_8⟩ : ∃ z : Int32, z = f_4 0 48 := ⟨_, rfl⟩
  have q_9 : 0 ≤ v_8.toInt ∧ v_8.toInt ≤ 19 := by rw [ev_8]; exact hI 0 48
  have q_10 : (f_4 0 48).toInt = v_8.toInt := (congrArg Int32.toInt (show f_4 0 48 = v_8 from ev_8.symm))
  have q_11 : (f_4 0 48).toInt = v_8.toInt := (congrArg Int32.toInt (show f_4 0 48 = v_8 from ev_8.symm))
  refine lv_iload_n hx hb dX12_setsAs_57 rfl (lv_at hl 2 rfl) ?_
  refine lv_aload_n hx hb dX12_setsAs_58 rfl (lv_at hl 0 rfl) ?_
  refine sg_get (ci := 12) (v := .int (f_4 0 50)) (C := RX12) (T := TX12) (N := 55) hx hb hts (fun w h => List.mem_cons_of_mem _ (gx_12 w h)) hown hK hP 0 (by decide) rfl rfl 50 (by decide) (hts _ (List.mem_cons_of_mem _ mw_680)) (fun _ h9 => h9) rfl dX12_setsAs_59 ?_
  refine lv_topi (fun v_12 ev_12 => ?_)
  have q_13 : 0 ≤ v_12.toInt ∧ v_12.toInt ≤ 49 := by rw [ev_12]; exact hI 0 50
  refine lv_iadd hx hb dX12_setsAs_62 ?_
  refine lv_topi (fun v_14 ev_14 => ?_)
  have q_15 : (f_4 0 48).toInt = v_8.toInt := (congrArg Int32.toInt (show f_4 0 48 = v_8 from ev_8.symm))
  have q_16 : (f_4 0 48).toInt = v_8.toInt := (congrArg Int32.toInt (show f_4 0 48 = v_8 from ev_8.symm))
  exact hret _ _ _ _ (v_14) f_4 L Q dX12_setsAs_63 hP hS ⟨⟨hI, hF, rfl, rfl⟩, trivial, (by omega)⟩

abbrev WkX12_begins_70_f0 : List (Nat × Nat × Option Nat) := [(0, 0, some 48), (21, 21, none)]
set_option maxHeartbeats 4000000 in
set_option maxRecDepth 100000 in
theorem kX12_begins_70_f0 (l : Launch) (D : va_G) (ca : Nat → ClassId) (za h : Nat → Nat) (hh : sgH 26 h) (f : sg_F) (L : sg_L) (Q : sg_Q) (hI : sgI loM hiM f) (hf_0_48 : f 0 48 = 0) (p0 : 0 ≤ (f 0 48).toInt ∧ (f 0 48).toInt ≤ 0) (sz : Nat) : Met l yX12_begins gwX12_begins { frames := 0, cells := 0, slots := 0, locals := 0 } (sgP D vwCl (tyX ca) 26 h (eM ca h) zcM za f L Q sz [.ref (h 0), .int 70]) (sgQv D vwCl 26 h (eM ca h) sz (fun f1 L1 Q1 => ((sgI loM hiM f1 ∧ sgK WkX12_begins_70_f0 f f1 ∧ L1 = L ∧ Q1 = Q) ∧ (1 ≤ (f1 0 48).toInt ∧ (f1 0 48).toInt ≤ 1)))) 0 0 (sgA 26 h sz) := by
  refine sg_ofWv (cc := cX12_begins) (maxL := 2) RX12 (by decide) rfl rfl (Nat.le_of_ble_eq_true rfl) ?_
  intro p e s m below meth cd Qz ls hx hb hml hown hts hK hZ hP hS hl hret
  have hA := sgY.self (n := 26) (h := h) (sz := s.heap.size)
  have hl : lv_has ls 2 [(0, .ref (h 0)), (1, .int 70)] := hl
  obtain ⟨H, hH⟩ : ∃ z : Heap, z = s.heap := ⟨_, rfl⟩
  obtain ⟨locs, hlo⟩ : ∃ z : List Loc, z = [] := ⟨_, rfl⟩
  have hP : va_P D vwCl (sgw 26 h (eM ca h) f L Q) H := by rw [hH]; exact hP
  have hS : va_S (sgA 26 h s.heap.size) s.heap H locs := by rw [hH, hlo]; exact hS
  suffices hgo : W p l e ({ frames := 0, cells := 0, slots := 0, locals := 0 }) s m ([.ref (h 0), .int 70] : List Value).toArray below meth cd H locs 0 0 Qz (F0 m 0 ls []) by rw [hH, hlo] at hgo; exact hgo
  clear hH hlo
  have o_1 : (f 0 48).toInt = 0 := (congrArg Int32.toInt (show f 0 48 = 0 from hf_0_48)).trans (by decide)
  have hF : sgK WkX12_begins_70_f0 f f := sgK.rf
  have blk_19 : ∀ (fp_19 : sg_F) (H : Heap) (locs : List Loc) (ls : Array Slot), 0 ≤ (fp_19 0 48).toInt ∧ (fp_19 0 48).toInt ≤ 0 → sgI loM hiM fp_19 → sgK WkX12_begins_70_f0 f fp_19 → va_P D vwCl (sgw 26 h (eM ca h) fp_19 L Q) H → va_S (sgA 26 h s.heap.size) s.heap H locs → lv_has ls 2 [(0, .ref (h 0))] → W p l e ({ frames := 0, cells := 0, slots := 0, locals := 0 }) s m ([.ref (h 0), .int 70] : List Value).toArray below meth cd H locs 0 0 Qz (F0 m 19 ls []) := by
    intro fp_19 H locs ls hy0_19 hI hF hP hS hl
    obtain ⟨v_2, ev_2⟩ : ∃ z : Int32, z = fp_19 0 48 := ⟨_, rfl⟩
    have q_3 : 0 ≤ v_2.toInt ∧ v_2.toInt ≤ 19 := by rw [ev_2]; exact hI 0 48
    have q_4 : (fp_19 0 48).toInt = v_2.toInt := by rw [ev_2]
    refine lv_aload_n hx hb dX12_begins_19 rfl (lv_at hl 0 rfl) ?_
    refine lv_dup hx hb dX12_begins_20 rfl ?_
    refine sg_get (ci := 12) (v := .int v_2) (C := RX12) (T := TX12) (N := 55) hx hb hts (fun w h => List.mem_cons_of_mem _ (gx_12 w h)) hown hK hP 0 (by decide) rfl rfl 48 (by decide) (hts _ (List.mem_cons_of_mem _ mw_621)) (fun _ h9 => h9) (congrArg (fun z => some (Value.int z)) (show fp_19 0 48 = v_2 from ev_2.symm)) dX12_begins_21 ?_
    refine lv_iconst (v := 1) hx hb dX12_begins_24 (by decide) ?_
    refine lv_iadd hx hb dX12_begins_25 ?_
    refine lv_topi (fun v_5 ev_5 => ?_)
    have q_6 : v_5.toInt = v_2.toInt + 1 := by rw [ev_5]; have k1 : (1 : Int32).toInt = 1 := (by decide); exact (bn_addI (by omega) (by omega)).trans (by omega)
    refine sg_put (ci := 12) (x := v_5) (ty := .int) (C := RX12) (T := TX12) (N := 55) hx hb hts (fun w h => List.mem_cons_of_mem _ (gx_12 w h)) tyX12 tyX12_ok nmX12 hown hh hA hK hP hS 0 (by decide) rfl rfl 48 (by decide) (hts _ (List.mem_cons_of_mem _ mw_621)) (fun _ h9 => h9) rfl rfl (by decide +kernel) rfl rfl (Nat.le_of_ble_eq_true rfl) dX12_begins_26 (fun f_7 H locs ef_7 hP hS => ?_)
    have hI : sgI loM hiM f_7 := by rw [ef_7]; exact sgI.put hI 0 48 (show 0 ≤ (v_5 : Int32).toInt ∧ (v_5 : Int32).toInt ≤ 19 from by omega)
    have hF : sgK WkX12_begins_70_f0 f f_7 := sgK.put hF ef_7 (by rfl)
    have q_8 : (f_7 0 48).toInt = v_5.toInt := (congrArg Int32.toInt (show f_7 0 48 = v_5 from (by rw [ef_7, sg_up_s, sgu_s])))
    have q_9 : (f_7 0 48).toInt = v_5.toInt := (congrArg Int32.toInt (show f_7 0 48 = v_5 from (by rw [ef_7, sg_up_s, sgu_s])))
    exact hret _ _ _ _ f_7 L Q dX12_begins_29 hP hS ⟨⟨hI, hF, rfl, rfl⟩, (by omega)⟩
  refine lv_aload_n hx hb dX12_begins_0 rfl (lv_at hl 0 rfl) ?_
  refine sg_get (ci := 12) (v := .int 0) (C := RX12) (T := TX12) (N := 55) hx hb hts (fun w h => List.mem_cons_of_mem _ (gx_12 w h)) hown hK hP 0 (by decide) rfl rfl 48 (by decide) (hts _ (List.mem_cons_of_mem _ mw_621)) (fun _ h9 => h9) (congrArg (fun z => some (Value.int z)) (show f 0 48 = 0 from hf_0_48)) dX12_begins_1 ?_
  refine lv_bipush (v := 24) hx hb dX12_begins_4 (by decide) ?_
  refine lv_icmp_ge (tgt := 19) hx hb dX12_begins_6 (by decide) (fun c => absurd c (by decide)) (fun c => ?_)
  refine lv_aload_n hx hb dX12_begins_9 rfl (lv_at hl 0 rfl) ?_
  refine sg_get (ci := 12) (v := .ref (h 21)) (C := RX12) (T := TX12) (N := 55) hx hb hts (fun w h => List.mem_cons_of_mem _ (gx_12 w h)) hown hK hP 0 (by decide) rfl rfl 47 (by decide) (hts _ (List.mem_cons_of_mem _ mw_718)) (fun _ h9 => h9) rfl dX12_begins_10 ?_
  refine lv_aload_n hx hb dX12_begins_13 rfl (lv_at hl 0 rfl) ?_
  refine sg_get (ci := 12) (v := .int 0) (C := RX12) (T := TX12) (N := 55) hx hb hts (fun w h => List.mem_cons_of_mem _ (gx_12 w h)) hown hK hP 0 (by decide) rfl rfl 48 (by decide) (hts _ (List.mem_cons_of_mem _ mw_621)) (fun _ h9 => h9) (congrArg (fun z => some (Value.int z)) (show f 0 48 = 0 from hf_0_48)) dX12_begins_14 ?_
  refine lv_iload_n hx hb dX12_begins_17 rfl (lv_at hl 1 rfl) ?_
  refine sg_iast hx hb hh hA hK hP hS 21 (by decide) 0 (fun _ => rfl) rfl (i := 0) (x := 70) (vp_in_iff.mpr (by decide)) dX12_begins_18 (fun f_10 H locs ef_10 hP hS => ?_)
  have hI : sgI loM hiM f_10 := by rw [ef_10]; exact sgI.put hI 21 (Int32.toNatClampNeg 0) (show 0 ≤ (70 : Int32).toInt ∧ (70 : Int32).toInt ≤ 81 from by decide)
  have hF : sgK WkX12_begins_70_f0 f f_10 := sgK.put hF ef_10 (by rfl)
  exact blk_19 f_10 _ _ _ (by have zz0_48 : (f_10 0 48).toInt = 0 := (congrArg Int32.toInt (show f_10 0 48 = 0 from (by rw [ef_10, sg_up_n (by decide)]; exact hf_0_48))).trans (by decide); omega) hI hF hP hS (lv_sub hl [0] rfl)

abbrev WkX12_setsAs_0_f1_f6 : List (Nat × Nat × Option Nat) := [(0, 0, some 48), (21, 21, none)]
set_option maxHeartbeats 4000000 in
set_option maxRecDepth 100000 in
theorem kX12_setsAs_0_f1_f6 (l : Launch) (D : va_G) (ca : Nat → ClassId) (za h : Nat → Nat) (hh : sgH 26 h) (f : sg_F) (L : sg_L) (Q : sg_Q) (hI : sgI loM hiM f) (x1 : Int32) (hf_0_48 : f 0 48 = 1) (hf_0_49 : f 0 49 = 6) (p0 : 1 ≤ (f 0 48).toInt ∧ (f 0 48).toInt ≤ 1) (sz : Nat) : Met l yX12_setsAs gwX12_setsAs { frames := 1, cells := 0, slots := 0, locals := 21 } (sgP D vwCl (tyX ca) 26 h (eM ca h) zcM za f L Q sz [.ref (h 0), .int 0, .int x1]) (sgQi D vwCl 26 h (eM ca h) sz (fun r f1 L1 Q1 => ((sgI loM hiM f1 ∧ sgK WkX12_setsAs_0_f1_f6 f f1 ∧ L1 = L ∧ Q1 = Q) ∧ True ∧ (2 ≤ (f1 0 48).toInt ∧ (f1 0 48).toInt ≤ 2)))) 0 0 (sgA 26 h sz) := by
  refine sg_ofWi (cc := cX12_setsAs) (maxL := 3) RX12 (by decide) rfl rfl (Nat.le_of_ble_eq_true rfl) ?_
  intro p e s m below meth cd Qz ls hx hb hml hown hts hK hZ hP hS hl hret
  have hA := sgY.self (n := 26) (h := h) (sz := s.heap.size)
  have hl : lv_has ls 3 [(0, .ref (h 0)), (1, .int 0), (2, .int x1)] := hl
  obtain ⟨H, hH⟩ : ∃ z : Heap, z = s.heap := ⟨_, rfl⟩
  obtain ⟨locs, hlo⟩ : ∃ z : List Loc, z = [] := ⟨_, rfl⟩
  have hP : va_P D vwCl (sgw 26 h (eM ca h) f L Q) H := by rw [hH]; exact hP
  have hS : va_S (sgA 26 h s.heap.size) s.heap H locs := by rw [hH, hlo]; exact hS
  suffices hgo : W p l e ({ frames := 1, cells := 0, slots := 0, locals := 21 }) s m ([.ref (h 0), .int 0, .int x1] : List Value).toArray below meth cd H locs 0 0 Qz (F0 m 0 ls []) by rw [hH, hlo] at hgo; exact hgo
  clear hH hlo
  have o_1 : (f 0 48).toInt = 1 := (congrArg Int32.toInt (show f 0 48 = 1 from hf_0_48)).trans (by decide)
  have hF : sgK WkX12_setsAs_0_f1_f6 f f := sgK.rf
  refine lv_iload_n hx hb dX12_setsAs_0 rfl (lv_at hl 1 rfl) ?_
  refine lv_iconst (v := 1) hx hb dX12_setsAs_1 (by decide) ?_
  refine lv_icmp_eq (tgt := 16) hx hb dX12_setsAs_2 (by decide) (fun c => absurd c (by decide)) (fun c => ?_)
  refine lv_iload_n hx hb dX12_setsAs_5 rfl (lv_at hl 1 rfl) ?_
  refine lv_iconst (v := 4) hx hb dX12_setsAs_6 (by decide) ?_
  refine lv_icmp_eq (tgt := 16) hx hb dX12_setsAs_7 (by decide) (fun c => absurd c (by decide)) (fun c => ?_)
  refine lv_iload_n hx hb dX12_setsAs_10 rfl (lv_at hl 1 rfl) ?_
  refine lv_bipush (v := 7) hx hb dX12_setsAs_11 (by decide) ?_
  refine lv_icmp_ne (tgt := 31) hx hb dX12_setsAs_13 (by decide) (fun c => ?_) (fun c => absurd c (by decide))
  refine lv_iload_n hx hb dX12_setsAs_31 rfl (lv_at hl 1 rfl) ?_
  refine lv_bipush (v := 6) hx hb dX12_setsAs_32 (by decide) ?_
  refine lv_icmp_ne (tgt := 52) hx hb dX12_setsAs_34 (by decide) (fun c => ?_) (fun c => absurd c (by decide))
  refine lv_aload_n hx hb dX12_setsAs_52 rfl (lv_at hl 0 rfl) ?_
  refine lv_iconst (v := 1) hx hb dX12_setsAs_53 (by decide) ?_
  have q_2 : (f 0 48).toInt = 1 := (congrArg Int32.toInt (show f 0 48 = 1 from hf_0_48)).trans (by decide)
  have q_3 : (f 0 48).toInt = 1 := (congrArg Int32.toInt (show f 0 48 = 1 from hf_0_48)).trans (by decide)
  refine sg_callv (va_runV (As := [.int 1]) (rest := []) ⟨hx, hb, hml, hown, hts⟩ (kX12_begins_1_f1 l D ca za h hh f L Q hI hf_0_48 (by have k0 : (1 : Int32).toInt = 1 := (by decide); omega) H.size) (cwV 1 hts (gw_V (fun _ h => List.mem_cons_of_mem _ h) mw_734 mw_735 mw_736 mw_619 mw_733) rfl rfl rfl (by decide +kernel) ⟨Nat.le_of_ble_eq_true rfl, Nat.le_of_ble_eq_true rfl⟩) (sg_preV (ci := 12) (C := RX12) (T := TX12) (N := 55) hA hK hP hS hZ 0 (by decide) rfl rfl) rfl rfl hl.1 rfl (lv_room (Nat.le_of_ble_eq_true rfl)) dX12_setsAs_54 ⟨Nat.le_refl _, Nat.le_refl _⟩) hA hS (fun f_4 L_5 Q_6 H locs hq hP hS => ?_)
  obtain ⟨⟨hI, hk_f_4, eL9, eQ9⟩, p_7⟩ := hq
  rw [eL9, eQ9] at hP; clear eL9 eQ9
  have hF : sgK WkX12_setsAs_0_f1_f6 f f_4 := sgK.tr hF hk_f_4 (by decide)
  obtain ⟨v_8, ev_8⟩ : ∃ z : Int32, z = f_4 0 48 := ⟨_, rfl⟩
  have q_9 : 0 ≤ v_8.toInt ∧ v_8.toInt ≤ 19 := by rw [ev_8]; exact hI 0 48
  have q_10 : (f_4 0 48).toInt = v_8.toInt := (congrArg Int32.toInt (show f_4 0 48 = v_8 from ev_8.symm))
  have q_11 : (f_4 0 48).toInt = v_8.toInt := (congrArg Int32.toInt (show f_4 0 48 = v_8 from ev_8.symm))
  refine lv_iload_n hx hb dX12_setsAs_57 rfl (lv_at hl 2 rfl) ?_
  refine lv_aload_n hx hb dX12_setsAs_58 rfl (lv_at hl 0 rfl) ?_
  refine sg_get (ci := 12) (v := .int (f_4 0 50)) (C := RX12) (T := TX12) (N := 55) hx hb hts (fun w h => List.mem_cons_of_mem _ (gx_12 w h)) hown hK hP 0 (by decide) rfl rfl 50 (by decide) (hts _ (List.mem_cons_of_mem _ mw_680)) (fun _ h9 => h9) rfl dX12_setsAs_59 ?_
  refine lv_topi (fun v_12 ev_12 => ?_)
  have q_13 : 0 ≤ v_12.toInt ∧ v_12.toInt ≤ 49 := by rw [ev_12]; exact hI 0 50
  refine lv_iadd hx hb dX12_setsAs_62 ?_
  refine lv_topi (fun v_14 ev_14 => ?_)
  have q_15 : (f_4 0 48).toInt = v_8.toInt := (congrArg Int32.toInt (show f_4 0 48 = v_8 from ev_8.symm))
  have q_16 : (f_4 0 48).toInt = v_8.toInt := (congrArg Int32.toInt (show f_4 0 48 = v_8 from ev_8.symm))
  exact hret _ _ _ _ (v_14) f_4 L Q dX12_setsAs_63 hP hS ⟨⟨hI, hF, rfl, rfl⟩, trivial, (by omega)⟩

abbrev WkX12_setsAs_6_f0_f6 : List (Nat × Nat × Option Nat) := [(0, 0, some 48), (21, 21, none)]
set_option maxHeartbeats 4000000 in
set_option maxRecDepth 100000 in
theorem kX12_setsAs_6_f0_f6 (l : Launch) (D : va_G) (ca : Nat → ClassId) (za h : Nat → Nat) (hh : sgH 26 h) (f : sg_F) (L : sg_L) (Q : sg_Q) (hI : sgI loM hiM f) (x1 : Int32) (hf_0_48 : f 0 48 = 0) (hf_0_49 : f 0 49 = 6) (p0 : 0 ≤ (f 0 48).toInt ∧ (f 0 48).toInt ≤ 0) (sz : Nat) : Met l yX12_setsAs gwX12_setsAs { frames := 2, cells := 0, slots := 0, locals := 43 } (sgP D vwCl (tyX ca) 26 h (eM ca h) zcM za f L Q sz [.ref (h 0), .int 6, .int x1]) (sgQi D vwCl 26 h (eM ca h) sz (fun r f1 L1 Q1 => ((sgI loM hiM f1 ∧ sgK WkX12_setsAs_6_f0_f6 f f1 ∧ L1 = L ∧ Q1 = Q) ∧ True ∧ (2 ≤ (f1 0 48).toInt ∧ (f1 0 48).toInt ≤ 2)))) 0 0 (sgA 26 h sz) := by
  refine sg_ofWi (cc := cX12_setsAs) (maxL := 3) RX12 (by decide) rfl rfl (Nat.le_of_ble_eq_true rfl) ?_
  intro p e s m below meth cd Qz ls hx hb hml hown hts hK hZ hP hS hl hret
  have hA := sgY.self (n := 26) (h := h) (sz := s.heap.size)
  have hl : lv_has ls 3 [(0, .ref (h 0)), (1, .int 6), (2, .int x1)] := hl
  obtain ⟨H, hH⟩ : ∃ z : Heap, z = s.heap := ⟨_, rfl⟩
  obtain ⟨locs, hlo⟩ : ∃ z : List Loc, z = [] := ⟨_, rfl⟩
  have hP : va_P D vwCl (sgw 26 h (eM ca h) f L Q) H := by rw [hH]; exact hP
  have hS : va_S (sgA 26 h s.heap.size) s.heap H locs := by rw [hH, hlo]; exact hS
  suffices hgo : W p l e ({ frames := 2, cells := 0, slots := 0, locals := 43 }) s m ([.ref (h 0), .int 6, .int x1] : List Value).toArray below meth cd H locs 0 0 Qz (F0 m 0 ls []) by rw [hH, hlo] at hgo; exact hgo
  clear hH hlo
  have o_1 : (f 0 48).toInt = 0 := (congrArg Int32.toInt (show f 0 48 = 0 from hf_0_48)).trans (by decide)
  have hF : sgK WkX12_setsAs_6_f0_f6 f f := sgK.rf
  refine lv_iload_n hx hb dX12_setsAs_0 rfl (lv_at hl 1 rfl) ?_
  refine lv_iconst (v := 1) hx hb dX12_setsAs_1 (by decide) ?_
  refine lv_icmp_eq (tgt := 16) hx hb dX12_setsAs_2 (by decide) (fun c => absurd c (by decide)) (fun c => ?_)
  refine lv_iload_n hx hb dX12_setsAs_5 rfl (lv_at hl 1 rfl) ?_
  refine lv_iconst (v := 4) hx hb dX12_setsAs_6 (by decide) ?_
  refine lv_icmp_eq (tgt := 16) hx hb dX12_setsAs_7 (by decide) (fun c => absurd c (by decide)) (fun c => ?_)
  refine lv_iload_n hx hb dX12_setsAs_10 rfl (lv_at hl 1 rfl) ?_
  refine lv_bipush (v := 7) hx hb dX12_setsAs_11 (by decide) ?_
  refine lv_icmp_ne (tgt := 31) hx hb dX12_setsAs_13 (by decide) (fun c => ?_) (fun c => absurd c (by decide))
  refine lv_iload_n hx hb dX12_setsAs_31 rfl (lv_at hl 1 rfl) ?_
  refine lv_bipush (v := 6) hx hb dX12_setsAs_32 (by decide) ?_
  refine lv_icmp_ne (tgt := 52) hx hb dX12_setsAs_34 (by decide) (fun c => absurd c (by decide)) (fun c => ?_)
  refine lv_aload_n hx hb dX12_setsAs_37 rfl (lv_at hl 0 rfl) ?_
  refine lv_bipush (v := 70) hx hb dX12_setsAs_38 (by decide) ?_
  have q_2 : (f 0 48).toInt = 0 := (congrArg Int32.toInt (show f 0 48 = 0 from hf_0_48)).trans (by decide)
  have q_3 : (f 0 48).toInt = 0 := (congrArg Int32.toInt (show f 0 48 = 0 from hf_0_48)).trans (by decide)
  refine sg_callv (va_runV (As := [.int 70]) (rest := []) ⟨hx, hb, hml, hown, hts⟩ (kX12_begins_70_f0 l D ca za h hh f L Q hI hf_0_48 (by have k0 : (70 : Int32).toInt = 70 := (by decide); omega) H.size) (cwV 1 hts (gw_V (fun _ h => List.mem_cons_of_mem _ h) mw_734 mw_735 mw_736 mw_619 mw_733) rfl rfl rfl (by decide +kernel) ⟨Nat.le_of_ble_eq_true rfl, Nat.le_of_ble_eq_true rfl⟩) (sg_preV (ci := 12) (C := RX12) (T := TX12) (N := 55) hA hK hP hS hZ 0 (by decide) rfl rfl) rfl rfl hl.1 rfl (lv_room (Nat.le_of_ble_eq_true rfl)) dX12_setsAs_40 ⟨Nat.le_refl _, Nat.le_refl _⟩) hA hS (fun f_4 L_5 Q_6 H locs hq hP hS => ?_)
  obtain ⟨⟨hI, hk_f_4, eL9, eQ9⟩, p_7⟩ := hq
  rw [eL9, eQ9] at hP; clear eL9 eQ9
  have hF : sgK WkX12_setsAs_6_f0_f6 f f_4 := sgK.tr hF hk_f_4 (by decide)
  obtain ⟨v_8, ev_8⟩ : ∃ z : Int32, z = f_4 0 48 := ⟨_, rfl⟩
  have q_9 : 0 ≤ v_8.toInt ∧ v_8.toInt ≤ 19 := by rw [ev_8]; exact hI 0 48
  have q_10 : (f_4 0 48).toInt = v_8.toInt := (congrArg Int32.toInt (show f_4 0 48 = v_8 from ev_8.symm))
  have q_11 : (f_4 0 48).toInt = v_8.toInt := (congrArg Int32.toInt (show f_4 0 48 = v_8 from ev_8.symm))
  refine lv_aload_n hx hb dX12_setsAs_43 rfl (lv_at hl 0 rfl) ?_
  refine lv_iconst (v := 0) hx hb dX12_setsAs_44 (by decide) ?_
  refine lv_iload_n hx hb dX12_setsAs_45 rfl (lv_at hl 2 rfl) ?_
  have c_12 : v_8 = 1 := Int32.toInt_inj.mp (by have k9 : (1 : Int32).toInt = 1 := (by decide); omega)
  have q_13 : (f_4 0 48).toInt = 1 := (congrArg Int32.toInt (show f_4 0 48 = 1 from (Eq.trans ev_8.symm c_12))).trans (by decide)
  have q_14 : (f_4 0 48).toInt = 1 := (congrArg Int32.toInt (show f_4 0 48 = 1 from (Eq.trans ev_8.symm c_12))).trans (by decide)
  refine sg_calli (va_runV (As := [.int 0, .int x1]) (rest := []) ⟨hx, hb, hml, hown, hts⟩ (kX12_setsAs_0_f1_f6 l D ca za h hh f_4 L Q hI x1 (Eq.trans ev_8.symm c_12) ((hk_f_4 0 49 (by decide)).trans hf_0_49) (by have k0 : (0 : Int32).toInt = 0 := (by decide); omega) H.size) (cwV 2 hts (gw_V (fun _ h => List.mem_cons_of_mem _ h) mw_744 mw_745 mw_746 mw_619 mw_743) rfl rfl rfl (by decide +kernel) ⟨Nat.le_of_ble_eq_true rfl, Nat.le_of_ble_eq_true rfl⟩) (sg_preV (ci := 12) (C := RX12) (T := TX12) (N := 55) hA hK hP hS hZ 0 (by decide) rfl rfl) rfl rfl hl.1 rfl (lv_room (Nat.le_of_ble_eq_true rfl)) dX12_setsAs_46 ⟨Nat.le_refl _, Nat.le_refl _⟩) hA hS (fun r_18 f_15 L_16 Q_17 H locs hq hP hS => ?_)
  obtain ⟨⟨hI, hk_f_15, eL9, eQ9⟩, hq, p_19⟩ := hq
  rw [eL9, eQ9] at hP; clear eL9 eQ9
  have hF : sgK WkX12_setsAs_6_f0_f6 f f_15 := sgK.tr hF hk_f_15 (by decide)
  obtain ⟨v_20, ev_20⟩ : ∃ z : Int32, z = f_15 0 48 := ⟨_, rfl⟩
  have q_21 : 0 ≤ v_20.toInt ∧ v_20.toInt ≤ 19 := by rw [ev_20]; exact hI 0 48
  have q_22 : (f_15 0 48).toInt = v_20.toInt := (congrArg Int32.toInt (show f_15 0 48 = v_20 from ev_20.symm))
  have q_23 : (f_15 0 48).toInt = v_20.toInt := (congrArg Int32.toInt (show f_15 0 48 = v_20 from ev_20.symm))
  have k_24 : (0 : Int32).toInt = 0 := by decide
  refine lv_iconst (v := 2) hx hb dX12_setsAs_49 (by decide) ?_
  refine lv_imul hx hb dX12_setsAs_50 ?_
  refine lv_topi (fun v_25 ev_25 => ?_)
  have q_26 : (f_15 0 48).toInt = v_20.toInt := (congrArg Int32.toInt (show f_15 0 48 = v_20 from ev_20.symm))
  have q_27 : (f_15 0 48).toInt = v_20.toInt := (congrArg Int32.toInt (show f_15 0 48 = v_20 from ev_20.symm))
  exact hret _ _ _ _ (v_25) f_15 L Q dX12_setsAs_51 hP hS ⟨⟨hI, hF, rfl, rfl⟩, trivial, (by omega)⟩

abbrev WkX12_setsAs_0_f1_f7 : List (Nat × Nat × Option Nat) := [(0, 0, some 48), (21, 21, none)]
set_option maxHeartbeats 4000000 in
set_option maxRecDepth 100000 in
theorem kX12_setsAs_0_f1_f7 (l : Launch) (D : va_G) (ca : Nat → ClassId) (za h : Nat → Nat) (hh : sgH 26 h) (f : sg_F) (L : sg_L) (Q : sg_Q) (hI : sgI loM hiM f) (x1 : Int32) (hf_0_48 : f 0 48 = 1) (hf_0_49 : f 0 49 = 7) (p0 : 1 ≤ (f 0 48).toInt ∧ (f 0 48).toInt ≤ 1) (sz : Nat) : Met l yX12_setsAs gwX12_setsAs { frames := 1, cells := 0, slots := 0, locals := 21 } (sgP D vwCl (tyX ca) 26 h (eM ca h) zcM za f L Q sz [.ref (h 0), .int 0, .int x1]) (sgQi D vwCl 26 h (eM ca h) sz (fun r f1 L1 Q1 => ((sgI loM hiM f1 ∧ sgK WkX12_setsAs_0_f1_f7 f f1 ∧ L1 = L ∧ Q1 = Q) ∧ True ∧ (2 ≤ (f1 0 48).toInt ∧ (f1 0 48).toInt ≤ 2)))) 0 0 (sgA 26 h sz) := by
  refine sg_ofWi (cc := cX12_setsAs) (maxL := 3) RX12 (by decide) rfl rfl (Nat.le_of_ble_eq_true rfl) ?_
  intro p e s m below meth cd Qz ls hx hb hml hown hts hK hZ hP hS hl hret
  have hA := sgY.self (n := 26) (h := h) (sz := s.heap.size)
  have hl : lv_has ls 3 [(0, .ref (h 0)), (1, .int 0), (2, .int x1)] := hl
  obtain ⟨H, hH⟩ : ∃ z : Heap, z = s.heap := ⟨_, rfl⟩
  obtain ⟨locs, hlo⟩ : ∃ z : List Loc, z = [] := ⟨_, rfl⟩
  have hP : va_P D vwCl (sgw 26 h (eM ca h) f L Q) H := by rw [hH]; exact hP
  have hS : va_S (sgA 26 h s.heap.size) s.heap H locs := by rw [hH, hlo]; exact hS
  suffices hgo : W p l e ({ frames := 1, cells := 0, slots := 0, locals := 21 }) s m ([.ref (h 0), .int 0, .int x1] : List Value).toArray below meth cd H locs 0 0 Qz (F0 m 0 ls []) by rw [hH, hlo] at hgo; exact hgo
  clear hH hlo
  have o_1 : (f 0 48).toInt = 1 := (congrArg Int32.toInt (show f 0 48 = 1 from hf_0_48)).trans (by decide)
  have hF : sgK WkX12_setsAs_0_f1_f7 f f := sgK.rf
  refine lv_iload_n hx hb dX12_setsAs_0 rfl (lv_at hl 1 rfl) ?_
  refine lv_iconst (v := 1) hx hb dX12_setsAs_1 (by decide) ?_
  refine lv_icmp_eq (tgt := 16) hx hb dX12_setsAs_2 (by decide) (fun c => absurd c (by decide)) (fun c => ?_)
  refine lv_iload_n hx hb dX12_setsAs_5 rfl (lv_at hl 1 rfl) ?_
  refine lv_iconst (v := 4) hx hb dX12_setsAs_6 (by decide) ?_
  refine lv_icmp_eq (tgt := 16) hx hb dX12_setsAs_7 (by decide) (fun c => absurd c (by decide)) (fun c => ?_)
  refine lv_iload_n hx hb dX12_setsAs_10 rfl (lv_at hl 1 rfl) ?_
  refine lv_bipush (v := 7) hx hb dX12_setsAs_11 (by decide) ?_
  refine lv_icmp_ne (tgt := 31) hx hb dX12_setsAs_13 (by decide) (fun c => ?_) (fun c => absurd c (by decide))
  refine lv_iload_n hx hb dX12_setsAs_31 rfl (lv_at hl 1 rfl) ?_
  refine lv_bipush (v := 6) hx hb dX12_setsAs_32 (by decide) ?_
  refine lv_icmp_ne (tgt := 52) hx hb dX12_setsAs_34 (by decide) (fun c => ?_) (fun c => absurd c (by decide))
  refine lv_aload_n hx hb dX12_setsAs_52 rfl (lv_at hl 0 rfl) ?_
  refine lv_iconst (v := 1) hx hb dX12_setsAs_53 (by decide) ?_
  have q_2 : (f 0 48).toInt = 1 := (congrArg Int32.toInt (show f 0 48 = 1 from hf_0_48)).trans (by decide)
  have q_3 : (f 0 48).toInt = 1 := (congrArg Int32.toInt (show f 0 48 = 1 from hf_0_48)).trans (by decide)
  refine sg_callv (va_runV (As := [.int 1]) (rest := []) ⟨hx, hb, hml, hown, hts⟩ (kX12_begins_1_f1 l D ca za h hh f L Q hI hf_0_48 (by have k0 : (1 : Int32).toInt = 1 := (by decide); omega) H.size) (cwV 1 hts (gw_V (fun _ h => List.mem_cons_of_mem _ h) mw_734 mw_735 mw_736 mw_619 mw_733) rfl rfl rfl (by decide +kernel) ⟨Nat.le_of_ble_eq_true rfl, Nat.le_of_ble_eq_true rfl⟩) (sg_preV (ci := 12) (C := RX12) (T := TX12) (N := 55) hA hK hP hS hZ 0 (by decide) rfl rfl) rfl rfl hl.1 rfl (lv_room (Nat.le_of_ble_eq_true rfl)) dX12_setsAs_54 ⟨Nat.le_refl _, Nat.le_refl _⟩) hA hS (fun f_4 L_5 Q_6 H locs hq hP hS => ?_)
  obtain ⟨⟨hI, hk_f_4, eL9, eQ9⟩, p_7⟩ := hq
  rw [eL9, eQ9] at hP; clear eL9 eQ9
  have hF : sgK WkX12_setsAs_0_f1_f7 f f_4 := sgK.tr hF hk_f_4 (by decide)
  obtain ⟨v_8, ev_8⟩ : ∃ z : Int32, z = f_4 0 48 := ⟨_, rfl⟩
  have q_9 : 0 ≤ v_8.toInt ∧ v_8.toInt ≤ 19 := by rw [ev_8]; exact hI 0 48
  have q_10 : (f_4 0 48).toInt = v_8.toInt := (congrArg Int32.toInt (show f_4 0 48 = v_8 from ev_8.symm))
  have q_11 : (f_4 0 48).toInt = v_8.toInt := (congrArg Int32.toInt (show f_4 0 48 = v_8 from ev_8.symm))
  refine lv_iload_n hx hb dX12_setsAs_57 rfl (lv_at hl 2 rfl) ?_
  refine lv_aload_n hx hb dX12_setsAs_58 rfl (lv_at hl 0 rfl) ?_
  refine sg_get (ci := 12) (v := .int (f_4 0 50)) (C := RX12) (T := TX12) (N := 55) hx hb hts (fun w h => List.mem_cons_of_mem _ (gx_12 w h)) hown hK hP 0 (by decide) rfl rfl 50 (by decide) (hts _ (List.mem_cons_of_mem _ mw_680)) (fun _ h9 => h9) rfl dX12_setsAs_59 ?_
  refine lv_topi (fun v_12 ev_12 => ?_)
  have q_13 : 0 ≤ v_12.toInt ∧ v_12.toInt ≤ 49 := by rw [ev_12]; exact hI 0 50
  refine lv_iadd hx hb dX12_setsAs_62 ?_
  refine lv_topi (fun v_14 ev_14 => ?_)
  have q_15 : (f_4 0 48).toInt = v_8.toInt := (congrArg Int32.toInt (show f_4 0 48 = v_8 from ev_8.symm))
  have q_16 : (f_4 0 48).toInt = v_8.toInt := (congrArg Int32.toInt (show f_4 0 48 = v_8 from ev_8.symm))
  exact hret _ _ _ _ (v_14) f_4 L Q dX12_setsAs_63 hP hS ⟨⟨hI, hF, rfl, rfl⟩, trivial, (by omega)⟩

abbrev WkX12_setsAs_7_f0_f7 : List (Nat × Nat × Option Nat) := [(0, 0, some 48), (21, 21, none)]
set_option maxHeartbeats 4000000 in
set_option maxRecDepth 100000 in
theorem kX12_setsAs_7_f0_f7 (l : Launch) (D : va_G) (ca : Nat → ClassId) (za h : Nat → Nat) (hh : sgH 26 h) (f : sg_F) (L : sg_L) (Q : sg_Q) (hI : sgI loM hiM f) (x1 : Int32) (hf_0_48 : f 0 48 = 0) (hf_0_49 : f 0 49 = 7) (p0 : 0 ≤ (f 0 48).toInt ∧ (f 0 48).toInt ≤ 0) (sz : Nat) : Met l yX12_setsAs gwX12_setsAs { frames := 2, cells := 0, slots := 0, locals := 43 } (sgP D vwCl (tyX ca) 26 h (eM ca h) zcM za f L Q sz [.ref (h 0), .int 7, .int x1]) (sgQi D vwCl 26 h (eM ca h) sz (fun r f1 L1 Q1 => ((sgI loM hiM f1 ∧ sgK WkX12_setsAs_7_f0_f7 f f1 ∧ L1 = L ∧ Q1 = Q) ∧ True ∧ (2 ≤ (f1 0 48).toInt ∧ (f1 0 48).toInt ≤ 2)))) 0 0 (sgA 26 h sz) := by
  refine sg_ofWi (cc := cX12_setsAs) (maxL := 3) RX12 (by decide) rfl rfl (Nat.le_of_ble_eq_true rfl) ?_
  intro p e s m below meth cd Qz ls hx hb hml hown hts hK hZ hP hS hl hret
  have hA := sgY.self (n := 26) (h := h) (sz := s.heap.size)
  have hl : lv_has ls 3 [(0, .ref (h 0)), (1, .int 7), (2, .int x1)] := hl
  obtain ⟨H, hH⟩ : ∃ z : Heap, z = s.heap := ⟨_, rfl⟩
  obtain ⟨locs, hlo⟩ : ∃ z : List Loc, z = [] := ⟨_, rfl⟩
  have hP : va_P D vwCl (sgw 26 h (eM ca h) f L Q) H := by rw [hH]; exact hP
  have hS : va_S (sgA 26 h s.heap.size) s.heap H locs := by rw [hH, hlo]; exact hS
  suffices hgo : W p l e ({ frames := 2, cells := 0, slots := 0, locals := 43 }) s m ([.ref (h 0), .int 7, .int x1] : List Value).toArray below meth cd H locs 0 0 Qz (F0 m 0 ls []) by rw [hH, hlo] at hgo; exact hgo
  clear hH hlo
  have o_1 : (f 0 48).toInt = 0 := (congrArg Int32.toInt (show f 0 48 = 0 from hf_0_48)).trans (by decide)
  have hF : sgK WkX12_setsAs_7_f0_f7 f f := sgK.rf
  have blk_16 : ∀ (fp_16 : sg_F) (H : Heap) (locs : List Loc) (ls : Array Slot), 0 ≤ (fp_16 0 48).toInt ∧ (fp_16 0 48).toInt ≤ 0 → 7 ≤ (fp_16 0 49).toInt ∧ (fp_16 0 49).toInt ≤ 7 → sgI loM hiM fp_16 → sgK WkX12_setsAs_7_f0_f7 f fp_16 → va_P D vwCl (sgw 26 h (eM ca h) fp_16 L Q) H → va_S (sgA 26 h s.heap.size) s.heap H locs → lv_has ls 3 [(0, .ref (h 0)), (2, .int x1)] → W p l e ({ frames := 2, cells := 0, slots := 0, locals := 43 }) s m ([.ref (h 0), .int 7, .int x1] : List Value).toArray below meth cd H locs 0 0 Qz (F0 m 16 ls []) := by
    intro fp_16 H locs ls hy0_16 hy1_16 hI hF hP hS hl
    obtain ⟨v_2, ev_2⟩ : ∃ z : Int32, z = fp_16 0 48 := ⟨_, rfl⟩
    have q_3 : 0 ≤ v_2.toInt ∧ v_2.toInt ≤ 19 := by rw [ev_2]; exact hI 0 48
    have q_4 : (fp_16 0 48).toInt = v_2.toInt := by rw [ev_2]
    obtain ⟨v_5, ev_5⟩ : ∃ z : Int32, z = fp_16 0 49 := ⟨_, rfl⟩
    have q_6 : 0 ≤ v_5.toInt ∧ v_5.toInt ≤ 7 := by rw [ev_5]; exact hI 0 49
    have q_7 : (fp_16 0 49).toInt = v_5.toInt := by rw [ev_5]
    have m_8 : fp_16 0 49 = 7 := (hF 0 49 (by decide)).trans hf_0_49
    refine lv_aload_n hx hb dX12_setsAs_16 rfl (lv_at hl 0 rfl) ?_
    refine lv_bipush (v := 20) hx hb dX12_setsAs_17 (by decide) ?_
    have c_9 : v_2 = 0 := Int32.toInt_inj.mp (by have k9 : (0 : Int32).toInt = 0 := (by decide); omega)
    have q_10 : (fp_16 0 48).toInt = 0 := (congrArg Int32.toInt (show fp_16 0 48 = 0 from (Eq.trans ev_2.symm c_9))).trans (by decide)
    have q_11 : (fp_16 0 48).toInt = 0 := (congrArg Int32.toInt (show fp_16 0 48 = 0 from (Eq.trans ev_2.symm c_9))).trans (by decide)
    refine sg_callv (va_runV (As := [.int 20]) (rest := []) ⟨hx, hb, hml, hown, hts⟩ (kX12_begins_20_f0 l D ca za h hh fp_16 L Q hI (Eq.trans ev_2.symm c_9) (by have k0 : (20 : Int32).toInt = 20 := (by decide); omega) H.size) (cwV 1 hts (gw_V (fun _ h => List.mem_cons_of_mem _ h) mw_734 mw_735 mw_736 mw_619 mw_733) rfl rfl rfl (by decide +kernel) ⟨Nat.le_of_ble_eq_true rfl, Nat.le_of_ble_eq_true rfl⟩) (sg_preV (ci := 12) (C := RX12) (T := TX12) (N := 55) hA hK hP hS hZ 0 (by decide) rfl rfl) rfl rfl hl.1 rfl (lv_room (Nat.le_of_ble_eq_true rfl)) dX12_setsAs_19 ⟨Nat.le_refl _, Nat.le_refl _⟩) hA hS (fun f_12 L_13 Q_14 H locs hq hP hS => ?_)
    obtain ⟨⟨hI, hk_f_12, eL9, eQ9⟩, p_15⟩ := hq
    rw [eL9, eQ9] at hP; clear eL9 eQ9
    have hF : sgK WkX12_setsAs_7_f0_f7 f f_12 := sgK.tr hF hk_f_12 (by decide)
    obtain ⟨v_16, ev_16⟩ : ∃ z : Int32, z = f_12 0 48 := ⟨_, rfl⟩
    have q_17 : 0 ≤ v_16.toInt ∧ v_16.toInt ≤ 19 := by rw [ev_16]; exact hI 0 48
    have q_18 : (f_12 0 48).toInt = v_16.toInt := (congrArg Int32.toInt (show f_12 0 48 = v_16 from ev_16.symm))
    have q_19 : (f_12 0 48).toInt = v_16.toInt := (congrArg Int32.toInt (show f_12 0 48 = v_16 from ev_16.symm))
    refine lv_aload_n hx hb dX12_setsAs_22 rfl (lv_at hl 0 rfl) ?_
    refine lv_iconst (v := 0) hx hb dX12_setsAs_23 (by decide) ?_
    refine lv_iload_n hx hb dX12_setsAs_24 rfl (lv_at hl 1 rfl) ?_
    have c_20 : v_16 = 1 := Int32.toInt_inj.mp (by have k9 : (1 : Int32).toInt = 1 := (by decide); omega)
    have q_21 : (f_12 0 48).toInt = 1 := (congrArg Int32.toInt (show f_12 0 48 = 1 from (Eq.trans ev_16.symm c_20))).trans (by decide)
    have q_22 : (f_12 0 48).toInt = 1 := (congrArg Int32.toInt (show f_12 0 48 = 1 from (Eq.trans ev_16.symm c_20))).trans (by decide)
    refine sg_calli (va_runV (As := [.int 0, .int x1]) (rest := []) ⟨hx, hb, hml, hown, hts⟩ (kX12_setsAs_0_f1_f7 l D ca za h hh f_12 L Q hI x1 (Eq.trans ev_16.symm c_20) ((hk_f_12 0 49 (by decide)).trans m_8) (by have k0 : (0 : Int32).toInt = 0 := (by decide); omega) H.size) (cwV 2 hts (gw_V (fun _ h => List.mem_cons_of_mem _ h) mw_744 mw_745 mw_746 mw_619 mw_743) rfl rfl rfl (by decide +kernel) ⟨Nat.le_of_ble_eq_true rfl, Nat.le_of_ble_eq_true rfl⟩) (sg_preV (ci := 12) (C := RX12) (T := TX12) (N := 55) hA hK hP hS hZ 0 (by decide) rfl rfl) rfl rfl hl.1 rfl (lv_room (Nat.le_of_ble_eq_true rfl)) dX12_setsAs_25 ⟨Nat.le_refl _, Nat.le_refl _⟩) hA hS (fun r_26 f_23 L_24 Q_25 H locs hq hP hS => ?_)
    obtain ⟨⟨hI, hk_f_23, eL9, eQ9⟩, hq, p_27⟩ := hq
    rw [eL9, eQ9] at hP; clear eL9 eQ9
    have hF : sgK WkX12_setsAs_7_f0_f7 f f_23 := sgK.tr hF hk_f_23 (by decide)
    obtain ⟨v_28, ev_28⟩ : ∃ z : Int32, z = f_23 0 48 := ⟨_, rfl⟩
    have q_29 : 0 ≤ v_28.toInt ∧ v_28.toInt ≤ 19 := by rw [ev_28]; exact hI 0 48
    have q_30 : (f_23 0 48).toInt = v_28.toInt := (congrArg Int32.toInt (show f_23 0 48 = v_28 from ev_28.symm))
    have q_31 : (f_23 0 48).toInt = v_28.toInt := (congrArg Int32.toInt (show f_23 0 48 = v_28 from ev_28.symm))
    have k_32 : (0 : Int32).toInt = 0 := by decide
    refine lv_iconst (v := 3) hx hb dX12_setsAs_28 (by decide) ?_
    refine lv_iadd hx hb dX12_setsAs_29 ?_
    refine lv_topi (fun v_33 ev_33 => ?_)
    have q_34 : (f_23 0 48).toInt = v_28.toInt := (congrArg Int32.toInt (show f_23 0 48 = v_28 from ev_28.symm))
    have q_35 : (f_23 0 48).toInt = v_28.toInt := (congrArg Int32.toInt (show f_23 0 48 = v_28 from ev_28.symm))
    exact hret _ _ _ _ (v_33) f_23 L Q dX12_setsAs_30 hP hS ⟨⟨hI, hF, rfl, rfl⟩, trivial, (by omega)⟩
  refine lv_iload_n hx hb dX12_setsAs_0 rfl (lv_at hl 1 rfl) ?_
  refine lv_iconst (v := 1) hx hb dX12_setsAs_1 (by decide) ?_
  refine lv_icmp_eq (tgt := 16) hx hb dX12_setsAs_2 (by decide) (fun c => absurd c (by decide)) (fun c => ?_)
  refine lv_iload_n hx hb dX12_setsAs_5 rfl (lv_at hl 1 rfl) ?_
  refine lv_iconst (v := 4) hx hb dX12_setsAs_6 (by decide) ?_
  refine lv_icmp_eq (tgt := 16) hx hb dX12_setsAs_7 (by decide) (fun c => absurd c (by decide)) (fun c => ?_)
  refine lv_iload_n hx hb dX12_setsAs_10 rfl (lv_at hl 1 rfl) ?_
  refine lv_bipush (v := 7) hx hb dX12_setsAs_11 (by decide) ?_
  refine lv_icmp_ne (tgt := 31) hx hb dX12_setsAs_13 (by decide) (fun c => absurd c (by decide)) (fun c => ?_)
  exact blk_16 f _ _ _ (by have zz0_48 : (f 0 48).toInt = 0 := (congrArg Int32.toInt (show f 0 48 = 0 from hf_0_48)).trans (by decide); omega) (by have zz0_49 : (f 0 49).toInt = 7 := (congrArg Int32.toInt (show f 0 49 = 7 from hf_0_49)).trans (by decide); omega) hI hF hP hS (lv_sub hl [0, 2] rfl)

abbrev WkX12_begins_10_f0 : List (Nat × Nat × Option Nat) := [(0, 0, some 48), (21, 21, none)]
set_option maxHeartbeats 4000000 in
set_option maxRecDepth 100000 in
theorem kX12_begins_10_f0 (l : Launch) (D : va_G) (ca : Nat → ClassId) (za h : Nat → Nat) (hh : sgH 26 h) (f : sg_F) (L : sg_L) (Q : sg_Q) (hI : sgI loM hiM f) (hf_0_48 : f 0 48 = 0) (p0 : 0 ≤ (f 0 48).toInt ∧ (f 0 48).toInt ≤ 0) (sz : Nat) : Met l yX12_begins gwX12_begins { frames := 0, cells := 0, slots := 0, locals := 0 } (sgP D vwCl (tyX ca) 26 h (eM ca h) zcM za f L Q sz [.ref (h 0), .int 10]) (sgQv D vwCl 26 h (eM ca h) sz (fun f1 L1 Q1 => ((sgI loM hiM f1 ∧ sgK WkX12_begins_10_f0 f f1 ∧ L1 = L ∧ Q1 = Q) ∧ (1 ≤ (f1 0 48).toInt ∧ (f1 0 48).toInt ≤ 1)))) 0 0 (sgA 26 h sz) := by
  refine sg_ofWv (cc := cX12_begins) (maxL := 2) RX12 (by decide) rfl rfl (Nat.le_of_ble_eq_true rfl) ?_
  intro p e s m below meth cd Qz ls hx hb hml hown hts hK hZ hP hS hl hret
  have hA := sgY.self (n := 26) (h := h) (sz := s.heap.size)
  have hl : lv_has ls 2 [(0, .ref (h 0)), (1, .int 10)] := hl
  obtain ⟨H, hH⟩ : ∃ z : Heap, z = s.heap := ⟨_, rfl⟩
  obtain ⟨locs, hlo⟩ : ∃ z : List Loc, z = [] := ⟨_, rfl⟩
  have hP : va_P D vwCl (sgw 26 h (eM ca h) f L Q) H := by rw [hH]; exact hP
  have hS : va_S (sgA 26 h s.heap.size) s.heap H locs := by rw [hH, hlo]; exact hS
  suffices hgo : W p l e ({ frames := 0, cells := 0, slots := 0, locals := 0 }) s m ([.ref (h 0), .int 10] : List Value).toArray below meth cd H locs 0 0 Qz (F0 m 0 ls []) by rw [hH, hlo] at hgo; exact hgo
  clear hH hlo
  have o_1 : (f 0 48).toInt = 0 := (congrArg Int32.toInt (show f 0 48 = 0 from hf_0_48)).trans (by decide)
  have hF : sgK WkX12_begins_10_f0 f f := sgK.rf
  have blk_19 : ∀ (fp_19 : sg_F) (H : Heap) (locs : List Loc) (ls : Array Slot), 0 ≤ (fp_19 0 48).toInt ∧ (fp_19 0 48).toInt ≤ 0 → sgI loM hiM fp_19 → sgK WkX12_begins_10_f0 f fp_19 → va_P D vwCl (sgw 26 h (eM ca h) fp_19 L Q) H → va_S (sgA 26 h s.heap.size) s.heap H locs → lv_has ls 2 [(0, .ref (h 0))] → W p l e ({ frames := 0, cells := 0, slots := 0, locals := 0 }) s m ([.ref (h 0), .int 10] : List Value).toArray below meth cd H locs 0 0 Qz (F0 m 19 ls []) := by
    intro fp_19 H locs ls hy0_19 hI hF hP hS hl
    obtain ⟨v_2, ev_2⟩ : ∃ z : Int32, z = fp_19 0 48 := ⟨_, rfl⟩
    have q_3 : 0 ≤ v_2.toInt ∧ v_2.toInt ≤ 19 := by rw [ev_2]; exact hI 0 48
    have q_4 : (fp_19 0 48).toInt = v_2.toInt := by rw [ev_2]
    refine lv_aload_n hx hb dX12_begins_19 rfl (lv_at hl 0 rfl) ?_
    refine lv_dup hx hb dX12_begins_20 rfl ?_
    refine sg_get (ci := 12) (v := .int v_2) (C := RX12) (T := TX12) (N := 55) hx hb hts (fun w h => List.mem_cons_of_mem _ (gx_12 w h)) hown hK hP 0 (by decide) rfl rfl 48 (by decide) (hts _ (List.mem_cons_of_mem _ mw_621)) (fun _ h9 => h9) (congrArg (fun z => some (Value.int z)) (show fp_19 0 48 = v_2 from ev_2.symm)) dX12_begins_21 ?_
    refine lv_iconst (v := 1) hx hb dX12_begins_24 (by decide) ?_
    refine lv_iadd hx hb dX12_begins_25 ?_
    refine lv_topi (fun v_5 ev_5 => ?_)
    have q_6 : v_5.toInt = v_2.toInt + 1 := by rw [ev_5]; have k1 : (1 : Int32).toInt = 1 := (by decide); exact (bn_addI (by omega) (by omega)).trans (by omega)
    refine sg_put (ci := 12) (x := v_5) (ty := .int) (C := RX12) (T := TX12) (N := 55) hx hb hts (fun w h => List.mem_cons_of_mem _ (gx_12 w h)) tyX12 tyX12_ok nmX12 hown hh hA hK hP hS 0 (by decide) rfl rfl 48 (by decide) (hts _ (List.mem_cons_of_mem _ mw_621)) (fun _ h9 => h9) rfl rfl (by decide +kernel) rfl rfl (Nat.le_of_ble_eq_true rfl) dX12_begins_26 (fun f_7 H locs ef_7 hP hS => ?_)
    have hI : sgI loM hiM f_7 := by rw [ef_7]; exact sgI.put hI 0 48 (show 0 ≤ (v_5 : Int32).toInt ∧ (v_5 : Int32).toInt ≤ 19 from by omega)
    have hF : sgK WkX12_begins_10_f0 f f_7 := sgK.put hF ef_7 (by rfl)
    have q_8 : (f_7 0 48).toInt = v_5.toInt := (congrArg Int32.toInt (show f_7 0 48 = v_5 from (by rw [ef_7, sg_up_s, sgu_s])))
    have q_9 : (f_7 0 48).toInt = v_5.toInt := (congrArg Int32.toInt (show f_7 0 48 = v_5 from (by rw [ef_7, sg_up_s, sgu_s])))
    exact hret _ _ _ _ f_7 L Q dX12_begins_29 hP hS ⟨⟨hI, hF, rfl, rfl⟩, (by omega)⟩
  refine lv_aload_n hx hb dX12_begins_0 rfl (lv_at hl 0 rfl) ?_
  refine sg_get (ci := 12) (v := .int 0) (C := RX12) (T := TX12) (N := 55) hx hb hts (fun w h => List.mem_cons_of_mem _ (gx_12 w h)) hown hK hP 0 (by decide) rfl rfl 48 (by decide) (hts _ (List.mem_cons_of_mem _ mw_621)) (fun _ h9 => h9) (congrArg (fun z => some (Value.int z)) (show f 0 48 = 0 from hf_0_48)) dX12_begins_1 ?_
  refine lv_bipush (v := 24) hx hb dX12_begins_4 (by decide) ?_
  refine lv_icmp_ge (tgt := 19) hx hb dX12_begins_6 (by decide) (fun c => absurd c (by decide)) (fun c => ?_)
  refine lv_aload_n hx hb dX12_begins_9 rfl (lv_at hl 0 rfl) ?_
  refine sg_get (ci := 12) (v := .ref (h 21)) (C := RX12) (T := TX12) (N := 55) hx hb hts (fun w h => List.mem_cons_of_mem _ (gx_12 w h)) hown hK hP 0 (by decide) rfl rfl 47 (by decide) (hts _ (List.mem_cons_of_mem _ mw_718)) (fun _ h9 => h9) rfl dX12_begins_10 ?_
  refine lv_aload_n hx hb dX12_begins_13 rfl (lv_at hl 0 rfl) ?_
  refine sg_get (ci := 12) (v := .int 0) (C := RX12) (T := TX12) (N := 55) hx hb hts (fun w h => List.mem_cons_of_mem _ (gx_12 w h)) hown hK hP 0 (by decide) rfl rfl 48 (by decide) (hts _ (List.mem_cons_of_mem _ mw_621)) (fun _ h9 => h9) (congrArg (fun z => some (Value.int z)) (show f 0 48 = 0 from hf_0_48)) dX12_begins_14 ?_
  refine lv_iload_n hx hb dX12_begins_17 rfl (lv_at hl 1 rfl) ?_
  refine sg_iast hx hb hh hA hK hP hS 21 (by decide) 0 (fun _ => rfl) rfl (i := 0) (x := 10) (vp_in_iff.mpr (by decide)) dX12_begins_18 (fun f_10 H locs ef_10 hP hS => ?_)
  have hI : sgI loM hiM f_10 := by rw [ef_10]; exact sgI.put hI 21 (Int32.toNatClampNeg 0) (show 0 ≤ (10 : Int32).toInt ∧ (10 : Int32).toInt ≤ 81 from by decide)
  have hF : sgK WkX12_begins_10_f0 f f_10 := sgK.put hF ef_10 (by rfl)
  exact blk_19 f_10 _ _ _ (by have zz0_48 : (f_10 0 48).toInt = 0 := (congrArg Int32.toInt (show f_10 0 48 = 0 from (by rw [ef_10, sg_up_n (by decide)]; exact hf_0_48))).trans (by decide); omega) hI hF hP hS (lv_sub hl [0] rfl)

abbrev WkX12_setsAs_0_f1_f0 : List (Nat × Nat × Option Nat) := [(0, 0, some 48), (21, 21, none)]
set_option maxHeartbeats 4000000 in
set_option maxRecDepth 100000 in
theorem kX12_setsAs_0_f1_f0 (l : Launch) (D : va_G) (ca : Nat → ClassId) (za h : Nat → Nat) (hh : sgH 26 h) (f : sg_F) (L : sg_L) (Q : sg_Q) (hI : sgI loM hiM f) (x1 : Int32) (hf_0_48 : f 0 48 = 1) (hf_0_49 : f 0 49 = 0) (p0 : 1 ≤ (f 0 48).toInt ∧ (f 0 48).toInt ≤ 1) (sz : Nat) : Met l yX12_setsAs gwX12_setsAs { frames := 1, cells := 0, slots := 0, locals := 21 } (sgP D vwCl (tyX ca) 26 h (eM ca h) zcM za f L Q sz [.ref (h 0), .int 0, .int x1]) (sgQi D vwCl 26 h (eM ca h) sz (fun r f1 L1 Q1 => ((sgI loM hiM f1 ∧ sgK WkX12_setsAs_0_f1_f0 f f1 ∧ L1 = L ∧ Q1 = Q) ∧ True ∧ (2 ≤ (f1 0 48).toInt ∧ (f1 0 48).toInt ≤ 2)))) 0 0 (sgA 26 h sz) := by
  refine sg_ofWi (cc := cX12_setsAs) (maxL := 3) RX12 (by decide) rfl rfl (Nat.le_of_ble_eq_true rfl) ?_
  intro p e s m below meth cd Qz ls hx hb hml hown hts hK hZ hP hS hl hret
  have hA := sgY.self (n := 26) (h := h) (sz := s.heap.size)
  have hl : lv_has ls 3 [(0, .ref (h 0)), (1, .int 0), (2, .int x1)] := hl
  obtain ⟨H, hH⟩ : ∃ z : Heap, z = s.heap := ⟨_, rfl⟩
  obtain ⟨locs, hlo⟩ : ∃ z : List Loc, z = [] := ⟨_, rfl⟩
  have hP : va_P D vwCl (sgw 26 h (eM ca h) f L Q) H := by rw [hH]; exact hP
  have hS : va_S (sgA 26 h s.heap.size) s.heap H locs := by rw [hH, hlo]; exact hS
  suffices hgo : W p l e ({ frames := 1, cells := 0, slots := 0, locals := 21 }) s m ([.ref (h 0), .int 0, .int x1] : List Value).toArray below meth cd H locs 0 0 Qz (F0 m 0 ls []) by rw [hH, hlo] at hgo; exact hgo
  clear hH hlo
  have o_1 : (f 0 48).toInt = 1 := (congrArg Int32.toInt (show f 0 48 = 1 from hf_0_48)).trans (by decide)
  have hF : sgK WkX12_setsAs_0_f1_f0 f f := sgK.rf
  refine lv_iload_n hx hb dX12_setsAs_0 rfl (lv_at hl 1 rfl) ?_
  refine lv_iconst (v := 1) hx hb dX12_setsAs_1 (by decide) ?_
  refine lv_icmp_eq (tgt := 16) hx hb dX12_setsAs_2 (by decide) (fun c => absurd c (by decide)) (fun c => ?_)
  refine lv_iload_n hx hb dX12_setsAs_5 rfl (lv_at hl 1 rfl) ?_
  refine lv_iconst (v := 4) hx hb dX12_setsAs_6 (by decide) ?_
  refine lv_icmp_eq (tgt := 16) hx hb dX12_setsAs_7 (by decide) (fun c => absurd c (by decide)) (fun c => ?_)
  refine lv_iload_n hx hb dX12_setsAs_10 rfl (lv_at hl 1 rfl) ?_
  refine lv_bipush (v := 7) hx hb dX12_setsAs_11 (by decide) ?_
  refine lv_icmp_ne (tgt := 31) hx hb dX12_setsAs_13 (by decide) (fun c => ?_) (fun c => absurd c (by decide))
  refine lv_iload_n hx hb dX12_setsAs_31 rfl (lv_at hl 1 rfl) ?_
  refine lv_bipush (v := 6) hx hb dX12_setsAs_32 (by decide) ?_
  refine lv_icmp_ne (tgt := 52) hx hb dX12_setsAs_34 (by decide) (fun c => ?_) (fun c => absurd c (by decide))
  refine lv_aload_n hx hb dX12_setsAs_52 rfl (lv_at hl 0 rfl) ?_
  refine lv_iconst (v := 1) hx hb dX12_setsAs_53 (by decide) ?_
  have q_2 : (f 0 48).toInt = 1 := (congrArg Int32.toInt (show f 0 48 = 1 from hf_0_48)).trans (by decide)
  have q_3 : (f 0 48).toInt = 1 := (congrArg Int32.toInt (show f 0 48 = 1 from hf_0_48)).trans (by decide)
  refine sg_callv (va_runV (As := [.int 1]) (rest := []) ⟨hx, hb, hml, hown, hts⟩ (kX12_begins_1_f1 l D ca za h hh f L Q hI hf_0_48 (by have k0 : (1 : Int32).toInt = 1 := (by decide); omega) H.size) (cwV 1 hts (gw_V (fun _ h => List.mem_cons_of_mem _ h) mw_734 mw_735 mw_736 mw_619 mw_733) rfl rfl rfl (by decide +kernel) ⟨Nat.le_of_ble_eq_true rfl, Nat.le_of_ble_eq_true rfl⟩) (sg_preV (ci := 12) (C := RX12) (T := TX12) (N := 55) hA hK hP hS hZ 0 (by decide) rfl rfl) rfl rfl hl.1 rfl (lv_room (Nat.le_of_ble_eq_true rfl)) dX12_setsAs_54 ⟨Nat.le_refl _, Nat.le_refl _⟩) hA hS (fun f_4 L_5 Q_6 H locs hq hP hS => ?_)
  obtain ⟨⟨hI, hk_f_4, eL9, eQ9⟩, p_7⟩ := hq
  rw [eL9, eQ9] at hP; clear eL9 eQ9
  have hF : sgK WkX12_setsAs_0_f1_f0 f f_4 := sgK.tr hF hk_f_4 (by decide)
  obtain ⟨v_8, ev_8⟩ : ∃ z : Int32, z = f_4 0 48 := ⟨_, rfl⟩
  have q_9 : 0 ≤ v_8.toInt ∧ v_8.toInt ≤ 19 := by rw [ev_8]; exact hI 0 48
  have q_10 : (f_4 0 48).toInt = v_8.toInt := (congrArg Int32.toInt (show f_4 0 48 = v_8 from ev_8.symm))
  have q_11 : (f_4 0 48).toInt = v_8.toInt := (congrArg Int32.toInt (show f_4 0 48 = v_8 from ev_8.symm))
  refine lv_iload_n hx hb dX12_setsAs_57 rfl (lv_at hl 2 rfl) ?_
  refine lv_aload_n hx hb dX12_setsAs_58 rfl (lv_at hl 0 rfl) ?_
  refine sg_get (ci := 12) (v := .int (f_4 0 50)) (C := RX12) (T := TX12) (N := 55) hx hb hts (fun w h => List.mem_cons_of_mem _ (gx_12 w h)) hown hK hP 0 (by decide) rfl rfl 50 (by decide) (hts _ (List.mem_cons_of_mem _ mw_680)) (fun _ h9 => h9) rfl dX12_setsAs_59 ?_
  refine lv_topi (fun v_12 ev_12 => ?_)
  have q_13 : 0 ≤ v_12.toInt ∧ v_12.toInt ≤ 49 := by rw [ev_12]; exact hI 0 50
  refine lv_iadd hx hb dX12_setsAs_62 ?_
  refine lv_topi (fun v_14 ev_14 => ?_)
  have q_15 : (f_4 0 48).toInt = v_8.toInt := (congrArg Int32.toInt (show f_4 0 48 = v_8 from ev_8.symm))
  have q_16 : (f_4 0 48).toInt = v_8.toInt := (congrArg Int32.toInt (show f_4 0 48 = v_8 from ev_8.symm))
  exact hret _ _ _ _ (v_14) f_4 L Q dX12_setsAs_63 hP hS ⟨⟨hI, hF, rfl, rfl⟩, trivial, (by omega)⟩

abbrev WkX12_sitsAs_0_f0_f0 : List (Nat × Nat × Option Nat) := [(0, 0, some 48), (21, 21, none)]
set_option maxHeartbeats 4000000 in
set_option maxRecDepth 100000 in
theorem kX12_sitsAs_0_f0_f0 (l : Launch) (D : va_G) (ca : Nat → ClassId) (za h : Nat → Nat) (hh : sgH 26 h) (f : sg_F) (L : sg_L) (Q : sg_Q) (hI : sgI loM hiM f) (x1 : Int32) (hf_0_48 : f 0 48 = 0) (hf_0_49 : f 0 49 = 0) (p0 : 0 ≤ (f 0 48).toInt ∧ (f 0 48).toInt ≤ 0) (sz : Nat) : Met l yX12_sitsAs gwX12_sitsAs { frames := 2, cells := 0, slots := 0, locals := 43 } (sgP D vwCl (tyX ca) 26 h (eM ca h) zcM za f L Q sz [.ref (h 0), .int 0, .int x1]) (sgQi D vwCl 26 h (eM ca h) sz (fun r f1 L1 Q1 => ((sgI loM hiM f1 ∧ sgK WkX12_sitsAs_0_f0_f0 f f1 ∧ L1 = L ∧ Q1 = Q) ∧ True ∧ (2 ≤ (f1 0 48).toInt ∧ (f1 0 48).toInt ≤ 2)))) 0 0 (sgA 26 h sz) := by
  refine sg_ofWi (cc := cX12_sitsAs) (maxL := 4) RX12 (by decide) rfl rfl (Nat.le_of_ble_eq_true rfl) ?_
  intro p e s m below meth cd Qz ls hx hb hml hown hts hK hZ hP hS hl hret
  have hA := sgY.self (n := 26) (h := h) (sz := s.heap.size)
  have hl : lv_has ls 4 [(0, .ref (h 0)), (1, .int 0), (2, .int x1)] := hl
  obtain ⟨H, hH⟩ : ∃ z : Heap, z = s.heap := ⟨_, rfl⟩
  obtain ⟨locs, hlo⟩ : ∃ z : List Loc, z = [] := ⟨_, rfl⟩
  have hP : va_P D vwCl (sgw 26 h (eM ca h) f L Q) H := by rw [hH]; exact hP
  have hS : va_S (sgA 26 h s.heap.size) s.heap H locs := by rw [hH, hlo]; exact hS
  suffices hgo : W p l e ({ frames := 2, cells := 0, slots := 0, locals := 43 }) s m ([.ref (h 0), .int 0, .int x1] : List Value).toArray below meth cd H locs 0 0 Qz (F0 m 0 ls []) by rw [hH, hlo] at hgo; exact hgo
  clear hH hlo
  have o_1 : (f 0 48).toInt = 0 := (congrArg Int32.toInt (show f 0 48 = 0 from hf_0_48)).trans (by decide)
  have hF : sgK WkX12_sitsAs_0_f0_f0 f f := sgK.rf
  refine lv_iload_n hx hb dX12_sitsAs_0 rfl (lv_at hl 1 rfl) ?_
  refine lv_iconst (v := 3) hx hb dX12_sitsAs_1 (by decide) ?_
  refine lv_icmp_eq (tgt := 10) hx hb dX12_sitsAs_2 (by decide) (fun c => absurd c (by decide)) (fun c => ?_)
  refine lv_iload_n hx hb dX12_sitsAs_5 rfl (lv_at hl 1 rfl) ?_
  refine lv_iconst (v := 5) hx hb dX12_sitsAs_6 (by decide) ?_
  refine lv_icmp_ne (tgt := 25) hx hb dX12_sitsAs_7 (by decide) (fun c => ?_) (fun c => absurd c (by decide))
  refine lv_iload_n hx hb dX12_sitsAs_25 rfl (lv_at hl 1 rfl) ?_
  refine lv_iconst (v := 2) hx hb dX12_sitsAs_26 (by decide) ?_
  refine lv_icmp_ne (tgt := 44) hx hb dX12_sitsAs_27 (by decide) (fun c => ?_) (fun c => absurd c (by decide))
  refine lv_iload_n hx hb dX12_sitsAs_44 rfl (lv_at hl 1 rfl) ?_
  refine lv_bipush (v := 7) hx hb dX12_sitsAs_45 (by decide) ?_
  refine lv_icmp_ne (tgt := 75) hx hb dX12_sitsAs_47 (by decide) (fun c => ?_) (fun c => absurd c (by decide))
  refine lv_aload_n hx hb dX12_sitsAs_75 rfl (lv_at hl 0 rfl) ?_
  refine lv_bipush (v := 10) hx hb dX12_sitsAs_76 (by decide) ?_
  have q_2 : (f 0 48).toInt = 0 := (congrArg Int32.toInt (show f 0 48 = 0 from hf_0_48)).trans (by decide)
  have q_3 : (f 0 48).toInt = 0 := (congrArg Int32.toInt (show f 0 48 = 0 from hf_0_48)).trans (by decide)
  refine sg_callv (va_runV (As := [.int 10]) (rest := []) ⟨hx, hb, hml, hown, hts⟩ (kX12_begins_10_f0 l D ca za h hh f L Q hI hf_0_48 (by have k0 : (10 : Int32).toInt = 10 := (by decide); omega) H.size) (cwV 1 hts (gw_V (fun _ h => List.mem_cons_of_mem _ h) mw_734 mw_735 mw_736 mw_619 mw_733) rfl rfl rfl (by decide +kernel) ⟨Nat.le_of_ble_eq_true rfl, Nat.le_of_ble_eq_true rfl⟩) (sg_preV (ci := 12) (C := RX12) (T := TX12) (N := 55) hA hK hP hS hZ 0 (by decide) rfl rfl) rfl rfl hl.1 rfl (lv_room (Nat.le_of_ble_eq_true rfl)) dX12_sitsAs_78 ⟨Nat.le_refl _, Nat.le_refl _⟩) hA hS (fun f_4 L_5 Q_6 H locs hq hP hS => ?_)
  obtain ⟨⟨hI, hk_f_4, eL9, eQ9⟩, p_7⟩ := hq
  rw [eL9, eQ9] at hP; clear eL9 eQ9
  have hF : sgK WkX12_sitsAs_0_f0_f0 f f_4 := sgK.tr hF hk_f_4 (by decide)
  obtain ⟨v_8, ev_8⟩ : ∃ z : Int32, z = f_4 0 48 := ⟨_, rfl⟩
  have q_9 : 0 ≤ v_8.toInt ∧ v_8.toInt ≤ 19 := by rw [ev_8]; exact hI 0 48
  have q_10 : (f_4 0 48).toInt = v_8.toInt := (congrArg Int32.toInt (show f_4 0 48 = v_8 from ev_8.symm))
  have q_11 : (f_4 0 48).toInt = v_8.toInt := (congrArg Int32.toInt (show f_4 0 48 = v_8 from ev_8.symm))
  refine lv_aload_n hx hb dX12_sitsAs_81 rfl (lv_at hl 0 rfl) ?_
  refine lv_aload_n hx hb dX12_sitsAs_82 rfl (lv_at hl 0 rfl) ?_
  refine sg_get (ci := 12) (v := .int 0) (C := RX12) (T := TX12) (N := 55) hx hb hts (fun w h => List.mem_cons_of_mem _ (gx_12 w h)) hown hK hP 0 (by decide) rfl rfl 49 (by decide) (hts _ (List.mem_cons_of_mem _ mw_679)) (fun _ h9 => h9) (congrArg (fun z => some (Value.int z)) (show f_4 0 49 = 0 from ((hk_f_4 0 49 (by decide)).trans hf_0_49))) dX12_sitsAs_83 ?_
  refine lv_iload_n hx hb dX12_sitsAs_86 rfl (lv_at hl 2 rfl) ?_
  have c_12 : v_8 = 1 := Int32.toInt_inj.mp (by have k9 : (1 : Int32).toInt = 1 := (by decide); omega)
  have q_13 : (f_4 0 48).toInt = 1 := (congrArg Int32.toInt (show f_4 0 48 = 1 from (Eq.trans ev_8.symm c_12))).trans (by decide)
  have q_14 : (f_4 0 48).toInt = 1 := (congrArg Int32.toInt (show f_4 0 48 = 1 from (Eq.trans ev_8.symm c_12))).trans (by decide)
  refine sg_calli (va_runV (As := [.int 0, .int x1]) (rest := []) ⟨hx, hb, hml, hown, hts⟩ (kX12_setsAs_0_f1_f0 l D ca za h hh f_4 L Q hI x1 (Eq.trans ev_8.symm c_12) ((hk_f_4 0 49 (by decide)).trans hf_0_49) (by have k0 : (0 : Int32).toInt = 0 := (by decide); omega) H.size) (cwV 2 hts (gw_V (fun _ h => List.mem_cons_of_mem _ h) mw_744 mw_745 mw_746 mw_619 mw_743) rfl rfl rfl (by decide +kernel) ⟨Nat.le_of_ble_eq_true rfl, Nat.le_of_ble_eq_true rfl⟩) (sg_preV (ci := 12) (C := RX12) (T := TX12) (N := 55) hA hK hP hS hZ 0 (by decide) rfl rfl) rfl rfl hl.1 rfl (lv_room (Nat.le_of_ble_eq_true rfl)) dX12_sitsAs_87 ⟨Nat.le_refl _, Nat.le_refl _⟩) hA hS (fun r_18 f_15 L_16 Q_17 H locs hq hP hS => ?_)
  obtain ⟨⟨hI, hk_f_15, eL9, eQ9⟩, hq, p_19⟩ := hq
  rw [eL9, eQ9] at hP; clear eL9 eQ9
  have hF : sgK WkX12_sitsAs_0_f0_f0 f f_15 := sgK.tr hF hk_f_15 (by decide)
  obtain ⟨v_20, ev_20⟩ : ∃ z : Int32, z = f_15 0 48 := ⟨_, rfl⟩
  have q_21 : 0 ≤ v_20.toInt ∧ v_20.toInt ≤ 19 := by rw [ev_20]; exact hI 0 48
  have q_22 : (f_15 0 48).toInt = v_20.toInt := (congrArg Int32.toInt (show f_15 0 48 = v_20 from ev_20.symm))
  have q_23 : (f_15 0 48).toInt = v_20.toInt := (congrArg Int32.toInt (show f_15 0 48 = v_20 from ev_20.symm))
  have k_24 : (0 : Int32).toInt = 0 := by decide
  refine lv_iconst (v := 2) hx hb dX12_sitsAs_90 (by decide) ?_
  refine lv_imul hx hb dX12_sitsAs_91 ?_
  refine lv_topi (fun v_25 ev_25 => ?_)
  have q_26 : (f_15 0 48).toInt = v_20.toInt := (congrArg Int32.toInt (show f_15 0 48 = v_20 from ev_20.symm))
  have q_27 : (f_15 0 48).toInt = v_20.toInt := (congrArg Int32.toInt (show f_15 0 48 = v_20 from ev_20.symm))
  exact hret _ _ _ _ (v_25) f_15 L Q dX12_sitsAs_92 hP hS ⟨⟨hI, hF, rfl, rfl⟩, trivial, (by omega)⟩

abbrev WkX12_begins_20_f1 : List (Nat × Nat × Option Nat) := [(0, 0, some 48), (21, 21, none)]
set_option maxHeartbeats 4000000 in
set_option maxRecDepth 100000 in
theorem kX12_begins_20_f1 (l : Launch) (D : va_G) (ca : Nat → ClassId) (za h : Nat → Nat) (hh : sgH 26 h) (f : sg_F) (L : sg_L) (Q : sg_Q) (hI : sgI loM hiM f) (hf_0_48 : f 0 48 = 1) (p0 : 1 ≤ (f 0 48).toInt ∧ (f 0 48).toInt ≤ 1) (sz : Nat) : Met l yX12_begins gwX12_begins { frames := 0, cells := 0, slots := 0, locals := 0 } (sgP D vwCl (tyX ca) 26 h (eM ca h) zcM za f L Q sz [.ref (h 0), .int 20]) (sgQv D vwCl 26 h (eM ca h) sz (fun f1 L1 Q1 => ((sgI loM hiM f1 ∧ sgK WkX12_begins_20_f1 f f1 ∧ L1 = L ∧ Q1 = Q) ∧ (2 ≤ (f1 0 48).toInt ∧ (f1 0 48).toInt ≤ 2)))) 0 0 (sgA 26 h sz) := by
  refine sg_ofWv (cc := cX12_begins) (maxL := 2) RX12 (by decide) rfl rfl (Nat.le_of_ble_eq_true rfl) ?_
  intro p e s m below meth cd Qz ls hx hb hml hown hts hK hZ hP hS hl hret
  have hA := sgY.self (n := 26) (h := h) (sz := s.heap.size)
  have hl : lv_has ls 2 [(0, .ref (h 0)), (1, .int 20)] := hl
  obtain ⟨H, hH⟩ : ∃ z : Heap, z = s.heap := ⟨_, rfl⟩
  obtain ⟨locs, hlo⟩ : ∃ z : List Loc, z = [] := ⟨_, rfl⟩
  have hP : va_P D vwCl (sgw 26 h (eM ca h) f L Q) H := by rw [hH]; exact hP
  have hS : va_S (sgA 26 h s.heap.size) s.heap H locs := by rw [hH, hlo]; exact hS
  suffices hgo : W p l e ({ frames := 0, cells := 0, slots := 0, locals := 0 }) s m ([.ref (h 0), .int 20] : List Value).toArray below meth cd H locs 0 0 Qz (F0 m 0 ls []) by rw [hH, hlo] at hgo; exact hgo
  clear hH hlo
  have o_1 : (f 0 48).toInt = 1 := (congrArg Int32.toInt (show f 0 48 = 1 from hf_0_48)).trans (by decide)
  have hF : sgK WkX12_begins_20_f1 f f := sgK.rf
  have blk_19 : ∀ (fp_19 : sg_F) (H : Heap) (locs : List Loc) (ls : Array Slot), 1 ≤ (fp_19 0 48).toInt ∧ (fp_19 0 48).toInt ≤ 1 → sgI loM hiM fp_19 → sgK WkX12_begins_20_f1 f fp_19 → va_P D vwCl (sgw 26 h (eM ca h) fp_19 L Q) H → va_S (sgA 26 h s.heap.size) s.heap H locs → lv_has ls 2 [(0, .ref (h 0))] → W p l e ({ frames := 0, cells := 0, slots := 0, locals := 0 }) s m ([.ref (h 0), .int 20] : List Value).toArray below meth cd H locs 0 0 Qz (F0 m 19 ls []) := by
    intro fp_19 H locs ls hy0_19 hI hF hP hS hl
    obtain ⟨v_2, ev_2⟩ : ∃ z : Int32, z = fp_19 0 48 := ⟨_, rfl⟩
    have q_3 : 0 ≤ v_2.toInt ∧ v_2.toInt ≤ 19 := by rw [ev_2]; exact hI 0 48
    have q_4 : (fp_19 0 48).toInt = v_2.toInt := by rw [ev_2]
    refine lv_aload_n hx hb dX12_begins_19 rfl (lv_at hl 0 rfl) ?_
    refine lv_dup hx hb dX12_begins_20 rfl ?_
    refine sg_get (ci := 12) (v := .int v_2) (C := RX12) (T := TX12) (N := 55) hx hb hts (fun w h => List.mem_cons_of_mem _ (gx_12 w h)) hown hK hP 0 (by decide) rfl rfl 48 (by decide) (hts _ (List.mem_cons_of_mem _ mw_621)) (fun _ h9 => h9) (congrArg (fun z => some (Value.int z)) (show fp_19 0 48 = v_2 from ev_2.symm)) dX12_begins_21 ?_
    refine lv_iconst (v := 1) hx hb dX12_begins_24 (by decide) ?_
    refine lv_iadd hx hb dX12_begins_25 ?_
    refine lv_topi (fun v_5 ev_5 => ?_)
    have q_6 : v_5.toInt = v_2.toInt + 1 := by rw [ev_5]; have k1 : (1 : Int32).toInt = 1 := (by decide); exact (bn_addI (by omega) (by omega)).trans (by omega)
    refine sg_put (ci := 12) (x := v_5) (ty := .int) (C := RX12) (T := TX12) (N := 55) hx hb hts (fun w h => List.mem_cons_of_mem _ (gx_12 w h)) tyX12 tyX12_ok nmX12 hown hh hA hK hP hS 0 (by decide) rfl rfl 48 (by decide) (hts _ (List.mem_cons_of_mem _ mw_621)) (fun _ h9 => h9) rfl rfl (by decide +kernel) rfl rfl (Nat.le_of_ble_eq_true rfl) dX12_begins_26 (fun f_7 H locs ef_7 hP hS => ?_)
    have hI : sgI loM hiM f_7 := by rw [ef_7]; exact sgI.put hI 0 48 (show 0 ≤ (v_5 : Int32).toInt ∧ (v_5 : Int32).toInt ≤ 19 from by omega)
    have hF : sgK WkX12_begins_20_f1 f f_7 := sgK.put hF ef_7 (by rfl)
    have q_8 : (f_7 0 48).toInt = v_5.toInt := (congrArg Int32.toInt (show f_7 0 48 = v_5 from (by rw [ef_7, sg_up_s, sgu_s])))
    have q_9 : (f_7 0 48).toInt = v_5.toInt := (congrArg Int32.toInt (show f_7 0 48 = v_5 from (by rw [ef_7, sg_up_s, sgu_s])))
    exact hret _ _ _ _ f_7 L Q dX12_begins_29 hP hS ⟨⟨hI, hF, rfl, rfl⟩, (by omega)⟩
  refine lv_aload_n hx hb dX12_begins_0 rfl (lv_at hl 0 rfl) ?_
  refine sg_get (ci := 12) (v := .int 1) (C := RX12) (T := TX12) (N := 55) hx hb hts (fun w h => List.mem_cons_of_mem _ (gx_12 w h)) hown hK hP 0 (by decide) rfl rfl 48 (by decide) (hts _ (List.mem_cons_of_mem _ mw_621)) (fun _ h9 => h9) (congrArg (fun z => some (Value.int z)) (show f 0 48 = 1 from hf_0_48)) dX12_begins_1 ?_
  refine lv_bipush (v := 24) hx hb dX12_begins_4 (by decide) ?_
  refine lv_icmp_ge (tgt := 19) hx hb dX12_begins_6 (by decide) (fun c => absurd c (by decide)) (fun c => ?_)
  refine lv_aload_n hx hb dX12_begins_9 rfl (lv_at hl 0 rfl) ?_
  refine sg_get (ci := 12) (v := .ref (h 21)) (C := RX12) (T := TX12) (N := 55) hx hb hts (fun w h => List.mem_cons_of_mem _ (gx_12 w h)) hown hK hP 0 (by decide) rfl rfl 47 (by decide) (hts _ (List.mem_cons_of_mem _ mw_718)) (fun _ h9 => h9) rfl dX12_begins_10 ?_
  refine lv_aload_n hx hb dX12_begins_13 rfl (lv_at hl 0 rfl) ?_
  refine sg_get (ci := 12) (v := .int 1) (C := RX12) (T := TX12) (N := 55) hx hb hts (fun w h => List.mem_cons_of_mem _ (gx_12 w h)) hown hK hP 0 (by decide) rfl rfl 48 (by decide) (hts _ (List.mem_cons_of_mem _ mw_621)) (fun _ h9 => h9) (congrArg (fun z => some (Value.int z)) (show f 0 48 = 1 from hf_0_48)) dX12_begins_14 ?_
  refine lv_iload_n hx hb dX12_begins_17 rfl (lv_at hl 1 rfl) ?_
  refine sg_iast hx hb hh hA hK hP hS 21 (by decide) 0 (fun _ => rfl) rfl (i := 1) (x := 20) (vp_in_iff.mpr (by decide)) dX12_begins_18 (fun f_10 H locs ef_10 hP hS => ?_)
  have hI : sgI loM hiM f_10 := by rw [ef_10]; exact sgI.put hI 21 (Int32.toNatClampNeg 1) (show 0 ≤ (20 : Int32).toInt ∧ (20 : Int32).toInt ≤ 81 from by decide)
  have hF : sgK WkX12_begins_20_f1 f f_10 := sgK.put hF ef_10 (by rfl)
  exact blk_19 f_10 _ _ _ (by have zz0_48 : (f_10 0 48).toInt = 1 := (congrArg Int32.toInt (show f_10 0 48 = 1 from (by rw [ef_10, sg_up_n (by decide)]; exact hf_0_48))).trans (by decide); omega) hI hF hP hS (lv_sub hl [0] rfl)

abbrev WkX12_begins_1_f2 : List (Nat × Nat × Option Nat) := [(0, 0, some 48), (21, 21, none)]
set_option maxHeartbeats 4000000 in
set_option maxRecDepth 100000 in
theorem kX12_begins_1_f2 (l : Launch) (D : va_G) (ca : Nat → ClassId) (za h : Nat → Nat) (hh : sgH 26 h) (f : sg_F) (L : sg_L) (Q : sg_Q) (hI : sgI loM hiM f) (hf_0_48 : f 0 48 = 2) (p0 : 2 ≤ (f 0 48).toInt ∧ (f 0 48).toInt ≤ 2) (sz : Nat) : Met l yX12_begins gwX12_begins { frames := 0, cells := 0, slots := 0, locals := 0 } (sgP D vwCl (tyX ca) 26 h (eM ca h) zcM za f L Q sz [.ref (h 0), .int 1]) (sgQv D vwCl 26 h (eM ca h) sz (fun f1 L1 Q1 => ((sgI loM hiM f1 ∧ sgK WkX12_begins_1_f2 f f1 ∧ L1 = L ∧ Q1 = Q) ∧ (3 ≤ (f1 0 48).toInt ∧ (f1 0 48).toInt ≤ 3)))) 0 0 (sgA 26 h sz) := by
  refine sg_ofWv (cc := cX12_begins) (maxL := 2) RX12 (by decide) rfl rfl (Nat.le_of_ble_eq_true rfl) ?_
  intro p e s m below meth cd Qz ls hx hb hml hown hts hK hZ hP hS hl hret
  have hA := sgY.self (n := 26) (h := h) (sz := s.heap.size)
  have hl : lv_has ls 2 [(0, .ref (h 0)), (1, .int 1)] := hl
  obtain ⟨H, hH⟩ : ∃ z : Heap, z = s.heap := ⟨_, rfl⟩
  obtain ⟨locs, hlo⟩ : ∃ z : List Loc, z = [] := ⟨_, rfl⟩
  have hP : va_P D vwCl (sgw 26 h (eM ca h) f L Q) H := by rw [hH]; exact hP
  have hS : va_S (sgA 26 h s.heap.size) s.heap H locs := by rw [hH, hlo]; exact hS
  suffices hgo : W p l e ({ frames := 0, cells := 0, slots := 0, locals := 0 }) s m ([.ref (h 0), .int 1] : List Value).toArray below meth cd H locs 0 0 Qz (F0 m 0 ls []) by rw [hH, hlo] at hgo; exact hgo
  clear hH hlo
  have o_1 : (f 0 48).toInt = 2 := (congrArg Int32.toInt (show f 0 48 = 2 from hf_0_48)).trans (by decide)
  have hF : sgK WkX12_begins_1_f2 f f := sgK.rf
  have blk_19 : ∀ (fp_19 : sg_F) (H : Heap) (locs : List Loc) (ls : Array Slot), 2 ≤ (fp_19 0 48).toInt ∧ (fp_19 0 48).toInt ≤ 2 → sgI loM hiM fp_19 → sgK WkX12_begins_1_f2 f fp_19 → va_P D vwCl (sgw 26 h (eM ca h) fp_19 L Q) H → va_S (sgA 26 h s.heap.size) s.heap H locs → lv_has ls 2 [(0, .ref (h 0))] → W p l e ({ frames := 0, cells := 0, slots := 0, locals := 0 }) s m ([.ref (h 0), .int 1] : List Value).toArray below meth cd H locs 0 0 Qz (F0 m 19 ls []) := by
    intro fp_19 H locs ls hy0_19 hI hF hP hS hl
    obtain ⟨v_2, ev_2⟩ : ∃ z : Int32, z = fp_19 0 48 := ⟨_, rfl⟩
    have q_3 : 0 ≤ v_2.toInt ∧ v_2.toInt ≤ 19 := by rw [ev_2]; exact hI 0 48
    have q_4 : (fp_19 0 48).toInt = v_2.toInt := by rw [ev_2]
    refine lv_aload_n hx hb dX12_begins_19 rfl (lv_at hl 0 rfl) ?_
    refine lv_dup hx hb dX12_begins_20 rfl ?_
    refine sg_get (ci := 12) (v := .int v_2) (C := RX12) (T := TX12) (N := 55) hx hb hts (fun w h => List.mem_cons_of_mem _ (gx_12 w h)) hown hK hP 0 (by decide) rfl rfl 48 (by decide) (hts _ (List.mem_cons_of_mem _ mw_621)) (fun _ h9 => h9) (congrArg (fun z => some (Value.int z)) (show fp_19 0 48 = v_2 from ev_2.symm)) dX12_begins_21 ?_
    refine lv_iconst (v := 1) hx hb dX12_begins_24 (by decide) ?_
    refine lv_iadd hx hb dX12_begins_25 ?_
    refine lv_topi (fun v_5 ev_5 => ?_)
    have q_6 : v_5.toInt = v_2.toInt + 1 := by rw [ev_5]; have k1 : (1 : Int32).toInt = 1 := (by decide); exact (bn_addI (by omega) (by omega)).trans (by omega)
    refine sg_put (ci := 12) (x := v_5) (ty := .int) (C := RX12) (T := TX12) (N := 55) hx hb hts (fun w h => List.mem_cons_of_mem _ (gx_12 w h)) tyX12 tyX12_ok nmX12 hown hh hA hK hP hS 0 (by decide) rfl rfl 48 (by decide) (hts _ (List.mem_cons_of_mem _ mw_621)) (fun _ h9 => h9) rfl rfl (by decide +kernel) rfl rfl (Nat.le_of_ble_eq_true rfl) dX12_begins_26 (fun f_7 H locs ef_7 hP hS => ?_)
    have hI : sgI loM hiM f_7 := by rw [ef_7]; exact sgI.put hI 0 48 (show 0 ≤ (v_5 : Int32).toInt ∧ (v_5 : Int32).toInt ≤ 19 from by omega)
    have hF : sgK WkX12_begins_1_f2 f f_7 := sgK.put hF ef_7 (by rfl)
    have q_8 : (f_7 0 48).toInt = v_5.toInt := (congrArg Int32.toInt (show f_7 0 48 = v_5 from (by rw [ef_7, sg_up_s, sgu_s])))
    have q_9 : (f_7 0 48).toInt = v_5.toInt := (congrArg Int32.toInt (show f_7 0 48 = v_5 from (by rw [ef_7, sg_up_s, sgu_s])))
    exact hret _ _ _ _ f_7 L Q dX12_begins_29 hP hS ⟨⟨hI, hF, rfl, rfl⟩, (by omega)⟩
  refine lv_aload_n hx hb dX12_begins_0 rfl (lv_at hl 0 rfl) ?_
  refine sg_get (ci := 12) (v := .int 2) (C := RX12) (T := TX12) (N := 55) hx hb hts (fun w h => List.mem_cons_of_mem _ (gx_12 w h)) hown hK hP 0 (by decide) rfl rfl 48 (by decide) (hts _ (List.mem_cons_of_mem _ mw_621)) (fun _ h9 => h9) (congrArg (fun z => some (Value.int z)) (show f 0 48 = 2 from hf_0_48)) dX12_begins_1 ?_
  refine lv_bipush (v := 24) hx hb dX12_begins_4 (by decide) ?_
  refine lv_icmp_ge (tgt := 19) hx hb dX12_begins_6 (by decide) (fun c => absurd c (by decide)) (fun c => ?_)
  refine lv_aload_n hx hb dX12_begins_9 rfl (lv_at hl 0 rfl) ?_
  refine sg_get (ci := 12) (v := .ref (h 21)) (C := RX12) (T := TX12) (N := 55) hx hb hts (fun w h => List.mem_cons_of_mem _ (gx_12 w h)) hown hK hP 0 (by decide) rfl rfl 47 (by decide) (hts _ (List.mem_cons_of_mem _ mw_718)) (fun _ h9 => h9) rfl dX12_begins_10 ?_
  refine lv_aload_n hx hb dX12_begins_13 rfl (lv_at hl 0 rfl) ?_
  refine sg_get (ci := 12) (v := .int 2) (C := RX12) (T := TX12) (N := 55) hx hb hts (fun w h => List.mem_cons_of_mem _ (gx_12 w h)) hown hK hP 0 (by decide) rfl rfl 48 (by decide) (hts _ (List.mem_cons_of_mem _ mw_621)) (fun _ h9 => h9) (congrArg (fun z => some (Value.int z)) (show f 0 48 = 2 from hf_0_48)) dX12_begins_14 ?_
  refine lv_iload_n hx hb dX12_begins_17 rfl (lv_at hl 1 rfl) ?_
  refine sg_iast hx hb hh hA hK hP hS 21 (by decide) 0 (fun _ => rfl) rfl (i := 2) (x := 1) (vp_in_iff.mpr (by decide)) dX12_begins_18 (fun f_10 H locs ef_10 hP hS => ?_)
  have hI : sgI loM hiM f_10 := by rw [ef_10]; exact sgI.put hI 21 (Int32.toNatClampNeg 2) (show 0 ≤ (1 : Int32).toInt ∧ (1 : Int32).toInt ≤ 81 from by decide)
  have hF : sgK WkX12_begins_1_f2 f f_10 := sgK.put hF ef_10 (by rfl)
  exact blk_19 f_10 _ _ _ (by have zz0_48 : (f_10 0 48).toInt = 2 := (congrArg Int32.toInt (show f_10 0 48 = 2 from (by rw [ef_10, sg_up_n (by decide)]; exact hf_0_48))).trans (by decide); omega) hI hF hP hS (lv_sub hl [0] rfl)

abbrev WkX12_setsAs_0_f2_f1 : List (Nat × Nat × Option Nat) := [(0, 0, some 48), (21, 21, none)]
set_option maxHeartbeats 4000000 in
set_option maxRecDepth 100000 in
theorem kX12_setsAs_0_f2_f1 (l : Launch) (D : va_G) (ca : Nat → ClassId) (za h : Nat → Nat) (hh : sgH 26 h) (f : sg_F) (L : sg_L) (Q : sg_Q) (hI : sgI loM hiM f) (x1 : Int32) (hf_0_48 : f 0 48 = 2) (hf_0_49 : f 0 49 = 1) (p0 : 2 ≤ (f 0 48).toInt ∧ (f 0 48).toInt ≤ 2) (sz : Nat) : Met l yX12_setsAs gwX12_setsAs { frames := 1, cells := 0, slots := 0, locals := 21 } (sgP D vwCl (tyX ca) 26 h (eM ca h) zcM za f L Q sz [.ref (h 0), .int 0, .int x1]) (sgQi D vwCl 26 h (eM ca h) sz (fun r f1 L1 Q1 => ((sgI loM hiM f1 ∧ sgK WkX12_setsAs_0_f2_f1 f f1 ∧ L1 = L ∧ Q1 = Q) ∧ True ∧ (3 ≤ (f1 0 48).toInt ∧ (f1 0 48).toInt ≤ 3)))) 0 0 (sgA 26 h sz) := by
  refine sg_ofWi (cc := cX12_setsAs) (maxL := 3) RX12 (by decide) rfl rfl (Nat.le_of_ble_eq_true rfl) ?_
  intro p e s m below meth cd Qz ls hx hb hml hown hts hK hZ hP hS hl hret
  have hA := sgY.self (n := 26) (h := h) (sz := s.heap.size)
  have hl : lv_has ls 3 [(0, .ref (h 0)), (1, .int 0), (2, .int x1)] := hl
  obtain ⟨H, hH⟩ : ∃ z : Heap, z = s.heap := ⟨_, rfl⟩
  obtain ⟨locs, hlo⟩ : ∃ z : List Loc, z = [] := ⟨_, rfl⟩
  have hP : va_P D vwCl (sgw 26 h (eM ca h) f L Q) H := by rw [hH]; exact hP
  have hS : va_S (sgA 26 h s.heap.size) s.heap H locs := by rw [hH, hlo]; exact hS
  suffices hgo : W p l e ({ frames := 1, cells := 0, slots := 0, locals := 21 }) s m ([.ref (h 0), .int 0, .int x1] : List Value).toArray below meth cd H locs 0 0 Qz (F0 m 0 ls []) by rw [hH, hlo] at hgo; exact hgo
  clear hH hlo
  have o_1 : (f 0 48).toInt = 2 := (congrArg Int32.toInt (show f 0 48 = 2 from hf_0_48)).trans (by decide)
  have hF : sgK WkX12_setsAs_0_f2_f1 f f := sgK.rf
  refine lv_iload_n hx hb dX12_setsAs_0 rfl (lv_at hl 1 rfl) ?_
  refine lv_iconst (v := 1) hx hb dX12_setsAs_1 (by decide) ?_
  refine lv_icmp_eq (tgt := 16) hx hb dX12_setsAs_2 (by decide) (fun c => absurd c (by decide)) (fun c => ?_)
  refine lv_iload_n hx hb dX12_setsAs_5 rfl (lv_at hl 1 rfl) ?_
  refine lv_iconst (v := 4) hx hb dX12_setsAs_6 (by decide) ?_
  refine lv_icmp_eq (tgt := 16) hx hb dX12_setsAs_7 (by decide) (fun c => absurd c (by decide)) (fun c => ?_)
  refine lv_iload_n hx hb dX12_setsAs_10 rfl (lv_at hl 1 rfl) ?_
  refine lv_bipush (v := 7) hx hb dX12_setsAs_11 (by decide) ?_
  refine lv_icmp_ne (tgt := 31) hx hb dX12_setsAs_13 (by decide) (fun c => ?_) (fun c => absurd c (by decide))
  refine lv_iload_n hx hb dX12_setsAs_31 rfl (lv_at hl 1 rfl) ?_
  refine lv_bipush (v := 6) hx hb dX12_setsAs_32 (by decide) ?_
  refine lv_icmp_ne (tgt := 52) hx hb dX12_setsAs_34 (by decide) (fun c => ?_) (fun c => absurd c (by decide))
  refine lv_aload_n hx hb dX12_setsAs_52 rfl (lv_at hl 0 rfl) ?_
  refine lv_iconst (v := 1) hx hb dX12_setsAs_53 (by decide) ?_
  have q_2 : (f 0 48).toInt = 2 := (congrArg Int32.toInt (show f 0 48 = 2 from hf_0_48)).trans (by decide)
  have q_3 : (f 0 48).toInt = 2 := (congrArg Int32.toInt (show f 0 48 = 2 from hf_0_48)).trans (by decide)
  refine sg_callv (va_runV (As := [.int 1]) (rest := []) ⟨hx, hb, hml, hown, hts⟩ (kX12_begins_1_f2 l D ca za h hh f L Q hI hf_0_48 (by have k0 : (1 : Int32).toInt = 1 := (by decide); omega) H.size) (cwV 1 hts (gw_V (fun _ h => List.mem_cons_of_mem _ h) mw_734 mw_735 mw_736 mw_619 mw_733) rfl rfl rfl (by decide +kernel) ⟨Nat.le_of_ble_eq_true rfl, Nat.le_of_ble_eq_true rfl⟩) (sg_preV (ci := 12) (C := RX12) (T := TX12) (N := 55) hA hK hP hS hZ 0 (by decide) rfl rfl) rfl rfl hl.1 rfl (lv_room (Nat.le_of_ble_eq_true rfl)) dX12_setsAs_54 ⟨Nat.le_refl _, Nat.le_refl _⟩) hA hS (fun f_4 L_5 Q_6 H locs hq hP hS => ?_)
  obtain ⟨⟨hI, hk_f_4, eL9, eQ9⟩, p_7⟩ := hq
  rw [eL9, eQ9] at hP; clear eL9 eQ9
  have hF : sgK WkX12_setsAs_0_f2_f1 f f_4 := sgK.tr hF hk_f_4 (by decide)
  obtain ⟨v_8, ev_8⟩ : ∃ z : Int32, z = f_4 0 48 := ⟨_, rfl⟩
  have q_9 : 0 ≤ v_8.toInt ∧ v_8.toInt ≤ 19 := by rw [ev_8]; exact hI 0 48
  have q_10 : (f_4 0 48).toInt = v_8.toInt := (congrArg Int32.toInt (show f_4 0 48 = v_8 from ev_8.symm))
  have q_11 : (f_4 0 48).toInt = v_8.toInt := (congrArg Int32.toInt (show f_4 0 48 = v_8 from ev_8.symm))
  refine lv_iload_n hx hb dX12_setsAs_57 rfl (lv_at hl 2 rfl) ?_
  refine lv_aload_n hx hb dX12_setsAs_58 rfl (lv_at hl 0 rfl) ?_
  refine sg_get (ci := 12) (v := .int (f_4 0 50)) (C := RX12) (T := TX12) (N := 55) hx hb hts (fun w h => List.mem_cons_of_mem _ (gx_12 w h)) hown hK hP 0 (by decide) rfl rfl 50 (by decide) (hts _ (List.mem_cons_of_mem _ mw_680)) (fun _ h9 => h9) rfl dX12_setsAs_59 ?_
  refine lv_topi (fun v_12 ev_12 => ?_)
  have q_13 : 0 ≤ v_12.toInt ∧ v_12.toInt ≤ 49 := by rw [ev_12]; exact hI 0 50
  refine lv_iadd hx hb dX12_setsAs_62 ?_
  refine lv_topi (fun v_14 ev_14 => ?_)
  have q_15 : (f_4 0 48).toInt = v_8.toInt := (congrArg Int32.toInt (show f_4 0 48 = v_8 from ev_8.symm))
  have q_16 : (f_4 0 48).toInt = v_8.toInt := (congrArg Int32.toInt (show f_4 0 48 = v_8 from ev_8.symm))
  exact hret _ _ _ _ (v_14) f_4 L Q dX12_setsAs_63 hP hS ⟨⟨hI, hF, rfl, rfl⟩, trivial, (by omega)⟩

abbrev WkX12_setsAs_1_f1_f1 : List (Nat × Nat × Option Nat) := [(0, 0, some 48), (21, 21, none)]
set_option maxHeartbeats 4000000 in
set_option maxRecDepth 100000 in
theorem kX12_setsAs_1_f1_f1 (l : Launch) (D : va_G) (ca : Nat → ClassId) (za h : Nat → Nat) (hh : sgH 26 h) (f : sg_F) (L : sg_L) (Q : sg_Q) (hI : sgI loM hiM f) (x1 : Int32) (hf_0_48 : f 0 48 = 1) (hf_0_49 : f 0 49 = 1) (p0 : 1 ≤ (f 0 48).toInt ∧ (f 0 48).toInt ≤ 1) (sz : Nat) : Met l yX12_setsAs gwX12_setsAs { frames := 2, cells := 0, slots := 0, locals := 43 } (sgP D vwCl (tyX ca) 26 h (eM ca h) zcM za f L Q sz [.ref (h 0), .int 1, .int x1]) (sgQi D vwCl 26 h (eM ca h) sz (fun r f1 L1 Q1 => ((sgI loM hiM f1 ∧ sgK WkX12_setsAs_1_f1_f1 f f1 ∧ L1 = L ∧ Q1 = Q) ∧ True ∧ (3 ≤ (f1 0 48).toInt ∧ (f1 0 48).toInt ≤ 3)))) 0 0 (sgA 26 h sz) := by
  refine sg_ofWi (cc := cX12_setsAs) (maxL := 3) RX12 (by decide) rfl rfl (Nat.le_of_ble_eq_true rfl) ?_
  intro p e s m below meth cd Qz ls hx hb hml hown hts hK hZ hP hS hl hret
  have hA := sgY.self (n := 26) (h := h) (sz := s.heap.size)
  have hl : lv_has ls 3 [(0, .ref (h 0)), (1, .int 1), (2, .int x1)] := hl
  obtain ⟨H, hH⟩ : ∃ z : Heap, z = s.heap := ⟨_, rfl⟩
  obtain ⟨locs, hlo⟩ : ∃ z : List Loc, z = [] := ⟨_, rfl⟩
  have hP : va_P D vwCl (sgw 26 h (eM ca h) f L Q) H := by rw [hH]; exact hP
  have hS : va_S (sgA 26 h s.heap.size) s.heap H locs := by rw [hH, hlo]; exact hS
  suffices hgo : W p l e ({ frames := 2, cells := 0, slots := 0, locals := 43 }) s m ([.ref (h 0), .int 1, .int x1] : List Value).toArray below meth cd H locs 0 0 Qz (F0 m 0 ls []) by rw [hH, hlo] at hgo; exact hgo
  clear hH hlo
  have o_1 : (f 0 48).toInt = 1 := (congrArg Int32.toInt (show f 0 48 = 1 from hf_0_48)).trans (by decide)
  have hF : sgK WkX12_setsAs_1_f1_f1 f f := sgK.rf
  have blk_16 : ∀ (fp_16 : sg_F) (H : Heap) (locs : List Loc) (ls : Array Slot), 1 ≤ (fp_16 0 48).toInt ∧ (fp_16 0 48).toInt ≤ 1 → 1 ≤ (fp_16 0 49).toInt ∧ (fp_16 0 49).toInt ≤ 1 → sgI loM hiM fp_16 → sgK WkX12_setsAs_1_f1_f1 f fp_16 → va_P D vwCl (sgw 26 h (eM ca h) fp_16 L Q) H → va_S (sgA 26 h s.heap.size) s.heap H locs → lv_has ls 3 [(0, .ref (h 0)), (2, .int x1)] → W p l e ({ frames := 2, cells := 0, slots := 0, locals := 43 }) s m ([.ref (h 0), .int 1, .int x1] : List Value).toArray below meth cd H locs 0 0 Qz (F0 m 16 ls []) := by
    intro fp_16 H locs ls hy0_16 hy1_16 hI hF hP hS hl
    obtain ⟨v_2, ev_2⟩ : ∃ z : Int32, z = fp_16 0 48 := ⟨_, rfl⟩
    have q_3 : 0 ≤ v_2.toInt ∧ v_2.toInt ≤ 19 := by rw [ev_2]; exact hI 0 48
    have q_4 : (fp_16 0 48).toInt = v_2.toInt := by rw [ev_2]
    obtain ⟨v_5, ev_5⟩ : ∃ z : Int32, z = fp_16 0 49 := ⟨_, rfl⟩
    have q_6 : 0 ≤ v_5.toInt ∧ v_5.toInt ≤ 7 := by rw [ev_5]; exact hI 0 49
    have q_7 : (fp_16 0 49).toInt = v_5.toInt := by rw [ev_5]
    have m_8 : fp_16 0 49 = 1 := (hF 0 49 (by decide)).trans hf_0_49
    refine lv_aload_n hx hb dX12_setsAs_16 rfl (lv_at hl 0 rfl) ?_
    refine lv_bipush (v := 20) hx hb dX12_setsAs_17 (by decide) ?_
    have c_9 : v_2 = 1 := Int32.toInt_inj.mp (by have k9 : (1 : Int32).toInt = 1 := (by decide); omega)
    have q_10 : (fp_16 0 48).toInt = 1 := (congrArg Int32.toInt (show fp_16 0 48 = 1 from (Eq.trans ev_2.symm c_9))).trans (by decide)
    have q_11 : (fp_16 0 48).toInt = 1 := (congrArg Int32.toInt (show fp_16 0 48 = 1 from (Eq.trans ev_2.symm c_9))).trans (by decide)
    refine sg_callv (va_runV (As := [.int 20]) (rest := []) ⟨hx, hb, hml, hown, hts⟩ (kX12_begins_20_f1 l D ca za h hh fp_16 L Q hI (Eq.trans ev_2.symm c_9) (by have k0 : (20 : Int32).toInt = 20 := (by decide); omega) H.size) (cwV 1 hts (gw_V (fun _ h => List.mem_cons_of_mem _ h) mw_734 mw_735 mw_736 mw_619 mw_733) rfl rfl rfl (by decide +kernel) ⟨Nat.le_of_ble_eq_true rfl, Nat.le_of_ble_eq_true rfl⟩) (sg_preV (ci := 12) (C := RX12) (T := TX12) (N := 55) hA hK hP hS hZ 0 (by decide) rfl rfl) rfl rfl hl.1 rfl (lv_room (Nat.le_of_ble_eq_true rfl)) dX12_setsAs_19 ⟨Nat.le_refl _, Nat.le_refl _⟩) hA hS (fun f_12 L_13 Q_14 H locs hq hP hS => ?_)
    obtain ⟨⟨hI, hk_f_12, eL9, eQ9⟩, p_15⟩ := hq
    rw [eL9, eQ9] at hP; clear eL9 eQ9
    have hF : sgK WkX12_setsAs_1_f1_f1 f f_12 := sgK.tr hF hk_f_12 (by decide)
    obtain ⟨v_16, ev_16⟩ : ∃ z : Int32, z = f_12 0 48 := ⟨_, rfl⟩
    have q_17 : 0 ≤ v_16.toInt ∧ v_16.toInt ≤ 19 := by rw [ev_16]; exact hI 0 48
    have q_18 : (f_12 0 48).toInt = v_16.toInt := (congrArg Int32.toInt (show f_12 0 48 = v_16 from ev_16.symm))
    have q_19 : (f_12 0 48).toInt = v_16.toInt := (congrArg Int32.toInt (show f_12 0 48 = v_16 from ev_16.symm))
    refine lv_aload_n hx hb dX12_setsAs_22 rfl (lv_at hl 0 rfl) ?_
    refine lv_iconst (v := 0) hx hb dX12_setsAs_23 (by decide) ?_
    refine lv_iload_n hx hb dX12_setsAs_24 rfl (lv_at hl 1 rfl) ?_
    have c_20 : v_16 = 2 := Int32.toInt_inj.mp (by have k9 : (2 : Int32).toInt = 2 := (by decide); omega)
    have q_21 : (f_12 0 48).toInt = 2 := (congrArg Int32.toInt (show f_12 0 48 = 2 from (Eq.trans ev_16.symm c_20))).trans (by decide)
    have q_22 : (f_12 0 48).toInt = 2 := (congrArg Int32.toInt (show f_12 0 48 = 2 from (Eq.trans ev_16.symm c_20))).trans (by decide)
    refine sg_calli (va_runV (As := [.int 0, .int x1]) (rest := []) ⟨hx, hb, hml, hown, hts⟩ (kX12_setsAs_0_f2_f1 l D ca za h hh f_12 L Q hI x1 (Eq.trans ev_16.symm c_20) ((hk_f_12 0 49 (by decide)).trans m_8) (by have k0 : (0 : Int32).toInt = 0 := (by decide); omega) H.size) (cwV 2 hts (gw_V (fun _ h => List.mem_cons_of_mem _ h) mw_744 mw_745 mw_746 mw_619 mw_743) rfl rfl rfl (by decide +kernel) ⟨Nat.le_of_ble_eq_true rfl, Nat.le_of_ble_eq_true rfl⟩) (sg_preV (ci := 12) (C := RX12) (T := TX12) (N := 55) hA hK hP hS hZ 0 (by decide) rfl rfl) rfl rfl hl.1 rfl (lv_room (Nat.le_of_ble_eq_true rfl)) dX12_setsAs_25 ⟨Nat.le_refl _, Nat.le_refl _⟩) hA hS (fun r_26 f_23 L_24 Q_25 H locs hq hP hS => ?_)
    obtain ⟨⟨hI, hk_f_23, eL9, eQ9⟩, hq, p_27⟩ := hq
    rw [eL9, eQ9] at hP; clear eL9 eQ9
    have hF : sgK WkX12_setsAs_1_f1_f1 f f_23 := sgK.tr hF hk_f_23 (by decide)
    obtain ⟨v_28, ev_28⟩ : ∃ z : Int32, z = f_23 0 48 := ⟨_, rfl⟩
    have q_29 : 0 ≤ v_28.toInt ∧ v_28.toInt ≤ 19 := by rw [ev_28]; exact hI 0 48
    have q_30 : (f_23 0 48).toInt = v_28.toInt := (congrArg Int32.toInt (show f_23 0 48 = v_28 from ev_28.symm))
    have q_31 : (f_23 0 48).toInt = v_28.toInt := (congrArg Int32.toInt (show f_23 0 48 = v_28 from ev_28.symm))
    have k_32 : (0 : Int32).toInt = 0 := by decide
    refine lv_iconst (v := 3) hx hb dX12_setsAs_28 (by decide) ?_
    refine lv_iadd hx hb dX12_setsAs_29 ?_
    refine lv_topi (fun v_33 ev_33 => ?_)
    have q_34 : (f_23 0 48).toInt = v_28.toInt := (congrArg Int32.toInt (show f_23 0 48 = v_28 from ev_28.symm))
    have q_35 : (f_23 0 48).toInt = v_28.toInt := (congrArg Int32.toInt (show f_23 0 48 = v_28 from ev_28.symm))
    exact hret _ _ _ _ (v_33) f_23 L Q dX12_setsAs_30 hP hS ⟨⟨hI, hF, rfl, rfl⟩, trivial, (by omega)⟩
  refine lv_iload_n hx hb dX12_setsAs_0 rfl (lv_at hl 1 rfl) ?_
  refine lv_iconst (v := 1) hx hb dX12_setsAs_1 (by decide) ?_
  refine lv_icmp_eq (tgt := 16) hx hb dX12_setsAs_2 (by decide) (fun c => ?_) (fun c => absurd c (by decide))
  exact blk_16 f _ _ _ (by have zz0_48 : (f 0 48).toInt = 1 := (congrArg Int32.toInt (show f 0 48 = 1 from hf_0_48)).trans (by decide); omega) (by have zz0_49 : (f 0 49).toInt = 1 := (congrArg Int32.toInt (show f 0 49 = 1 from hf_0_49)).trans (by decide); omega) hI hF hP hS (lv_sub hl [0, 2] rfl)

abbrev WkX12_sitsAs_1_f0_f1 : List (Nat × Nat × Option Nat) := [(0, 0, some 48), (21, 21, none)]
set_option maxHeartbeats 4000000 in
set_option maxRecDepth 100000 in
theorem kX12_sitsAs_1_f0_f1 (l : Launch) (D : va_G) (ca : Nat → ClassId) (za h : Nat → Nat) (hh : sgH 26 h) (f : sg_F) (L : sg_L) (Q : sg_Q) (hI : sgI loM hiM f) (x1 : Int32) (hf_0_48 : f 0 48 = 0) (hf_0_49 : f 0 49 = 1) (p0 : 0 ≤ (f 0 48).toInt ∧ (f 0 48).toInt ≤ 0) (sz : Nat) : Met l yX12_sitsAs gwX12_sitsAs { frames := 3, cells := 0, slots := 0, locals := 65 } (sgP D vwCl (tyX ca) 26 h (eM ca h) zcM za f L Q sz [.ref (h 0), .int 1, .int x1]) (sgQi D vwCl 26 h (eM ca h) sz (fun r f1 L1 Q1 => ((sgI loM hiM f1 ∧ sgK WkX12_sitsAs_1_f0_f1 f f1 ∧ L1 = L ∧ Q1 = Q) ∧ True ∧ (3 ≤ (f1 0 48).toInt ∧ (f1 0 48).toInt ≤ 3)))) 0 0 (sgA 26 h sz) := by
  refine sg_ofWi (cc := cX12_sitsAs) (maxL := 4) RX12 (by decide) rfl rfl (Nat.le_of_ble_eq_true rfl) ?_
  intro p e s m below meth cd Qz ls hx hb hml hown hts hK hZ hP hS hl hret
  have hA := sgY.self (n := 26) (h := h) (sz := s.heap.size)
  have hl : lv_has ls 4 [(0, .ref (h 0)), (1, .int 1), (2, .int x1)] := hl
  obtain ⟨H, hH⟩ : ∃ z : Heap, z = s.heap := ⟨_, rfl⟩
  obtain ⟨locs, hlo⟩ : ∃ z : List Loc, z = [] := ⟨_, rfl⟩
  have hP : va_P D vwCl (sgw 26 h (eM ca h) f L Q) H := by rw [hH]; exact hP
  have hS : va_S (sgA 26 h s.heap.size) s.heap H locs := by rw [hH, hlo]; exact hS
  suffices hgo : W p l e ({ frames := 3, cells := 0, slots := 0, locals := 65 }) s m ([.ref (h 0), .int 1, .int x1] : List Value).toArray below meth cd H locs 0 0 Qz (F0 m 0 ls []) by rw [hH, hlo] at hgo; exact hgo
  clear hH hlo
  have o_1 : (f 0 48).toInt = 0 := (congrArg Int32.toInt (show f 0 48 = 0 from hf_0_48)).trans (by decide)
  have hF : sgK WkX12_sitsAs_1_f0_f1 f f := sgK.rf
  refine lv_iload_n hx hb dX12_sitsAs_0 rfl (lv_at hl 1 rfl) ?_
  refine lv_iconst (v := 3) hx hb dX12_sitsAs_1 (by decide) ?_
  refine lv_icmp_eq (tgt := 10) hx hb dX12_sitsAs_2 (by decide) (fun c => absurd c (by decide)) (fun c => ?_)
  refine lv_iload_n hx hb dX12_sitsAs_5 rfl (lv_at hl 1 rfl) ?_
  refine lv_iconst (v := 5) hx hb dX12_sitsAs_6 (by decide) ?_
  refine lv_icmp_ne (tgt := 25) hx hb dX12_sitsAs_7 (by decide) (fun c => ?_) (fun c => absurd c (by decide))
  refine lv_iload_n hx hb dX12_sitsAs_25 rfl (lv_at hl 1 rfl) ?_
  refine lv_iconst (v := 2) hx hb dX12_sitsAs_26 (by decide) ?_
  refine lv_icmp_ne (tgt := 44) hx hb dX12_sitsAs_27 (by decide) (fun c => ?_) (fun c => absurd c (by decide))
  refine lv_iload_n hx hb dX12_sitsAs_44 rfl (lv_at hl 1 rfl) ?_
  refine lv_bipush (v := 7) hx hb dX12_sitsAs_45 (by decide) ?_
  refine lv_icmp_ne (tgt := 75) hx hb dX12_sitsAs_47 (by decide) (fun c => ?_) (fun c => absurd c (by decide))
  refine lv_aload_n hx hb dX12_sitsAs_75 rfl (lv_at hl 0 rfl) ?_
  refine lv_bipush (v := 10) hx hb dX12_sitsAs_76 (by decide) ?_
  have q_2 : (f 0 48).toInt = 0 := (congrArg Int32.toInt (show f 0 48 = 0 from hf_0_48)).trans (by decide)
  have q_3 : (f 0 48).toInt = 0 := (congrArg Int32.toInt (show f 0 48 = 0 from hf_0_48)).trans (by decide)
  refine sg_callv (va_runV (As := [.int 10]) (rest := []) ⟨hx, hb, hml, hown, hts⟩ (kX12_begins_10_f0 l D ca za h hh f L Q hI hf_0_48 (by have k0 : (10 : Int32).toInt = 10 := (by decide); omega) H.size) (cwV 1 hts (gw_V (fun _ h => List.mem_cons_of_mem _ h) mw_734 mw_735 mw_736 mw_619 mw_733) rfl rfl rfl (by decide +kernel) ⟨Nat.le_of_ble_eq_true rfl, Nat.le_of_ble_eq_true rfl⟩) (sg_preV (ci := 12) (C := RX12) (T := TX12) (N := 55) hA hK hP hS hZ 0 (by decide) rfl rfl) rfl rfl hl.1 rfl (lv_room (Nat.le_of_ble_eq_true rfl)) dX12_sitsAs_78 ⟨Nat.le_refl _, Nat.le_refl _⟩) hA hS (fun f_4 L_5 Q_6 H locs hq hP hS => ?_)
  obtain ⟨⟨hI, hk_f_4, eL9, eQ9⟩, p_7⟩ := hq
  rw [eL9, eQ9] at hP; clear eL9 eQ9
  have hF : sgK WkX12_sitsAs_1_f0_f1 f f_4 := sgK.tr hF hk_f_4 (by decide)
  obtain ⟨v_8, ev_8⟩ : ∃ z : Int32, z = f_4 0 48 := ⟨_, rfl⟩
  have q_9 : 0 ≤ v_8.toInt ∧ v_8.toInt ≤ 19 := by rw [ev_8]; exact hI 0 48
  have q_10 : (f_4 0 48).toInt = v_8.toInt := (congrArg Int32.toInt (show f_4 0 48 = v_8 from ev_8.symm))
  have q_11 : (f_4 0 48).toInt = v_8.toInt := (congrArg Int32.toInt (show f_4 0 48 = v_8 from ev_8.symm))
  refine lv_aload_n hx hb dX12_sitsAs_81 rfl (lv_at hl 0 rfl) ?_
  refine lv_aload_n hx hb dX12_sitsAs_82 rfl (lv_at hl 0 rfl) ?_
  refine sg_get (ci := 12) (v := .int 1) (C := RX12) (T := TX12) (N := 55) hx hb hts (fun w h => List.mem_cons_of_mem _ (gx_12 w h)) hown hK hP 0 (by decide) rfl rfl 49 (by decide) (hts _ (List.mem_cons_of_mem _ mw_679)) (fun _ h9 => h9) (congrArg (fun z => some (Value.int z)) (show f_4 0 49 = 1 from ((hk_f_4 0 49 (by decide)).trans hf_0_49))) dX12_sitsAs_83 ?_
  refine lv_iload_n hx hb dX12_sitsAs_86 rfl (lv_at hl 2 rfl) ?_
  have c_12 : v_8 = 1 := Int32.toInt_inj.mp (by have k9 : (1 : Int32).toInt = 1 := (by decide); omega)
  have q_13 : (f_4 0 48).toInt = 1 := (congrArg Int32.toInt (show f_4 0 48 = 1 from (Eq.trans ev_8.symm c_12))).trans (by decide)
  have q_14 : (f_4 0 48).toInt = 1 := (congrArg Int32.toInt (show f_4 0 48 = 1 from (Eq.trans ev_8.symm c_12))).trans (by decide)
  refine sg_calli (va_runV (As := [.int 1, .int x1]) (rest := []) ⟨hx, hb, hml, hown, hts⟩ (kX12_setsAs_1_f1_f1 l D ca za h hh f_4 L Q hI x1 (Eq.trans ev_8.symm c_12) ((hk_f_4 0 49 (by decide)).trans hf_0_49) (by have k0 : (1 : Int32).toInt = 1 := (by decide); omega) H.size) (cwV 2 hts (gw_V (fun _ h => List.mem_cons_of_mem _ h) mw_744 mw_745 mw_746 mw_619 mw_743) rfl rfl rfl (by decide +kernel) ⟨Nat.le_of_ble_eq_true rfl, Nat.le_of_ble_eq_true rfl⟩) (sg_preV (ci := 12) (C := RX12) (T := TX12) (N := 55) hA hK hP hS hZ 0 (by decide) rfl rfl) rfl rfl hl.1 rfl (lv_room (Nat.le_of_ble_eq_true rfl)) dX12_sitsAs_87 ⟨Nat.le_refl _, Nat.le_refl _⟩) hA hS (fun r_18 f_15 L_16 Q_17 H locs hq hP hS => ?_)
  obtain ⟨⟨hI, hk_f_15, eL9, eQ9⟩, hq, p_19⟩ := hq
  rw [eL9, eQ9] at hP; clear eL9 eQ9
  have hF : sgK WkX12_sitsAs_1_f0_f1 f f_15 := sgK.tr hF hk_f_15 (by decide)
  obtain ⟨v_20, ev_20⟩ : ∃ z : Int32, z = f_15 0 48 := ⟨_, rfl⟩
  have q_21 : 0 ≤ v_20.toInt ∧ v_20.toInt ≤ 19 := by rw [ev_20]; exact hI 0 48
  have q_22 : (f_15 0 48).toInt = v_20.toInt := (congrArg Int32.toInt (show f_15 0 48 = v_20 from ev_20.symm))
  have q_23 : (f_15 0 48).toInt = v_20.toInt := (congrArg Int32.toInt (show f_15 0 48 = v_20 from ev_20.symm))
  have k_24 : (1 : Int32).toInt = 1 := by decide
  refine lv_iconst (v := 2) hx hb dX12_sitsAs_90 (by decide) ?_
  refine lv_imul hx hb dX12_sitsAs_91 ?_
  refine lv_topi (fun v_25 ev_25 => ?_)
  have q_26 : (f_15 0 48).toInt = v_20.toInt := (congrArg Int32.toInt (show f_15 0 48 = v_20 from ev_20.symm))
  have q_27 : (f_15 0 48).toInt = v_20.toInt := (congrArg Int32.toInt (show f_15 0 48 = v_20 from ev_20.symm))
  exact hret _ _ _ _ (v_25) f_15 L Q dX12_sitsAs_92 hP hS ⟨⟨hI, hF, rfl, rfl⟩, trivial, (by omega)⟩

abbrev WkX12_begins_30_f0 : List (Nat × Nat × Option Nat) := [(0, 0, some 48), (21, 21, none)]
set_option maxHeartbeats 4000000 in
set_option maxRecDepth 100000 in
theorem kX12_begins_30_f0 (l : Launch) (D : va_G) (ca : Nat → ClassId) (za h : Nat → Nat) (hh : sgH 26 h) (f : sg_F) (L : sg_L) (Q : sg_Q) (hI : sgI loM hiM f) (hf_0_48 : f 0 48 = 0) (p0 : 0 ≤ (f 0 48).toInt ∧ (f 0 48).toInt ≤ 0) (sz : Nat) : Met l yX12_begins gwX12_begins { frames := 0, cells := 0, slots := 0, locals := 0 } (sgP D vwCl (tyX ca) 26 h (eM ca h) zcM za f L Q sz [.ref (h 0), .int 30]) (sgQv D vwCl 26 h (eM ca h) sz (fun f1 L1 Q1 => ((sgI loM hiM f1 ∧ sgK WkX12_begins_30_f0 f f1 ∧ L1 = L ∧ Q1 = Q) ∧ (1 ≤ (f1 0 48).toInt ∧ (f1 0 48).toInt ≤ 1)))) 0 0 (sgA 26 h sz) := by
  refine sg_ofWv (cc := cX12_begins) (maxL := 2) RX12 (by decide) rfl rfl (Nat.le_of_ble_eq_true rfl) ?_
  intro p e s m below meth cd Qz ls hx hb hml hown hts hK hZ hP hS hl hret
  have hA := sgY.self (n := 26) (h := h) (sz := s.heap.size)
  have hl : lv_has ls 2 [(0, .ref (h 0)), (1, .int 30)] := hl
  obtain ⟨H, hH⟩ : ∃ z : Heap, z = s.heap := ⟨_, rfl⟩
  obtain ⟨locs, hlo⟩ : ∃ z : List Loc, z = [] := ⟨_, rfl⟩
  have hP : va_P D vwCl (sgw 26 h (eM ca h) f L Q) H := by rw [hH]; exact hP
  have hS : va_S (sgA 26 h s.heap.size) s.heap H locs := by rw [hH, hlo]; exact hS
  suffices hgo : W p l e ({ frames := 0, cells := 0, slots := 0, locals := 0 }) s m ([.ref (h 0), .int 30] : List Value).toArray below meth cd H locs 0 0 Qz (F0 m 0 ls []) by rw [hH, hlo] at hgo; exact hgo
  clear hH hlo
  have o_1 : (f 0 48).toInt = 0 := (congrArg Int32.toInt (show f 0 48 = 0 from hf_0_48)).trans (by decide)
  have hF : sgK WkX12_begins_30_f0 f f := sgK.rf
  have blk_19 : ∀ (fp_19 : sg_F) (H : Heap) (locs : List Loc) (ls : Array Slot), 0 ≤ (fp_19 0 48).toInt ∧ (fp_19 0 48).toInt ≤ 0 → sgI loM hiM fp_19 → sgK WkX12_begins_30_f0 f fp_19 → va_P D vwCl (sgw 26 h (eM ca h) fp_19 L Q) H → va_S (sgA 26 h s.heap.size) s.heap H locs → lv_has ls 2 [(0, .ref (h 0))] → W p l e ({ frames := 0, cells := 0, slots := 0, locals := 0 }) s m ([.ref (h 0), .int 30] : List Value).toArray below meth cd H locs 0 0 Qz (F0 m 19 ls []) := by
    intro fp_19 H locs ls hy0_19 hI hF hP hS hl
    obtain ⟨v_2, ev_2⟩ : ∃ z : Int32, z = fp_19 0 48 := ⟨_, rfl⟩
    have q_3 : 0 ≤ v_2.toInt ∧ v_2.toInt ≤ 19 := by rw [ev_2]; exact hI 0 48
    have q_4 : (fp_19 0 48).toInt = v_2.toInt := by rw [ev_2]
    refine lv_aload_n hx hb dX12_begins_19 rfl (lv_at hl 0 rfl) ?_
    refine lv_dup hx hb dX12_begins_20 rfl ?_
    refine sg_get (ci := 12) (v := .int v_2) (C := RX12) (T := TX12) (N := 55) hx hb hts (fun w h => List.mem_cons_of_mem _ (gx_12 w h)) hown hK hP 0 (by decide) rfl rfl 48 (by decide) (hts _ (List.mem_cons_of_mem _ mw_621)) (fun _ h9 => h9) (congrArg (fun z => some (Value.int z)) (show fp_19 0 48 = v_2 from ev_2.symm)) dX12_begins_21 ?_
    refine lv_iconst (v := 1) hx hb dX12_begins_24 (by decide) ?_
    refine lv_iadd hx hb dX12_begins_25 ?_
    refine lv_topi (fun v_5 ev_5 => ?_)
    have q_6 : v_5.toInt = v_2.toInt + 1 := by rw [ev_5]; have k1 : (1 : Int32).toInt = 1 := (by decide); exact (bn_addI (by omega) (by omega)).trans (by omega)
    refine sg_put (ci := 12) (x := v_5) (ty := .int) (C := RX12) (T := TX12) (N := 55) hx hb hts (fun w h => List.mem_cons_of_mem _ (gx_12 w h)) tyX12 tyX12_ok nmX12 hown hh hA hK hP hS 0 (by decide) rfl rfl 48 (by decide) (hts _ (List.mem_cons_of_mem _ mw_621)) (fun _ h9 => h9) rfl rfl (by decide +kernel) rfl rfl (Nat.le_of_ble_eq_true rfl) dX12_begins_26 (fun f_7 H locs ef_7 hP hS => ?_)
    have hI : sgI loM hiM f_7 := by rw [ef_7]; exact sgI.put hI 0 48 (show 0 ≤ (v_5 : Int32).toInt ∧ (v_5 : Int32).toInt ≤ 19 from by omega)
    have hF : sgK WkX12_begins_30_f0 f f_7 := sgK.put hF ef_7 (by rfl)
    have q_8 : (f_7 0 48).toInt = v_5.toInt := (congrArg Int32.toInt (show f_7 0 48 = v_5 from (by rw [ef_7, sg_up_s, sgu_s])))
    have q_9 : (f_7 0 48).toInt = v_5.toInt := (congrArg Int32.toInt (show f_7 0 48 = v_5 from (by rw [ef_7, sg_up_s, sgu_s])))
    exact hret _ _ _ _ f_7 L Q dX12_begins_29 hP hS ⟨⟨hI, hF, rfl, rfl⟩, (by omega)⟩
  refine lv_aload_n hx hb dX12_begins_0 rfl (lv_at hl 0 rfl) ?_
  refine sg_get (ci := 12) (v := .int 0) (C := RX12) (T := TX12) (N := 55) hx hb hts (fun w h => List.mem_cons_of_mem _ (gx_12 w h)) hown hK hP 0 (by decide) rfl rfl 48 (by decide) (hts _ (List.mem_cons_of_mem _ mw_621)) (fun _ h9 => h9) (congrArg (fun z => some (Value.int z)) (show f 0 48 = 0 from hf_0_48)) dX12_begins_1 ?_
  refine lv_bipush (v := 24) hx hb dX12_begins_4 (by decide) ?_
  refine lv_icmp_ge (tgt := 19) hx hb dX12_begins_6 (by decide) (fun c => absurd c (by decide)) (fun c => ?_)
  refine lv_aload_n hx hb dX12_begins_9 rfl (lv_at hl 0 rfl) ?_
  refine sg_get (ci := 12) (v := .ref (h 21)) (C := RX12) (T := TX12) (N := 55) hx hb hts (fun w h => List.mem_cons_of_mem _ (gx_12 w h)) hown hK hP 0 (by decide) rfl rfl 47 (by decide) (hts _ (List.mem_cons_of_mem _ mw_718)) (fun _ h9 => h9) rfl dX12_begins_10 ?_
  refine lv_aload_n hx hb dX12_begins_13 rfl (lv_at hl 0 rfl) ?_
  refine sg_get (ci := 12) (v := .int 0) (C := RX12) (T := TX12) (N := 55) hx hb hts (fun w h => List.mem_cons_of_mem _ (gx_12 w h)) hown hK hP 0 (by decide) rfl rfl 48 (by decide) (hts _ (List.mem_cons_of_mem _ mw_621)) (fun _ h9 => h9) (congrArg (fun z => some (Value.int z)) (show f 0 48 = 0 from hf_0_48)) dX12_begins_14 ?_
  refine lv_iload_n hx hb dX12_begins_17 rfl (lv_at hl 1 rfl) ?_
  refine sg_iast hx hb hh hA hK hP hS 21 (by decide) 0 (fun _ => rfl) rfl (i := 0) (x := 30) (vp_in_iff.mpr (by decide)) dX12_begins_18 (fun f_10 H locs ef_10 hP hS => ?_)
  have hI : sgI loM hiM f_10 := by rw [ef_10]; exact sgI.put hI 21 (Int32.toNatClampNeg 0) (show 0 ≤ (30 : Int32).toInt ∧ (30 : Int32).toInt ≤ 81 from by decide)
  have hF : sgK WkX12_begins_30_f0 f f_10 := sgK.put hF ef_10 (by rfl)
  exact blk_19 f_10 _ _ _ (by have zz0_48 : (f_10 0 48).toInt = 0 := (congrArg Int32.toInt (show f_10 0 48 = 0 from (by rw [ef_10, sg_up_n (by decide)]; exact hf_0_48))).trans (by decide); omega) hI hF hP hS (lv_sub hl [0] rfl)

abbrev WkX12_begins_10_f1 : List (Nat × Nat × Option Nat) := [(0, 0, some 48), (21, 21, none)]
set_option maxHeartbeats 4000000 in
set_option maxRecDepth 100000 in
theorem kX12_begins_10_f1 (l : Launch) (D : va_G) (ca : Nat → ClassId) (za h : Nat → Nat) (hh : sgH 26 h) (f : sg_F) (L : sg_L) (Q : sg_Q) (hI : sgI loM hiM f) (hf_0_48 : f 0 48 = 1) (p0 : 1 ≤ (f 0 48).toInt ∧ (f 0 48).toInt ≤ 1) (sz : Nat) : Met l yX12_begins gwX12_begins { frames := 0, cells := 0, slots := 0, locals := 0 } (sgP D vwCl (tyX ca) 26 h (eM ca h) zcM za f L Q sz [.ref (h 0), .int 10]) (sgQv D vwCl 26 h (eM ca h) sz (fun f1 L1 Q1 => ((sgI loM hiM f1 ∧ sgK WkX12_begins_10_f1 f f1 ∧ L1 = L ∧ Q1 = Q) ∧ (2 ≤ (f1 0 48).toInt ∧ (f1 0 48).toInt ≤ 2)))) 0 0 (sgA 26 h sz) := by
  refine sg_ofWv (cc := cX12_begins) (maxL := 2) RX12 (by decide) rfl rfl (Nat.le_of_ble_eq_true rfl) ?_
  intro p e s m below meth cd Qz ls hx hb hml hown hts hK hZ hP hS hl hret
  have hA := sgY.self (n := 26) (h := h) (sz := s.heap.size)
  have hl : lv_has ls 2 [(0, .ref (h 0)), (1, .int 10)] := hl
  obtain ⟨H, hH⟩ : ∃ z : Heap, z = s.heap := ⟨_, rfl⟩
  obtain ⟨locs, hlo⟩ : ∃ z : List Loc, z = [] := ⟨_, rfl⟩
  have hP : va_P D vwCl (sgw 26 h (eM ca h) f L Q) H := by rw [hH]; exact hP
  have hS : va_S (sgA 26 h s.heap.size) s.heap H locs := by rw [hH, hlo]; exact hS
  suffices hgo : W p l e ({ frames := 0, cells := 0, slots := 0, locals := 0 }) s m ([.ref (h 0), .int 10] : List Value).toArray below meth cd H locs 0 0 Qz (F0 m 0 ls []) by rw [hH, hlo] at hgo; exact hgo
  clear hH hlo
  have o_1 : (f 0 48).toInt = 1 := (congrArg Int32.toInt (show f 0 48 = 1 from hf_0_48)).trans (by decide)
  have hF : sgK WkX12_begins_10_f1 f f := sgK.rf
  have blk_19 : ∀ (fp_19 : sg_F) (H : Heap) (locs : List Loc) (ls : Array Slot), 1 ≤ (fp_19 0 48).toInt ∧ (fp_19 0 48).toInt ≤ 1 → sgI loM hiM fp_19 → sgK WkX12_begins_10_f1 f fp_19 → va_P D vwCl (sgw 26 h (eM ca h) fp_19 L Q) H → va_S (sgA 26 h s.heap.size) s.heap H locs → lv_has ls 2 [(0, .ref (h 0))] → W p l e ({ frames := 0, cells := 0, slots := 0, locals := 0 }) s m ([.ref (h 0), .int 10] : List Value).toArray below meth cd H locs 0 0 Qz (F0 m 19 ls []) := by
    intro fp_19 H locs ls hy0_19 hI hF hP hS hl
    obtain ⟨v_2, ev_2⟩ : ∃ z : Int32, z = fp_19 0 48 := ⟨_, rfl⟩
    have q_3 : 0 ≤ v_2.toInt ∧ v_2.toInt ≤ 19 := by rw [ev_2]; exact hI 0 48
    have q_4 : (fp_19 0 48).toInt = v_2.toInt := by rw [ev_2]
    refine lv_aload_n hx hb dX12_begins_19 rfl (lv_at hl 0 rfl) ?_
    refine lv_dup hx hb dX12_begins_20 rfl ?_
    refine sg_get (ci := 12) (v := .int v_2) (C := RX12) (T := TX12) (N := 55) hx hb hts (fun w h => List.mem_cons_of_mem _ (gx_12 w h)) hown hK hP 0 (by decide) rfl rfl 48 (by decide) (hts _ (List.mem_cons_of_mem _ mw_621)) (fun _ h9 => h9) (congrArg (fun z => some (Value.int z)) (show fp_19 0 48 = v_2 from ev_2.symm)) dX12_begins_21 ?_
    refine lv_iconst (v := 1) hx hb dX12_begins_24 (by decide) ?_
    refine lv_iadd hx hb dX12_begins_25 ?_
    refine lv_topi (fun v_5 ev_5 => ?_)
    have q_6 : v_5.toInt = v_2.toInt + 1 := by rw [ev_5]; have k1 : (1 : Int32).toInt = 1 := (by decide); exact (bn_addI (by omega) (by omega)).trans (by omega)
    refine sg_put (ci := 12) (x := v_5) (ty := .int) (C := RX12) (T := TX12) (N := 55) hx hb hts (fun w h => List.mem_cons_of_mem _ (gx_12 w h)) tyX12 tyX12_ok nmX12 hown hh hA hK hP hS 0 (by decide) rfl rfl 48 (by decide) (hts _ (List.mem_cons_of_mem _ mw_621)) (fun _ h9 => h9) rfl rfl (by decide +kernel) rfl rfl (Nat.le_of_ble_eq_true rfl) dX12_begins_26 (fun f_7 H locs ef_7 hP hS => ?_)
    have hI : sgI loM hiM f_7 := by rw [ef_7]; exact sgI.put hI 0 48 (show 0 ≤ (v_5 : Int32).toInt ∧ (v_5 : Int32).toInt ≤ 19 from by omega)
    have hF : sgK WkX12_begins_10_f1 f f_7 := sgK.put hF ef_7 (by rfl)
    have q_8 : (f_7 0 48).toInt = v_5.toInt := (congrArg Int32.toInt (show f_7 0 48 = v_5 from (by rw [ef_7, sg_up_s, sgu_s])))
    have q_9 : (f_7 0 48).toInt = v_5.toInt := (congrArg Int32.toInt (show f_7 0 48 = v_5 from (by rw [ef_7, sg_up_s, sgu_s])))
    exact hret _ _ _ _ f_7 L Q dX12_begins_29 hP hS ⟨⟨hI, hF, rfl, rfl⟩, (by omega)⟩
  refine lv_aload_n hx hb dX12_begins_0 rfl (lv_at hl 0 rfl) ?_
  refine sg_get (ci := 12) (v := .int 1) (C := RX12) (T := TX12) (N := 55) hx hb hts (fun w h => List.mem_cons_of_mem _ (gx_12 w h)) hown hK hP 0 (by decide) rfl rfl 48 (by decide) (hts _ (List.mem_cons_of_mem _ mw_621)) (fun _ h9 => h9) (congrArg (fun z => some (Value.int z)) (show f 0 48 = 1 from hf_0_48)) dX12_begins_1 ?_
  refine lv_bipush (v := 24) hx hb dX12_begins_4 (by decide) ?_
  refine lv_icmp_ge (tgt := 19) hx hb dX12_begins_6 (by decide) (fun c => absurd c (by decide)) (fun c => ?_)
  refine lv_aload_n hx hb dX12_begins_9 rfl (lv_at hl 0 rfl) ?_
  refine sg_get (ci := 12) (v := .ref (h 21)) (C := RX12) (T := TX12) (N := 55) hx hb hts (fun w h => List.mem_cons_of_mem _ (gx_12 w h)) hown hK hP 0 (by decide) rfl rfl 47 (by decide) (hts _ (List.mem_cons_of_mem _ mw_718)) (fun _ h9 => h9) rfl dX12_begins_10 ?_
  refine lv_aload_n hx hb dX12_begins_13 rfl (lv_at hl 0 rfl) ?_
  refine sg_get (ci := 12) (v := .int 1) (C := RX12) (T := TX12) (N := 55) hx hb hts (fun w h => List.mem_cons_of_mem _ (gx_12 w h)) hown hK hP 0 (by decide) rfl rfl 48 (by decide) (hts _ (List.mem_cons_of_mem _ mw_621)) (fun _ h9 => h9) (congrArg (fun z => some (Value.int z)) (show f 0 48 = 1 from hf_0_48)) dX12_begins_14 ?_
  refine lv_iload_n hx hb dX12_begins_17 rfl (lv_at hl 1 rfl) ?_
  refine sg_iast hx hb hh hA hK hP hS 21 (by decide) 0 (fun _ => rfl) rfl (i := 1) (x := 10) (vp_in_iff.mpr (by decide)) dX12_begins_18 (fun f_10 H locs ef_10 hP hS => ?_)
  have hI : sgI loM hiM f_10 := by rw [ef_10]; exact sgI.put hI 21 (Int32.toNatClampNeg 1) (show 0 ≤ (10 : Int32).toInt ∧ (10 : Int32).toInt ≤ 81 from by decide)
  have hF : sgK WkX12_begins_10_f1 f f_10 := sgK.put hF ef_10 (by rfl)
  exact blk_19 f_10 _ _ _ (by have zz0_48 : (f_10 0 48).toInt = 1 := (congrArg Int32.toInt (show f_10 0 48 = 1 from (by rw [ef_10, sg_up_n (by decide)]; exact hf_0_48))).trans (by decide); omega) hI hF hP hS (lv_sub hl [0] rfl)

abbrev WkX12_setsAs_2_f2_f2 : List (Nat × Nat × Option Nat) := [(0, 0, some 48), (21, 21, none)]
set_option maxHeartbeats 4000000 in
set_option maxRecDepth 100000 in
theorem kX12_setsAs_2_f2_f2 (l : Launch) (D : va_G) (ca : Nat → ClassId) (za h : Nat → Nat) (hh : sgH 26 h) (f : sg_F) (L : sg_L) (Q : sg_Q) (hI : sgI loM hiM f) (x1 : Int32) (hf_0_48 : f 0 48 = 2) (hf_0_49 : f 0 49 = 2) (p0 : 2 ≤ (f 0 48).toInt ∧ (f 0 48).toInt ≤ 2) (sz : Nat) : Met l yX12_setsAs gwX12_setsAs { frames := 1, cells := 0, slots := 0, locals := 21 } (sgP D vwCl (tyX ca) 26 h (eM ca h) zcM za f L Q sz [.ref (h 0), .int 2, .int x1]) (sgQi D vwCl 26 h (eM ca h) sz (fun r f1 L1 Q1 => ((sgI loM hiM f1 ∧ sgK WkX12_setsAs_2_f2_f2 f f1 ∧ L1 = L ∧ Q1 = Q) ∧ True ∧ (3 ≤ (f1 0 48).toInt ∧ (f1 0 48).toInt ≤ 3)))) 0 0 (sgA 26 h sz) := by
  refine sg_ofWi (cc := cX12_setsAs) (maxL := 3) RX12 (by decide) rfl rfl (Nat.le_of_ble_eq_true rfl) ?_
  intro p e s m below meth cd Qz ls hx hb hml hown hts hK hZ hP hS hl hret
  have hA := sgY.self (n := 26) (h := h) (sz := s.heap.size)
  have hl : lv_has ls 3 [(0, .ref (h 0)), (1, .int 2), (2, .int x1)] := hl
  obtain ⟨H, hH⟩ : ∃ z : Heap, z = s.heap := ⟨_, rfl⟩
  obtain ⟨locs, hlo⟩ : ∃ z : List Loc, z = [] := ⟨_, rfl⟩
  have hP : va_P D vwCl (sgw 26 h (eM ca h) f L Q) H := by rw [hH]; exact hP
  have hS : va_S (sgA 26 h s.heap.size) s.heap H locs := by rw [hH, hlo]; exact hS
  suffices hgo : W p l e ({ frames := 1, cells := 0, slots := 0, locals := 21 }) s m ([.ref (h 0), .int 2, .int x1] : List Value).toArray below meth cd H locs 0 0 Qz (F0 m 0 ls []) by rw [hH, hlo] at hgo; exact hgo
  clear hH hlo
  have o_1 : (f 0 48).toInt = 2 := (congrArg Int32.toInt (show f 0 48 = 2 from hf_0_48)).trans (by decide)
  have hF : sgK WkX12_setsAs_2_f2_f2 f f := sgK.rf
  refine lv_iload_n hx hb dX12_setsAs_0 rfl (lv_at hl 1 rfl) ?_
  refine lv_iconst (v := 1) hx hb dX12_setsAs_1 (by decide) ?_
  refine lv_icmp_eq (tgt := 16) hx hb dX12_setsAs_2 (by decide) (fun c => absurd c (by decide)) (fun c => ?_)
  refine lv_iload_n hx hb dX12_setsAs_5 rfl (lv_at hl 1 rfl) ?_
  refine lv_iconst (v := 4) hx hb dX12_setsAs_6 (by decide) ?_
  refine lv_icmp_eq (tgt := 16) hx hb dX12_setsAs_7 (by decide) (fun c => absurd c (by decide)) (fun c => ?_)
  refine lv_iload_n hx hb dX12_setsAs_10 rfl (lv_at hl 1 rfl) ?_
  refine lv_bipush (v := 7) hx hb dX12_setsAs_11 (by decide) ?_
  refine lv_icmp_ne (tgt := 31) hx hb dX12_setsAs_13 (by decide) (fun c => ?_) (fun c => absurd c (by decide))
  refine lv_iload_n hx hb dX12_setsAs_31 rfl (lv_at hl 1 rfl) ?_
  refine lv_bipush (v := 6) hx hb dX12_setsAs_32 (by decide) ?_
  refine lv_icmp_ne (tgt := 52) hx hb dX12_setsAs_34 (by decide) (fun c => ?_) (fun c => absurd c (by decide))
  refine lv_aload_n hx hb dX12_setsAs_52 rfl (lv_at hl 0 rfl) ?_
  refine lv_iconst (v := 1) hx hb dX12_setsAs_53 (by decide) ?_
  have q_2 : (f 0 48).toInt = 2 := (congrArg Int32.toInt (show f 0 48 = 2 from hf_0_48)).trans (by decide)
  have q_3 : (f 0 48).toInt = 2 := (congrArg Int32.toInt (show f 0 48 = 2 from hf_0_48)).trans (by decide)
  refine sg_callv (va_runV (As := [.int 1]) (rest := []) ⟨hx, hb, hml, hown, hts⟩ (kX12_begins_1_f2 l D ca za h hh f L Q hI hf_0_48 (by have k0 : (1 : Int32).toInt = 1 := (by decide); omega) H.size) (cwV 1 hts (gw_V (fun _ h => List.mem_cons_of_mem _ h) mw_734 mw_735 mw_736 mw_619 mw_733) rfl rfl rfl (by decide +kernel) ⟨Nat.le_of_ble_eq_true rfl, Nat.le_of_ble_eq_true rfl⟩) (sg_preV (ci := 12) (C := RX12) (T := TX12) (N := 55) hA hK hP hS hZ 0 (by decide) rfl rfl) rfl rfl hl.1 rfl (lv_room (Nat.le_of_ble_eq_true rfl)) dX12_setsAs_54 ⟨Nat.le_refl _, Nat.le_refl _⟩) hA hS (fun f_4 L_5 Q_6 H locs hq hP hS => ?_)
  obtain ⟨⟨hI, hk_f_4, eL9, eQ9⟩, p_7⟩ := hq
  rw [eL9, eQ9] at hP; clear eL9 eQ9
  have hF : sgK WkX12_setsAs_2_f2_f2 f f_4 := sgK.tr hF hk_f_4 (by decide)
  obtain ⟨v_8, ev_8⟩ : ∃ z : Int32, z = f_4 0 48 := ⟨_, rfl⟩
  have q_9 : 0 ≤ v_8.toInt ∧ v_8.toInt ≤ 19 := by rw [ev_8]; exact hI 0 48
  have q_10 : (f_4 0 48).toInt = v_8.toInt := (congrArg Int32.toInt (show f_4 0 48 = v_8 from ev_8.symm))
  have q_11 : (f_4 0 48).toInt = v_8.toInt := (congrArg Int32.toInt (show f_4 0 48 = v_8 from ev_8.symm))
  refine lv_iload_n hx hb dX12_setsAs_57 rfl (lv_at hl 2 rfl) ?_
  refine lv_aload_n hx hb dX12_setsAs_58 rfl (lv_at hl 0 rfl) ?_
  refine sg_get (ci := 12) (v := .int (f_4 0 50)) (C := RX12) (T := TX12) (N := 55) hx hb hts (fun w h => List.mem_cons_of_mem _ (gx_12 w h)) hown hK hP 0 (by decide) rfl rfl 50 (by decide) (hts _ (List.mem_cons_of_mem _ mw_680)) (fun _ h9 => h9) rfl dX12_setsAs_59 ?_
  refine lv_topi (fun v_12 ev_12 => ?_)
  have q_13 : 0 ≤ v_12.toInt ∧ v_12.toInt ≤ 49 := by rw [ev_12]; exact hI 0 50
  refine lv_iadd hx hb dX12_setsAs_62 ?_
  refine lv_topi (fun v_14 ev_14 => ?_)
  have q_15 : (f_4 0 48).toInt = v_8.toInt := (congrArg Int32.toInt (show f_4 0 48 = v_8 from ev_8.symm))
  have q_16 : (f_4 0 48).toInt = v_8.toInt := (congrArg Int32.toInt (show f_4 0 48 = v_8 from ev_8.symm))
  exact hret _ _ _ _ (v_14) f_4 L Q dX12_setsAs_63 hP hS ⟨⟨hI, hF, rfl, rfl⟩, trivial, (by omega)⟩

abbrev WkX12_sitsAs_0_f1_f2 : List (Nat × Nat × Option Nat) := [(0, 0, some 48), (21, 21, none)]
set_option maxHeartbeats 4000000 in
set_option maxRecDepth 100000 in
theorem kX12_sitsAs_0_f1_f2 (l : Launch) (D : va_G) (ca : Nat → ClassId) (za h : Nat → Nat) (hh : sgH 26 h) (f : sg_F) (L : sg_L) (Q : sg_Q) (hI : sgI loM hiM f) (x1 : Int32) (hf_0_48 : f 0 48 = 1) (hf_0_49 : f 0 49 = 2) (p0 : 1 ≤ (f 0 48).toInt ∧ (f 0 48).toInt ≤ 1) (sz : Nat) : Met l yX12_sitsAs gwX12_sitsAs { frames := 2, cells := 0, slots := 0, locals := 43 } (sgP D vwCl (tyX ca) 26 h (eM ca h) zcM za f L Q sz [.ref (h 0), .int 0, .int x1]) (sgQi D vwCl 26 h (eM ca h) sz (fun r f1 L1 Q1 => ((sgI loM hiM f1 ∧ sgK WkX12_sitsAs_0_f1_f2 f f1 ∧ L1 = L ∧ Q1 = Q) ∧ True ∧ (3 ≤ (f1 0 48).toInt ∧ (f1 0 48).toInt ≤ 3)))) 0 0 (sgA 26 h sz) := by
  refine sg_ofWi (cc := cX12_sitsAs) (maxL := 4) RX12 (by decide) rfl rfl (Nat.le_of_ble_eq_true rfl) ?_
  intro p e s m below meth cd Qz ls hx hb hml hown hts hK hZ hP hS hl hret
  have hA := sgY.self (n := 26) (h := h) (sz := s.heap.size)
  have hl : lv_has ls 4 [(0, .ref (h 0)), (1, .int 0), (2, .int x1)] := hl
  obtain ⟨H, hH⟩ : ∃ z : Heap, z = s.heap := ⟨_, rfl⟩
  obtain ⟨locs, hlo⟩ : ∃ z : List Loc, z = [] := ⟨_, rfl⟩
  have hP : va_P D vwCl (sgw 26 h (eM ca h) f L Q) H := by rw [hH]; exact hP
  have hS : va_S (sgA 26 h s.heap.size) s.heap H locs := by rw [hH, hlo]; exact hS
  suffices hgo : W p l e ({ frames := 2, cells := 0, slots := 0, locals := 43 }) s m ([.ref (h 0), .int 0, .int x1] : List Value).toArray below meth cd H locs 0 0 Qz (F0 m 0 ls []) by rw [hH, hlo] at hgo; exact hgo
  clear hH hlo
  have o_1 : (f 0 48).toInt = 1 := (congrArg Int32.toInt (show f 0 48 = 1 from hf_0_48)).trans (by decide)
  have hF : sgK WkX12_sitsAs_0_f1_f2 f f := sgK.rf
  refine lv_iload_n hx hb dX12_sitsAs_0 rfl (lv_at hl 1 rfl) ?_
  refine lv_iconst (v := 3) hx hb dX12_sitsAs_1 (by decide) ?_
  refine lv_icmp_eq (tgt := 10) hx hb dX12_sitsAs_2 (by decide) (fun c => absurd c (by decide)) (fun c => ?_)
  refine lv_iload_n hx hb dX12_sitsAs_5 rfl (lv_at hl 1 rfl) ?_
  refine lv_iconst (v := 5) hx hb dX12_sitsAs_6 (by decide) ?_
  refine lv_icmp_ne (tgt := 25) hx hb dX12_sitsAs_7 (by decide) (fun c => ?_) (fun c => absurd c (by decide))
  refine lv_iload_n hx hb dX12_sitsAs_25 rfl (lv_at hl 1 rfl) ?_
  refine lv_iconst (v := 2) hx hb dX12_sitsAs_26 (by decide) ?_
  refine lv_icmp_ne (tgt := 44) hx hb dX12_sitsAs_27 (by decide) (fun c => ?_) (fun c => absurd c (by decide))
  refine lv_iload_n hx hb dX12_sitsAs_44 rfl (lv_at hl 1 rfl) ?_
  refine lv_bipush (v := 7) hx hb dX12_sitsAs_45 (by decide) ?_
  refine lv_icmp_ne (tgt := 75) hx hb dX12_sitsAs_47 (by decide) (fun c => ?_) (fun c => absurd c (by decide))
  refine lv_aload_n hx hb dX12_sitsAs_75 rfl (lv_at hl 0 rfl) ?_
  refine lv_bipush (v := 10) hx hb dX12_sitsAs_76 (by decide) ?_
  have q_2 : (f 0 48).toInt = 1 := (congrArg Int32.toInt (show f 0 48 = 1 from hf_0_48)).trans (by decide)
  have q_3 : (f 0 48).toInt = 1 := (congrArg Int32.toInt (show f 0 48 = 1 from hf_0_48)).trans (by decide)
  refine sg_callv (va_runV (As := [.int 10]) (rest := []) ⟨hx, hb, hml, hown, hts⟩ (kX12_begins_10_f1 l D ca za h hh f L Q hI hf_0_48 (by have k0 : (10 : Int32).toInt = 10 := (by decide); omega) H.size) (cwV 1 hts (gw_V (fun _ h => List.mem_cons_of_mem _ h) mw_734 mw_735 mw_736 mw_619 mw_733) rfl rfl rfl (by decide +kernel) ⟨Nat.le_of_ble_eq_true rfl, Nat.le_of_ble_eq_true rfl⟩) (sg_preV (ci := 12) (C := RX12) (T := TX12) (N := 55) hA hK hP hS hZ 0 (by decide) rfl rfl) rfl rfl hl.1 rfl (lv_room (Nat.le_of_ble_eq_true rfl)) dX12_sitsAs_78 ⟨Nat.le_refl _, Nat.le_refl _⟩) hA hS (fun f_4 L_5 Q_6 H locs hq hP hS => ?_)
  obtain ⟨⟨hI, hk_f_4, eL9, eQ9⟩, p_7⟩ := hq
  rw [eL9, eQ9] at hP; clear eL9 eQ9
  have hF : sgK WkX12_sitsAs_0_f1_f2 f f_4 := sgK.tr hF hk_f_4 (by decide)
  obtain ⟨v_8, ev_8⟩ : ∃ z : Int32, z = f_4 0 48 := ⟨_, rfl⟩
  have q_9 : 0 ≤ v_8.toInt ∧ v_8.toInt ≤ 19 := by rw [ev_8]; exact hI 0 48
  have q_10 : (f_4 0 48).toInt = v_8.toInt := (congrArg Int32.toInt (show f_4 0 48 = v_8 from ev_8.symm))
  have q_11 : (f_4 0 48).toInt = v_8.toInt := (congrArg Int32.toInt (show f_4 0 48 = v_8 from ev_8.symm))
  refine lv_aload_n hx hb dX12_sitsAs_81 rfl (lv_at hl 0 rfl) ?_
  refine lv_aload_n hx hb dX12_sitsAs_82 rfl (lv_at hl 0 rfl) ?_
  refine sg_get (ci := 12) (v := .int 2) (C := RX12) (T := TX12) (N := 55) hx hb hts (fun w h => List.mem_cons_of_mem _ (gx_12 w h)) hown hK hP 0 (by decide) rfl rfl 49 (by decide) (hts _ (List.mem_cons_of_mem _ mw_679)) (fun _ h9 => h9) (congrArg (fun z => some (Value.int z)) (show f_4 0 49 = 2 from ((hk_f_4 0 49 (by decide)).trans hf_0_49))) dX12_sitsAs_83 ?_
  refine lv_iload_n hx hb dX12_sitsAs_86 rfl (lv_at hl 2 rfl) ?_
  have c_12 : v_8 = 2 := Int32.toInt_inj.mp (by have k9 : (2 : Int32).toInt = 2 := (by decide); omega)
  have q_13 : (f_4 0 48).toInt = 2 := (congrArg Int32.toInt (show f_4 0 48 = 2 from (Eq.trans ev_8.symm c_12))).trans (by decide)
  have q_14 : (f_4 0 48).toInt = 2 := (congrArg Int32.toInt (show f_4 0 48 = 2 from (Eq.trans ev_8.symm c_12))).trans (by decide)
  refine sg_calli (va_runV (As := [.int 2, .int x1]) (rest := []) ⟨hx, hb, hml, hown, hts⟩ (kX12_setsAs_2_f2_f2 l D ca za h hh f_4 L Q hI x1 (Eq.trans ev_8.symm c_12) ((hk_f_4 0 49 (by decide)).trans hf_0_49) (by have k0 : (2 : Int32).toInt = 2 := (by decide); omega) H.size) (cwV 2 hts (gw_V (fun _ h => List.mem_cons_of_mem _ h) mw_744 mw_745 mw_746 mw_619 mw_743) rfl rfl rfl (by decide +kernel) ⟨Nat.le_of_ble_eq_true rfl, Nat.le_of_ble_eq_true rfl⟩) (sg_preV (ci := 12) (C := RX12) (T := TX12) (N := 55) hA hK hP hS hZ 0 (by decide) rfl rfl) rfl rfl hl.1 rfl (lv_room (Nat.le_of_ble_eq_true rfl)) dX12_sitsAs_87 ⟨Nat.le_refl _, Nat.le_refl _⟩) hA hS (fun r_18 f_15 L_16 Q_17 H locs hq hP hS => ?_)
  obtain ⟨⟨hI, hk_f_15, eL9, eQ9⟩, hq, p_19⟩ := hq
  rw [eL9, eQ9] at hP; clear eL9 eQ9
  have hF : sgK WkX12_sitsAs_0_f1_f2 f f_15 := sgK.tr hF hk_f_15 (by decide)
  obtain ⟨v_20, ev_20⟩ : ∃ z : Int32, z = f_15 0 48 := ⟨_, rfl⟩
  have q_21 : 0 ≤ v_20.toInt ∧ v_20.toInt ≤ 19 := by rw [ev_20]; exact hI 0 48
  have q_22 : (f_15 0 48).toInt = v_20.toInt := (congrArg Int32.toInt (show f_15 0 48 = v_20 from ev_20.symm))
  have q_23 : (f_15 0 48).toInt = v_20.toInt := (congrArg Int32.toInt (show f_15 0 48 = v_20 from ev_20.symm))
  have k_24 : (2 : Int32).toInt = 2 := by decide
  refine lv_iconst (v := 2) hx hb dX12_sitsAs_90 (by decide) ?_
  refine lv_imul hx hb dX12_sitsAs_91 ?_
  refine lv_topi (fun v_25 ev_25 => ?_)
  have q_26 : (f_15 0 48).toInt = v_20.toInt := (congrArg Int32.toInt (show f_15 0 48 = v_20 from ev_20.symm))
  have q_27 : (f_15 0 48).toInt = v_20.toInt := (congrArg Int32.toInt (show f_15 0 48 = v_20 from ev_20.symm))
  exact hret _ _ _ _ (v_25) f_15 L Q dX12_sitsAs_92 hP hS ⟨⟨hI, hF, rfl, rfl⟩, trivial, (by omega)⟩

abbrev WkX12_sitsAs_2_f0_f2 : List (Nat × Nat × Option Nat) := [(0, 0, some 48), (21, 21, none)]
set_option maxHeartbeats 4000000 in
set_option maxRecDepth 100000 in
theorem kX12_sitsAs_2_f0_f2 (l : Launch) (D : va_G) (ca : Nat → ClassId) (za h : Nat → Nat) (hh : sgH 26 h) (f : sg_F) (L : sg_L) (Q : sg_Q) (hI : sgI loM hiM f) (x1 : Int32) (hf_0_48 : f 0 48 = 0) (hf_0_49 : f 0 49 = 2) (p0 : 0 ≤ (f 0 48).toInt ∧ (f 0 48).toInt ≤ 0) (sz : Nat) : Met l yX12_sitsAs gwX12_sitsAs { frames := 3, cells := 0, slots := 0, locals := 66 } (sgP D vwCl (tyX ca) 26 h (eM ca h) zcM za f L Q sz [.ref (h 0), .int 2, .int x1]) (sgQi D vwCl 26 h (eM ca h) sz (fun r f1 L1 Q1 => ((sgI loM hiM f1 ∧ sgK WkX12_sitsAs_2_f0_f2 f f1 ∧ L1 = L ∧ Q1 = Q) ∧ True ∧ (3 ≤ (f1 0 48).toInt ∧ (f1 0 48).toInt ≤ 3)))) 0 0 (sgA 26 h sz) := by
  refine sg_ofWi (cc := cX12_sitsAs) (maxL := 4) RX12 (by decide) rfl rfl (Nat.le_of_ble_eq_true rfl) ?_
  intro p e s m below meth cd Qz ls hx hb hml hown hts hK hZ hP hS hl hret
  have hA := sgY.self (n := 26) (h := h) (sz := s.heap.size)
  have hl : lv_has ls 4 [(0, .ref (h 0)), (1, .int 2), (2, .int x1)] := hl
  obtain ⟨H, hH⟩ : ∃ z : Heap, z = s.heap := ⟨_, rfl⟩
  obtain ⟨locs, hlo⟩ : ∃ z : List Loc, z = [] := ⟨_, rfl⟩
  have hP : va_P D vwCl (sgw 26 h (eM ca h) f L Q) H := by rw [hH]; exact hP
  have hS : va_S (sgA 26 h s.heap.size) s.heap H locs := by rw [hH, hlo]; exact hS
  suffices hgo : W p l e ({ frames := 3, cells := 0, slots := 0, locals := 66 }) s m ([.ref (h 0), .int 2, .int x1] : List Value).toArray below meth cd H locs 0 0 Qz (F0 m 0 ls []) by rw [hH, hlo] at hgo; exact hgo
  clear hH hlo
  have o_1 : (f 0 48).toInt = 0 := (congrArg Int32.toInt (show f 0 48 = 0 from hf_0_48)).trans (by decide)
  have hF : sgK WkX12_sitsAs_2_f0_f2 f f := sgK.rf
  refine lv_iload_n hx hb dX12_sitsAs_0 rfl (lv_at hl 1 rfl) ?_
  refine lv_iconst (v := 3) hx hb dX12_sitsAs_1 (by decide) ?_
  refine lv_icmp_eq (tgt := 10) hx hb dX12_sitsAs_2 (by decide) (fun c => absurd c (by decide)) (fun c => ?_)
  refine lv_iload_n hx hb dX12_sitsAs_5 rfl (lv_at hl 1 rfl) ?_
  refine lv_iconst (v := 5) hx hb dX12_sitsAs_6 (by decide) ?_
  refine lv_icmp_ne (tgt := 25) hx hb dX12_sitsAs_7 (by decide) (fun c => ?_) (fun c => absurd c (by decide))
  refine lv_iload_n hx hb dX12_sitsAs_25 rfl (lv_at hl 1 rfl) ?_
  refine lv_iconst (v := 2) hx hb dX12_sitsAs_26 (by decide) ?_
  refine lv_icmp_ne (tgt := 44) hx hb dX12_sitsAs_27 (by decide) (fun c => absurd c (by decide)) (fun c => ?_)
  refine lv_aload_n hx hb dX12_sitsAs_30 rfl (lv_at hl 0 rfl) ?_
  refine lv_bipush (v := 30) hx hb dX12_sitsAs_31 (by decide) ?_
  have q_2 : (f 0 48).toInt = 0 := (congrArg Int32.toInt (show f 0 48 = 0 from hf_0_48)).trans (by decide)
  have q_3 : (f 0 48).toInt = 0 := (congrArg Int32.toInt (show f 0 48 = 0 from hf_0_48)).trans (by decide)
  refine sg_callv (va_runV (As := [.int 30]) (rest := []) ⟨hx, hb, hml, hown, hts⟩ (kX12_begins_30_f0 l D ca za h hh f L Q hI hf_0_48 (by have k0 : (30 : Int32).toInt = 30 := (by decide); omega) H.size) (cwV 1 hts (gw_V (fun _ h => List.mem_cons_of_mem _ h) mw_734 mw_735 mw_736 mw_619 mw_733) rfl rfl rfl (by decide +kernel) ⟨Nat.le_of_ble_eq_true rfl, Nat.le_of_ble_eq_true rfl⟩) (sg_preV (ci := 12) (C := RX12) (T := TX12) (N := 55) hA hK hP hS hZ 0 (by decide) rfl rfl) rfl rfl hl.1 rfl (lv_room (Nat.le_of_ble_eq_true rfl)) dX12_sitsAs_33 ⟨Nat.le_refl _, Nat.le_refl _⟩) hA hS (fun f_4 L_5 Q_6 H locs hq hP hS => ?_)
  obtain ⟨⟨hI, hk_f_4, eL9, eQ9⟩, p_7⟩ := hq
  rw [eL9, eQ9] at hP; clear eL9 eQ9
  have hF : sgK WkX12_sitsAs_2_f0_f2 f f_4 := sgK.tr hF hk_f_4 (by decide)
  obtain ⟨v_8, ev_8⟩ : ∃ z : Int32, z = f_4 0 48 := ⟨_, rfl⟩
  have q_9 : 0 ≤ v_8.toInt ∧ v_8.toInt ≤ 19 := by rw [ev_8]; exact hI 0 48
  have q_10 : (f_4 0 48).toInt = v_8.toInt := (congrArg Int32.toInt (show f_4 0 48 = v_8 from ev_8.symm))
  have q_11 : (f_4 0 48).toInt = v_8.toInt := (congrArg Int32.toInt (show f_4 0 48 = v_8 from ev_8.symm))
  refine lv_aload_n hx hb dX12_sitsAs_36 rfl (lv_at hl 0 rfl) ?_
  refine lv_iconst (v := 0) hx hb dX12_sitsAs_37 (by decide) ?_
  refine lv_iload_n hx hb dX12_sitsAs_38 rfl (lv_at hl 2 rfl) ?_
  have c_12 : v_8 = 1 := Int32.toInt_inj.mp (by have k9 : (1 : Int32).toInt = 1 := (by decide); omega)
  have q_13 : (f_4 0 48).toInt = 1 := (congrArg Int32.toInt (show f_4 0 48 = 1 from (Eq.trans ev_8.symm c_12))).trans (by decide)
  have q_14 : (f_4 0 48).toInt = 1 := (congrArg Int32.toInt (show f_4 0 48 = 1 from (Eq.trans ev_8.symm c_12))).trans (by decide)
  refine sg_calli (va_runV (As := [.int 0, .int x1]) (rest := []) ⟨hx, hb, hml, hown, hts⟩ (kX12_sitsAs_0_f1_f2 l D ca za h hh f_4 L Q hI x1 (Eq.trans ev_8.symm c_12) ((hk_f_4 0 49 (by decide)).trans hf_0_49) (by have k0 : (0 : Int32).toInt = 0 := (by decide); omega) H.size) (cwV 2 hts (gw_V (fun _ h => List.mem_cons_of_mem _ h) mw_801 mw_802 mw_803 mw_619 mw_800) rfl rfl rfl (by decide +kernel) ⟨Nat.le_of_ble_eq_true rfl, Nat.le_of_ble_eq_true rfl⟩) (sg_preV (ci := 12) (C := RX12) (T := TX12) (N := 55) hA hK hP hS hZ 0 (by decide) rfl rfl) rfl rfl hl.1 rfl (lv_room (Nat.le_of_ble_eq_true rfl)) dX12_sitsAs_39 ⟨Nat.le_refl _, Nat.le_refl _⟩) hA hS (fun r_18 f_15 L_16 Q_17 H locs hq hP hS => ?_)
  obtain ⟨⟨hI, hk_f_15, eL9, eQ9⟩, hq, p_19⟩ := hq
  rw [eL9, eQ9] at hP; clear eL9 eQ9
  have hF : sgK WkX12_sitsAs_2_f0_f2 f f_15 := sgK.tr hF hk_f_15 (by decide)
  obtain ⟨v_20, ev_20⟩ : ∃ z : Int32, z = f_15 0 48 := ⟨_, rfl⟩
  have q_21 : 0 ≤ v_20.toInt ∧ v_20.toInt ≤ 19 := by rw [ev_20]; exact hI 0 48
  have q_22 : (f_15 0 48).toInt = v_20.toInt := (congrArg Int32.toInt (show f_15 0 48 = v_20 from ev_20.symm))
  have q_23 : (f_15 0 48).toInt = v_20.toInt := (congrArg Int32.toInt (show f_15 0 48 = v_20 from ev_20.symm))
  have k_24 : (0 : Int32).toInt = 0 := by decide
  refine lv_ineg hx hb dX12_sitsAs_42 ?_
  refine lv_topi (fun v_25 ev_25 => ?_)
  have q_26 : (f_15 0 48).toInt = v_20.toInt := (congrArg Int32.toInt (show f_15 0 48 = v_20 from ev_20.symm))
  have q_27 : (f_15 0 48).toInt = v_20.toInt := (congrArg Int32.toInt (show f_15 0 48 = v_20 from ev_20.symm))
  exact hret _ _ _ _ (v_25) f_15 L Q dX12_sitsAs_43 hP hS ⟨⟨hI, hF, rfl, rfl⟩, trivial, (by omega)⟩

abbrev WkX12_begins_41_f0 : List (Nat × Nat × Option Nat) := [(0, 0, some 48), (21, 21, none)]
set_option maxHeartbeats 4000000 in
set_option maxRecDepth 100000 in
theorem kX12_begins_41_f0 (l : Launch) (D : va_G) (ca : Nat → ClassId) (za h : Nat → Nat) (hh : sgH 26 h) (f : sg_F) (L : sg_L) (Q : sg_Q) (hI : sgI loM hiM f) (hf_0_48 : f 0 48 = 0) (p0 : 0 ≤ (f 0 48).toInt ∧ (f 0 48).toInt ≤ 0) (sz : Nat) : Met l yX12_begins gwX12_begins { frames := 0, cells := 0, slots := 0, locals := 0 } (sgP D vwCl (tyX ca) 26 h (eM ca h) zcM za f L Q sz [.ref (h 0), .int 41]) (sgQv D vwCl 26 h (eM ca h) sz (fun f1 L1 Q1 => ((sgI loM hiM f1 ∧ sgK WkX12_begins_41_f0 f f1 ∧ L1 = L ∧ Q1 = Q) ∧ (1 ≤ (f1 0 48).toInt ∧ (f1 0 48).toInt ≤ 1)))) 0 0 (sgA 26 h sz) := by
  refine sg_ofWv (cc := cX12_begins) (maxL := 2) RX12 (by decide) rfl rfl (Nat.le_of_ble_eq_true rfl) ?_
  intro p e s m below meth cd Qz ls hx hb hml hown hts hK hZ hP hS hl hret
  have hA := sgY.self (n := 26) (h := h) (sz := s.heap.size)
  have hl : lv_has ls 2 [(0, .ref (h 0)), (1, .int 41)] := hl
  obtain ⟨H, hH⟩ : ∃ z : Heap, z = s.heap := ⟨_, rfl⟩
  obtain ⟨locs, hlo⟩ : ∃ z : List Loc, z = [] := ⟨_, rfl⟩
  have hP : va_P D vwCl (sgw 26 h (eM ca h) f L Q) H := by rw [hH]; exact hP
  have hS : va_S (sgA 26 h s.heap.size) s.heap H locs := by rw [hH, hlo]; exact hS
  suffices hgo : W p l e ({ frames := 0, cells := 0, slots := 0, locals := 0 }) s m ([.ref (h 0), .int 41] : List Value).toArray below meth cd H locs 0 0 Qz (F0 m 0 ls []) by rw [hH, hlo] at hgo; exact hgo
  clear hH hlo
  have o_1 : (f 0 48).toInt = 0 := (congrArg Int32.toInt (show f 0 48 = 0 from hf_0_48)).trans (by decide)
  have hF : sgK WkX12_begins_41_f0 f f := sgK.rf
  have blk_19 : ∀ (fp_19 : sg_F) (H : Heap) (locs : List Loc) (ls : Array Slot), 0 ≤ (fp_19 0 48).toInt ∧ (fp_19 0 48).toInt ≤ 0 → sgI loM hiM fp_19 → sgK WkX12_begins_41_f0 f fp_19 → va_P D vwCl (sgw 26 h (eM ca h) fp_19 L Q) H → va_S (sgA 26 h s.heap.size) s.heap H locs → lv_has ls 2 [(0, .ref (h 0))] → W p l e ({ frames := 0, cells := 0, slots := 0, locals := 0 }) s m ([.ref (h 0), .int 41] : List Value).toArray below meth cd H locs 0 0 Qz (F0 m 19 ls []) := by
    intro fp_19 H locs ls hy0_19 hI hF hP hS hl
    obtain ⟨v_2, ev_2⟩ : ∃ z : Int32, z = fp_19 0 48 := ⟨_, rfl⟩
    have q_3 : 0 ≤ v_2.toInt ∧ v_2.toInt ≤ 19 := by rw [ev_2]; exact hI 0 48
    have q_4 : (fp_19 0 48).toInt = v_2.toInt := by rw [ev_2]
    refine lv_aload_n hx hb dX12_begins_19 rfl (lv_at hl 0 rfl) ?_
    refine lv_dup hx hb dX12_begins_20 rfl ?_
    refine sg_get (ci := 12) (v := .int v_2) (C := RX12) (T := TX12) (N := 55) hx hb hts (fun w h => List.mem_cons_of_mem _ (gx_12 w h)) hown hK hP 0 (by decide) rfl rfl 48 (by decide) (hts _ (List.mem_cons_of_mem _ mw_621)) (fun _ h9 => h9) (congrArg (fun z => some (Value.int z)) (show fp_19 0 48 = v_2 from ev_2.symm)) dX12_begins_21 ?_
    refine lv_iconst (v := 1) hx hb dX12_begins_24 (by decide) ?_
    refine lv_iadd hx hb dX12_begins_25 ?_
    refine lv_topi (fun v_5 ev_5 => ?_)
    have q_6 : v_5.toInt = v_2.toInt + 1 := by rw [ev_5]; have k1 : (1 : Int32).toInt = 1 := (by decide); exact (bn_addI (by omega) (by omega)).trans (by omega)
    refine sg_put (ci := 12) (x := v_5) (ty := .int) (C := RX12) (T := TX12) (N := 55) hx hb hts (fun w h => List.mem_cons_of_mem _ (gx_12 w h)) tyX12 tyX12_ok nmX12 hown hh hA hK hP hS 0 (by decide) rfl rfl 48 (by decide) (hts _ (List.mem_cons_of_mem _ mw_621)) (fun _ h9 => h9) rfl rfl (by decide +kernel) rfl rfl (Nat.le_of_ble_eq_true rfl) dX12_begins_26 (fun f_7 H locs ef_7 hP hS => ?_)
    have hI : sgI loM hiM f_7 := by rw [ef_7]; exact sgI.put hI 0 48 (show 0 ≤ (v_5 : Int32).toInt ∧ (v_5 : Int32).toInt ≤ 19 from by omega)
    have hF : sgK WkX12_begins_41_f0 f f_7 := sgK.put hF ef_7 (by rfl)
    have q_8 : (f_7 0 48).toInt = v_5.toInt := (congrArg Int32.toInt (show f_7 0 48 = v_5 from (by rw [ef_7, sg_up_s, sgu_s])))
    have q_9 : (f_7 0 48).toInt = v_5.toInt := (congrArg Int32.toInt (show f_7 0 48 = v_5 from (by rw [ef_7, sg_up_s, sgu_s])))
    exact hret _ _ _ _ f_7 L Q dX12_begins_29 hP hS ⟨⟨hI, hF, rfl, rfl⟩, (by omega)⟩
  refine lv_aload_n hx hb dX12_begins_0 rfl (lv_at hl 0 rfl) ?_
  refine sg_get (ci := 12) (v := .int 0) (C := RX12) (T := TX12) (N := 55) hx hb hts (fun w h => List.mem_cons_of_mem _ (gx_12 w h)) hown hK hP 0 (by decide) rfl rfl 48 (by decide) (hts _ (List.mem_cons_of_mem _ mw_621)) (fun _ h9 => h9) (congrArg (fun z => some (Value.int z)) (show f 0 48 = 0 from hf_0_48)) dX12_begins_1 ?_
  refine lv_bipush (v := 24) hx hb dX12_begins_4 (by decide) ?_
  refine lv_icmp_ge (tgt := 19) hx hb dX12_begins_6 (by decide) (fun c => absurd c (by decide)) (fun c => ?_)
  refine lv_aload_n hx hb dX12_begins_9 rfl (lv_at hl 0 rfl) ?_
  refine sg_get (ci := 12) (v := .ref (h 21)) (C := RX12) (T := TX12) (N := 55) hx hb hts (fun w h => List.mem_cons_of_mem _ (gx_12 w h)) hown hK hP 0 (by decide) rfl rfl 47 (by decide) (hts _ (List.mem_cons_of_mem _ mw_718)) (fun _ h9 => h9) rfl dX12_begins_10 ?_
  refine lv_aload_n hx hb dX12_begins_13 rfl (lv_at hl 0 rfl) ?_
  refine sg_get (ci := 12) (v := .int 0) (C := RX12) (T := TX12) (N := 55) hx hb hts (fun w h => List.mem_cons_of_mem _ (gx_12 w h)) hown hK hP 0 (by decide) rfl rfl 48 (by decide) (hts _ (List.mem_cons_of_mem _ mw_621)) (fun _ h9 => h9) (congrArg (fun z => some (Value.int z)) (show f 0 48 = 0 from hf_0_48)) dX12_begins_14 ?_
  refine lv_iload_n hx hb dX12_begins_17 rfl (lv_at hl 1 rfl) ?_
  refine sg_iast hx hb hh hA hK hP hS 21 (by decide) 0 (fun _ => rfl) rfl (i := 0) (x := 41) (vp_in_iff.mpr (by decide)) dX12_begins_18 (fun f_10 H locs ef_10 hP hS => ?_)
  have hI : sgI loM hiM f_10 := by rw [ef_10]; exact sgI.put hI 21 (Int32.toNatClampNeg 0) (show 0 ≤ (41 : Int32).toInt ∧ (41 : Int32).toInt ≤ 81 from by decide)
  have hF : sgK WkX12_begins_41_f0 f f_10 := sgK.put hF ef_10 (by rfl)
  exact blk_19 f_10 _ _ _ (by have zz0_48 : (f_10 0 48).toInt = 0 := (congrArg Int32.toInt (show f_10 0 48 = 0 from (by rw [ef_10, sg_up_n (by decide)]; exact hf_0_48))).trans (by decide); omega) hI hF hP hS (lv_sub hl [0] rfl)

abbrev WkX12_begins_30_f1 : List (Nat × Nat × Option Nat) := [(0, 0, some 48), (21, 21, none)]
set_option maxHeartbeats 4000000 in
set_option maxRecDepth 100000 in
theorem kX12_begins_30_f1 (l : Launch) (D : va_G) (ca : Nat → ClassId) (za h : Nat → Nat) (hh : sgH 26 h) (f : sg_F) (L : sg_L) (Q : sg_Q) (hI : sgI loM hiM f) (hf_0_48 : f 0 48 = 1) (p0 : 1 ≤ (f 0 48).toInt ∧ (f 0 48).toInt ≤ 1) (sz : Nat) : Met l yX12_begins gwX12_begins { frames := 0, cells := 0, slots := 0, locals := 0 } (sgP D vwCl (tyX ca) 26 h (eM ca h) zcM za f L Q sz [.ref (h 0), .int 30]) (sgQv D vwCl 26 h (eM ca h) sz (fun f1 L1 Q1 => ((sgI loM hiM f1 ∧ sgK WkX12_begins_30_f1 f f1 ∧ L1 = L ∧ Q1 = Q) ∧ (2 ≤ (f1 0 48).toInt ∧ (f1 0 48).toInt ≤ 2)))) 0 0 (sgA 26 h sz) := by
  refine sg_ofWv (cc := cX12_begins) (maxL := 2) RX12 (by decide) rfl rfl (Nat.le_of_ble_eq_true rfl) ?_
  intro p e s m below meth cd Qz ls hx hb hml hown hts hK hZ hP hS hl hret
  have hA := sgY.self (n := 26) (h := h) (sz := s.heap.size)
  have hl : lv_has ls 2 [(0, .ref (h 0)), (1, .int 30)] := hl
  obtain ⟨H, hH⟩ : ∃ z : Heap, z = s.heap := ⟨_, rfl⟩
  obtain ⟨locs, hlo⟩ : ∃ z : List Loc, z = [] := ⟨_, rfl⟩
  have hP : va_P D vwCl (sgw 26 h (eM ca h) f L Q) H := by rw [hH]; exact hP
  have hS : va_S (sgA 26 h s.heap.size) s.heap H locs := by rw [hH, hlo]; exact hS
  suffices hgo : W p l e ({ frames := 0, cells := 0, slots := 0, locals := 0 }) s m ([.ref (h 0), .int 30] : List Value).toArray below meth cd H locs 0 0 Qz (F0 m 0 ls []) by rw [hH, hlo] at hgo; exact hgo
  clear hH hlo
  have o_1 : (f 0 48).toInt = 1 := (congrArg Int32.toInt (show f 0 48 = 1 from hf_0_48)).trans (by decide)
  have hF : sgK WkX12_begins_30_f1 f f := sgK.rf
  have blk_19 : ∀ (fp_19 : sg_F) (H : Heap) (locs : List Loc) (ls : Array Slot), 1 ≤ (fp_19 0 48).toInt ∧ (fp_19 0 48).toInt ≤ 1 → sgI loM hiM fp_19 → sgK WkX12_begins_30_f1 f fp_19 → va_P D vwCl (sgw 26 h (eM ca h) fp_19 L Q) H → va_S (sgA 26 h s.heap.size) s.heap H locs → lv_has ls 2 [(0, .ref (h 0))] → W p l e ({ frames := 0, cells := 0, slots := 0, locals := 0 }) s m ([.ref (h 0), .int 30] : List Value).toArray below meth cd H locs 0 0 Qz (F0 m 19 ls []) := by
    intro fp_19 H locs ls hy0_19 hI hF hP hS hl
    obtain ⟨v_2, ev_2⟩ : ∃ z : Int32, z = fp_19 0 48 := ⟨_, rfl⟩
    have q_3 : 0 ≤ v_2.toInt ∧ v_2.toInt ≤ 19 := by rw [ev_2]; exact hI 0 48
    have q_4 : (fp_19 0 48).toInt = v_2.toInt := by rw [ev_2]
    refine lv_aload_n hx hb dX12_begins_19 rfl (lv_at hl 0 rfl) ?_
    refine lv_dup hx hb dX12_begins_20 rfl ?_
    refine sg_get (ci := 12) (v := .int v_2) (C := RX12) (T := TX12) (N := 55) hx hb hts (fun w h => List.mem_cons_of_mem _ (gx_12 w h)) hown hK hP 0 (by decide) rfl rfl 48 (by decide) (hts _ (List.mem_cons_of_mem _ mw_621)) (fun _ h9 => h9) (congrArg (fun z => some (Value.int z)) (show fp_19 0 48 = v_2 from ev_2.symm)) dX12_begins_21 ?_
    refine lv_iconst (v := 1) hx hb dX12_begins_24 (by decide) ?_
    refine lv_iadd hx hb dX12_begins_25 ?_
    refine lv_topi (fun v_5 ev_5 => ?_)
    have q_6 : v_5.toInt = v_2.toInt + 1 := by rw [ev_5]; have k1 : (1 : Int32).toInt = 1 := (by decide); exact (bn_addI (by omega) (by omega)).trans (by omega)
    refine sg_put (ci := 12) (x := v_5) (ty := .int) (C := RX12) (T := TX12) (N := 55) hx hb hts (fun w h => List.mem_cons_of_mem _ (gx_12 w h)) tyX12 tyX12_ok nmX12 hown hh hA hK hP hS 0 (by decide) rfl rfl 48 (by decide) (hts _ (List.mem_cons_of_mem _ mw_621)) (fun _ h9 => h9) rfl rfl (by decide +kernel) rfl rfl (Nat.le_of_ble_eq_true rfl) dX12_begins_26 (fun f_7 H locs ef_7 hP hS => ?_)
    have hI : sgI loM hiM f_7 := by rw [ef_7]; exact sgI.put hI 0 48 (show 0 ≤ (v_5 : Int32).toInt ∧ (v_5 : Int32).toInt ≤ 19 from by omega)
    have hF : sgK WkX12_begins_30_f1 f f_7 := sgK.put hF ef_7 (by rfl)
    have q_8 : (f_7 0 48).toInt = v_5.toInt := (congrArg Int32.toInt (show f_7 0 48 = v_5 from (by rw [ef_7, sg_up_s, sgu_s])))
    have q_9 : (f_7 0 48).toInt = v_5.toInt := (congrArg Int32.toInt (show f_7 0 48 = v_5 from (by rw [ef_7, sg_up_s, sgu_s])))
    exact hret _ _ _ _ f_7 L Q dX12_begins_29 hP hS ⟨⟨hI, hF, rfl, rfl⟩, (by omega)⟩
  refine lv_aload_n hx hb dX12_begins_0 rfl (lv_at hl 0 rfl) ?_
  refine sg_get (ci := 12) (v := .int 1) (C := RX12) (T := TX12) (N := 55) hx hb hts (fun w h => List.mem_cons_of_mem _ (gx_12 w h)) hown hK hP 0 (by decide) rfl rfl 48 (by decide) (hts _ (List.mem_cons_of_mem _ mw_621)) (fun _ h9 => h9) (congrArg (fun z => some (Value.int z)) (show f 0 48 = 1 from hf_0_48)) dX12_begins_1 ?_
  refine lv_bipush (v := 24) hx hb dX12_begins_4 (by decide) ?_
  refine lv_icmp_ge (tgt := 19) hx hb dX12_begins_6 (by decide) (fun c => absurd c (by decide)) (fun c => ?_)
  refine lv_aload_n hx hb dX12_begins_9 rfl (lv_at hl 0 rfl) ?_
  refine sg_get (ci := 12) (v := .ref (h 21)) (C := RX12) (T := TX12) (N := 55) hx hb hts (fun w h => List.mem_cons_of_mem _ (gx_12 w h)) hown hK hP 0 (by decide) rfl rfl 47 (by decide) (hts _ (List.mem_cons_of_mem _ mw_718)) (fun _ h9 => h9) rfl dX12_begins_10 ?_
  refine lv_aload_n hx hb dX12_begins_13 rfl (lv_at hl 0 rfl) ?_
  refine sg_get (ci := 12) (v := .int 1) (C := RX12) (T := TX12) (N := 55) hx hb hts (fun w h => List.mem_cons_of_mem _ (gx_12 w h)) hown hK hP 0 (by decide) rfl rfl 48 (by decide) (hts _ (List.mem_cons_of_mem _ mw_621)) (fun _ h9 => h9) (congrArg (fun z => some (Value.int z)) (show f 0 48 = 1 from hf_0_48)) dX12_begins_14 ?_
  refine lv_iload_n hx hb dX12_begins_17 rfl (lv_at hl 1 rfl) ?_
  refine sg_iast hx hb hh hA hK hP hS 21 (by decide) 0 (fun _ => rfl) rfl (i := 1) (x := 30) (vp_in_iff.mpr (by decide)) dX12_begins_18 (fun f_10 H locs ef_10 hP hS => ?_)
  have hI : sgI loM hiM f_10 := by rw [ef_10]; exact sgI.put hI 21 (Int32.toNatClampNeg 1) (show 0 ≤ (30 : Int32).toInt ∧ (30 : Int32).toInt ≤ 81 from by decide)
  have hF : sgK WkX12_begins_30_f1 f f_10 := sgK.put hF ef_10 (by rfl)
  exact blk_19 f_10 _ _ _ (by have zz0_48 : (f_10 0 48).toInt = 1 := (congrArg Int32.toInt (show f_10 0 48 = 1 from (by rw [ef_10, sg_up_n (by decide)]; exact hf_0_48))).trans (by decide); omega) hI hF hP hS (lv_sub hl [0] rfl)

abbrev WkX12_begins_10_f2 : List (Nat × Nat × Option Nat) := [(0, 0, some 48), (21, 21, none)]
set_option maxHeartbeats 4000000 in
set_option maxRecDepth 100000 in
theorem kX12_begins_10_f2 (l : Launch) (D : va_G) (ca : Nat → ClassId) (za h : Nat → Nat) (hh : sgH 26 h) (f : sg_F) (L : sg_L) (Q : sg_Q) (hI : sgI loM hiM f) (hf_0_48 : f 0 48 = 2) (p0 : 2 ≤ (f 0 48).toInt ∧ (f 0 48).toInt ≤ 2) (sz : Nat) : Met l yX12_begins gwX12_begins { frames := 0, cells := 0, slots := 0, locals := 0 } (sgP D vwCl (tyX ca) 26 h (eM ca h) zcM za f L Q sz [.ref (h 0), .int 10]) (sgQv D vwCl 26 h (eM ca h) sz (fun f1 L1 Q1 => ((sgI loM hiM f1 ∧ sgK WkX12_begins_10_f2 f f1 ∧ L1 = L ∧ Q1 = Q) ∧ (3 ≤ (f1 0 48).toInt ∧ (f1 0 48).toInt ≤ 3)))) 0 0 (sgA 26 h sz) := by
  refine sg_ofWv (cc := cX12_begins) (maxL := 2) RX12 (by decide) rfl rfl (Nat.le_of_ble_eq_true rfl) ?_
  intro p e s m below meth cd Qz ls hx hb hml hown hts hK hZ hP hS hl hret
  have hA := sgY.self (n := 26) (h := h) (sz := s.heap.size)
  have hl : lv_has ls 2 [(0, .ref (h 0)), (1, .int 10)] := hl
  obtain ⟨H, hH⟩ : ∃ z : Heap, z = s.heap := ⟨_, rfl⟩
  obtain ⟨locs, hlo⟩ : ∃ z : List Loc, z = [] := ⟨_, rfl⟩
  have hP : va_P D vwCl (sgw 26 h (eM ca h) f L Q) H := by rw [hH]; exact hP
  have hS : va_S (sgA 26 h s.heap.size) s.heap H locs := by rw [hH, hlo]; exact hS
  suffices hgo : W p l e ({ frames := 0, cells := 0, slots := 0, locals := 0 }) s m ([.ref (h 0), .int 10] : List Value).toArray below meth cd H locs 0 0 Qz (F0 m 0 ls []) by rw [hH, hlo] at hgo; exact hgo
  clear hH hlo
  have o_1 : (f 0 48).toInt = 2 := (congrArg Int32.toInt (show f 0 48 = 2 from hf_0_48)).trans (by decide)
  have hF : sgK WkX12_begins_10_f2 f f := sgK.rf
  have blk_19 : ∀ (fp_19 : sg_F) (H : Heap) (locs : List Loc) (ls : Array Slot), 2 ≤ (fp_19 0 48).toInt ∧ (fp_19 0 48).toInt ≤ 2 → sgI loM hiM fp_19 → sgK WkX12_begins_10_f2 f fp_19 → va_P D vwCl (sgw 26 h (eM ca h) fp_19 L Q) H → va_S (sgA 26 h s.heap.size) s.heap H locs → lv_has ls 2 [(0, .ref (h 0))] → W p l e ({ frames := 0, cells := 0, slots := 0, locals := 0 }) s m ([.ref (h 0), .int 10] : List Value).toArray below meth cd H locs 0 0 Qz (F0 m 19 ls []) := by
    intro fp_19 H locs ls hy0_19 hI hF hP hS hl
    obtain ⟨v_2, ev_2⟩ : ∃ z : Int32, z = fp_19 0 48 := ⟨_, rfl⟩
    have q_3 : 0 ≤ v_2.toInt ∧ v_2.toInt ≤ 19 := by rw [ev_2]; exact hI 0 48
    have q_4 : (fp_19 0 48).toInt = v_2.toInt := by rw [ev_2]
    refine lv_aload_n hx hb dX12_begins_19 rfl (lv_at hl 0 rfl) ?_
    refine lv_dup hx hb dX12_begins_20 rfl ?_
    refine sg_get (ci := 12) (v := .int v_2) (C := RX12) (T := TX12) (N := 55) hx hb hts (fun w h => List.mem_cons_of_mem _ (gx_12 w h)) hown hK hP 0 (by decide) rfl rfl 48 (by decide) (hts _ (List.mem_cons_of_mem _ mw_621)) (fun _ h9 => h9) (congrArg (fun z => some (Value.int z)) (show fp_19 0 48 = v_2 from ev_2.symm)) dX12_begins_21 ?_
    refine lv_iconst (v := 1) hx hb dX12_begins_24 (by decide) ?_
    refine lv_iadd hx hb dX12_begins_25 ?_
    refine lv_topi (fun v_5 ev_5 => ?_)
    have q_6 : v_5.toInt = v_2.toInt + 1 := by rw [ev_5]; have k1 : (1 : Int32).toInt = 1 := (by decide); exact (bn_addI (by omega) (by omega)).trans (by omega)
    refine sg_put (ci := 12) (x := v_5) (ty := .int) (C := RX12) (T := TX12) (N := 55) hx hb hts (fun w h => List.mem_cons_of_mem _ (gx_12 w h)) tyX12 tyX12_ok nmX12 hown hh hA hK hP hS 0 (by decide) rfl rfl 48 (by decide) (hts _ (List.mem_cons_of_mem _ mw_621)) (fun _ h9 => h9) rfl rfl (by decide +kernel) rfl rfl (Nat.le_of_ble_eq_true rfl) dX12_begins_26 (fun f_7 H locs ef_7 hP hS => ?_)
    have hI : sgI loM hiM f_7 := by rw [ef_7]; exact sgI.put hI 0 48 (show 0 ≤ (v_5 : Int32).toInt ∧ (v_5 : Int32).toInt ≤ 19 from by omega)
    have hF : sgK WkX12_begins_10_f2 f f_7 := sgK.put hF ef_7 (by rfl)
    have q_8 : (f_7 0 48).toInt = v_5.toInt := (congrArg Int32.toInt (show f_7 0 48 = v_5 from (by rw [ef_7, sg_up_s, sgu_s])))
    have q_9 : (f_7 0 48).toInt = v_5.toInt := (congrArg Int32.toInt (show f_7 0 48 = v_5 from (by rw [ef_7, sg_up_s, sgu_s])))
    exact hret _ _ _ _ f_7 L Q dX12_begins_29 hP hS ⟨⟨hI, hF, rfl, rfl⟩, (by omega)⟩
  refine lv_aload_n hx hb dX12_begins_0 rfl (lv_at hl 0 rfl) ?_
  refine sg_get (ci := 12) (v := .int 2) (C := RX12) (T := TX12) (N := 55) hx hb hts (fun w h => List.mem_cons_of_mem _ (gx_12 w h)) hown hK hP 0 (by decide) rfl rfl 48 (by decide) (hts _ (List.mem_cons_of_mem _ mw_621)) (fun _ h9 => h9) (congrArg (fun z => some (Value.int z)) (show f 0 48 = 2 from hf_0_48)) dX12_begins_1 ?_
  refine lv_bipush (v := 24) hx hb dX12_begins_4 (by decide) ?_
  refine lv_icmp_ge (tgt := 19) hx hb dX12_begins_6 (by decide) (fun c => absurd c (by decide)) (fun c => ?_)
  refine lv_aload_n hx hb dX12_begins_9 rfl (lv_at hl 0 rfl) ?_
  refine sg_get (ci := 12) (v := .ref (h 21)) (C := RX12) (T := TX12) (N := 55) hx hb hts (fun w h => List.mem_cons_of_mem _ (gx_12 w h)) hown hK hP 0 (by decide) rfl rfl 47 (by decide) (hts _ (List.mem_cons_of_mem _ mw_718)) (fun _ h9 => h9) rfl dX12_begins_10 ?_
  refine lv_aload_n hx hb dX12_begins_13 rfl (lv_at hl 0 rfl) ?_
  refine sg_get (ci := 12) (v := .int 2) (C := RX12) (T := TX12) (N := 55) hx hb hts (fun w h => List.mem_cons_of_mem _ (gx_12 w h)) hown hK hP 0 (by decide) rfl rfl 48 (by decide) (hts _ (List.mem_cons_of_mem _ mw_621)) (fun _ h9 => h9) (congrArg (fun z => some (Value.int z)) (show f 0 48 = 2 from hf_0_48)) dX12_begins_14 ?_
  refine lv_iload_n hx hb dX12_begins_17 rfl (lv_at hl 1 rfl) ?_
  refine sg_iast hx hb hh hA hK hP hS 21 (by decide) 0 (fun _ => rfl) rfl (i := 2) (x := 10) (vp_in_iff.mpr (by decide)) dX12_begins_18 (fun f_10 H locs ef_10 hP hS => ?_)
  have hI : sgI loM hiM f_10 := by rw [ef_10]; exact sgI.put hI 21 (Int32.toNatClampNeg 2) (show 0 ≤ (10 : Int32).toInt ∧ (10 : Int32).toInt ≤ 81 from by decide)
  have hF : sgK WkX12_begins_10_f2 f f_10 := sgK.put hF ef_10 (by rfl)
  exact blk_19 f_10 _ _ _ (by have zz0_48 : (f_10 0 48).toInt = 2 := (congrArg Int32.toInt (show f_10 0 48 = 2 from (by rw [ef_10, sg_up_n (by decide)]; exact hf_0_48))).trans (by decide); omega) hI hF hP hS (lv_sub hl [0] rfl)

abbrev WkX12_begins_1_f3 : List (Nat × Nat × Option Nat) := [(0, 0, some 48), (21, 21, none)]
set_option maxHeartbeats 4000000 in
set_option maxRecDepth 100000 in
theorem kX12_begins_1_f3 (l : Launch) (D : va_G) (ca : Nat → ClassId) (za h : Nat → Nat) (hh : sgH 26 h) (f : sg_F) (L : sg_L) (Q : sg_Q) (hI : sgI loM hiM f) (hf_0_48 : f 0 48 = 3) (p0 : 3 ≤ (f 0 48).toInt ∧ (f 0 48).toInt ≤ 3) (sz : Nat) : Met l yX12_begins gwX12_begins { frames := 0, cells := 0, slots := 0, locals := 0 } (sgP D vwCl (tyX ca) 26 h (eM ca h) zcM za f L Q sz [.ref (h 0), .int 1]) (sgQv D vwCl 26 h (eM ca h) sz (fun f1 L1 Q1 => ((sgI loM hiM f1 ∧ sgK WkX12_begins_1_f3 f f1 ∧ L1 = L ∧ Q1 = Q) ∧ (4 ≤ (f1 0 48).toInt ∧ (f1 0 48).toInt ≤ 4)))) 0 0 (sgA 26 h sz) := by
  refine sg_ofWv (cc := cX12_begins) (maxL := 2) RX12 (by decide) rfl rfl (Nat.le_of_ble_eq_true rfl) ?_
  intro p e s m below meth cd Qz ls hx hb hml hown hts hK hZ hP hS hl hret
  have hA := sgY.self (n := 26) (h := h) (sz := s.heap.size)
  have hl : lv_has ls 2 [(0, .ref (h 0)), (1, .int 1)] := hl
  obtain ⟨H, hH⟩ : ∃ z : Heap, z = s.heap := ⟨_, rfl⟩
  obtain ⟨locs, hlo⟩ : ∃ z : List Loc, z = [] := ⟨_, rfl⟩
  have hP : va_P D vwCl (sgw 26 h (eM ca h) f L Q) H := by rw [hH]; exact hP
  have hS : va_S (sgA 26 h s.heap.size) s.heap H locs := by rw [hH, hlo]; exact hS
  suffices hgo : W p l e ({ frames := 0, cells := 0, slots := 0, locals := 0 }) s m ([.ref (h 0), .int 1] : List Value).toArray below meth cd H locs 0 0 Qz (F0 m 0 ls []) by rw [hH, hlo] at hgo; exact hgo
  clear hH hlo
  have o_1 : (f 0 48).toInt = 3 := (congrArg Int32.toInt (show f 0 48 = 3 from hf_0_48)).trans (by decide)
  have hF : sgK WkX12_begins_1_f3 f f := sgK.rf
  have blk_19 : ∀ (fp_19 : sg_F) (H : Heap) (locs : List Loc) (ls : Array Slot), 3 ≤ (fp_19 0 48).toInt ∧ (fp_19 0 48).toInt ≤ 3 → sgI loM hiM fp_19 → sgK WkX12_begins_1_f3 f fp_19 → va_P D vwCl (sgw 26 h (eM ca h) fp_19 L Q) H → va_S (sgA 26 h s.heap.size) s.heap H locs → lv_has ls 2 [(0, .ref (h 0))] → W p l e ({ frames := 0, cells := 0, slots := 0, locals := 0 }) s m ([.ref (h 0), .int 1] : List Value).toArray below meth cd H locs 0 0 Qz (F0 m 19 ls []) := by
    intro fp_19 H locs ls hy0_19 hI hF hP hS hl
    obtain ⟨v_2, ev_2⟩ : ∃ z : Int32, z = fp_19 0 48 := ⟨_, rfl⟩
    have q_3 : 0 ≤ v_2.toInt ∧ v_2.toInt ≤ 19 := by rw [ev_2]; exact hI 0 48
    have q_4 : (fp_19 0 48).toInt = v_2.toInt := by rw [ev_2]
    refine lv_aload_n hx hb dX12_begins_19 rfl (lv_at hl 0 rfl) ?_
    refine lv_dup hx hb dX12_begins_20 rfl ?_
    refine sg_get (ci := 12) (v := .int v_2) (C := RX12) (T := TX12) (N := 55) hx hb hts (fun w h => List.mem_cons_of_mem _ (gx_12 w h)) hown hK hP 0 (by decide) rfl rfl 48 (by decide) (hts _ (List.mem_cons_of_mem _ mw_621)) (fun _ h9 => h9) (congrArg (fun z => some (Value.int z)) (show fp_19 0 48 = v_2 from ev_2.symm)) dX12_begins_21 ?_
    refine lv_iconst (v := 1) hx hb dX12_begins_24 (by decide) ?_
    refine lv_iadd hx hb dX12_begins_25 ?_
    refine lv_topi (fun v_5 ev_5 => ?_)
    have q_6 : v_5.toInt = v_2.toInt + 1 := by rw [ev_5]; have k1 : (1 : Int32).toInt = 1 := (by decide); exact (bn_addI (by omega) (by omega)).trans (by omega)
    refine sg_put (ci := 12) (x := v_5) (ty := .int) (C := RX12) (T := TX12) (N := 55) hx hb hts (fun w h => List.mem_cons_of_mem _ (gx_12 w h)) tyX12 tyX12_ok nmX12 hown hh hA hK hP hS 0 (by decide) rfl rfl 48 (by decide) (hts _ (List.mem_cons_of_mem _ mw_621)) (fun _ h9 => h9) rfl rfl (by decide +kernel) rfl rfl (Nat.le_of_ble_eq_true rfl) dX12_begins_26 (fun f_7 H locs ef_7 hP hS => ?_)
    have hI : sgI loM hiM f_7 := by rw [ef_7]; exact sgI.put hI 0 48 (show 0 ≤ (v_5 : Int32).toInt ∧ (v_5 : Int32).toInt ≤ 19 from by omega)
    have hF : sgK WkX12_begins_1_f3 f f_7 := sgK.put hF ef_7 (by rfl)
    have q_8 : (f_7 0 48).toInt = v_5.toInt := (congrArg Int32.toInt (show f_7 0 48 = v_5 from (by rw [ef_7, sg_up_s, sgu_s])))
    have q_9 : (f_7 0 48).toInt = v_5.toInt := (congrArg Int32.toInt (show f_7 0 48 = v_5 from (by rw [ef_7, sg_up_s, sgu_s])))
    exact hret _ _ _ _ f_7 L Q dX12_begins_29 hP hS ⟨⟨hI, hF, rfl, rfl⟩, (by omega)⟩
  refine lv_aload_n hx hb dX12_begins_0 rfl (lv_at hl 0 rfl) ?_
  refine sg_get (ci := 12) (v := .int 3) (C := RX12) (T := TX12) (N := 55) hx hb hts (fun w h => List.mem_cons_of_mem _ (gx_12 w h)) hown hK hP 0 (by decide) rfl rfl 48 (by decide) (hts _ (List.mem_cons_of_mem _ mw_621)) (fun _ h9 => h9) (congrArg (fun z => some (Value.int z)) (show f 0 48 = 3 from hf_0_48)) dX12_begins_1 ?_
  refine lv_bipush (v := 24) hx hb dX12_begins_4 (by decide) ?_
  refine lv_icmp_ge (tgt := 19) hx hb dX12_begins_6 (by decide) (fun c => absurd c (by decide)) (fun c => ?_)
  refine lv_aload_n hx hb dX12_begins_9 rfl (lv_at hl 0 rfl) ?_
  refine sg_get (ci := 12) (v := .ref (h 21)) (C := RX12) (T := TX12) (N := 55) hx hb hts (fun w h => List.mem_cons_of_mem _ (gx_12 w h)) hown hK hP 0 (by decide) rfl rfl 47 (by decide) (hts _ (List.mem_cons_of_mem _ mw_718)) (fun _ h9 => h9) rfl dX12_begins_10 ?_
  refine lv_aload_n hx hb dX12_begins_13 rfl (lv_at hl 0 rfl) ?_
  refine sg_get (ci := 12) (v := .int 3) (C := RX12) (T := TX12) (N := 55) hx hb hts (fun w h => List.mem_cons_of_mem _ (gx_12 w h)) hown hK hP 0 (by decide) rfl rfl 48 (by decide) (hts _ (List.mem_cons_of_mem _ mw_621)) (fun _ h9 => h9) (congrArg (fun z => some (Value.int z)) (show f 0 48 = 3 from hf_0_48)) dX12_begins_14 ?_
  refine lv_iload_n hx hb dX12_begins_17 rfl (lv_at hl 1 rfl) ?_
  refine sg_iast hx hb hh hA hK hP hS 21 (by decide) 0 (fun _ => rfl) rfl (i := 3) (x := 1) (vp_in_iff.mpr (by decide)) dX12_begins_18 (fun f_10 H locs ef_10 hP hS => ?_)
  have hI : sgI loM hiM f_10 := by rw [ef_10]; exact sgI.put hI 21 (Int32.toNatClampNeg 3) (show 0 ≤ (1 : Int32).toInt ∧ (1 : Int32).toInt ≤ 81 from by decide)
  have hF : sgK WkX12_begins_1_f3 f f_10 := sgK.put hF ef_10 (by rfl)
  exact blk_19 f_10 _ _ _ (by have zz0_48 : (f_10 0 48).toInt = 3 := (congrArg Int32.toInt (show f_10 0 48 = 3 from (by rw [ef_10, sg_up_n (by decide)]; exact hf_0_48))).trans (by decide); omega) hI hF hP hS (lv_sub hl [0] rfl)

abbrev WkX12_setsAs_3_f3_f3 : List (Nat × Nat × Option Nat) := [(0, 0, some 48), (21, 21, none)]
set_option maxHeartbeats 4000000 in
set_option maxRecDepth 100000 in
theorem kX12_setsAs_3_f3_f3 (l : Launch) (D : va_G) (ca : Nat → ClassId) (za h : Nat → Nat) (hh : sgH 26 h) (f : sg_F) (L : sg_L) (Q : sg_Q) (hI : sgI loM hiM f) (x1 : Int32) (hf_0_48 : f 0 48 = 3) (hf_0_49 : f 0 49 = 3) (p0 : 3 ≤ (f 0 48).toInt ∧ (f 0 48).toInt ≤ 3) (sz : Nat) : Met l yX12_setsAs gwX12_setsAs { frames := 1, cells := 0, slots := 0, locals := 21 } (sgP D vwCl (tyX ca) 26 h (eM ca h) zcM za f L Q sz [.ref (h 0), .int 3, .int x1]) (sgQi D vwCl 26 h (eM ca h) sz (fun r f1 L1 Q1 => ((sgI loM hiM f1 ∧ sgK WkX12_setsAs_3_f3_f3 f f1 ∧ L1 = L ∧ Q1 = Q) ∧ True ∧ (4 ≤ (f1 0 48).toInt ∧ (f1 0 48).toInt ≤ 4)))) 0 0 (sgA 26 h sz) := by
  refine sg_ofWi (cc := cX12_setsAs) (maxL := 3) RX12 (by decide) rfl rfl (Nat.le_of_ble_eq_true rfl) ?_
  intro p e s m below meth cd Qz ls hx hb hml hown hts hK hZ hP hS hl hret
  have hA := sgY.self (n := 26) (h := h) (sz := s.heap.size)
  have hl : lv_has ls 3 [(0, .ref (h 0)), (1, .int 3), (2, .int x1)] := hl
  obtain ⟨H, hH⟩ : ∃ z : Heap, z = s.heap := ⟨_, rfl⟩
  obtain ⟨locs, hlo⟩ : ∃ z : List Loc, z = [] := ⟨_, rfl⟩
  have hP : va_P D vwCl (sgw 26 h (eM ca h) f L Q) H := by rw [hH]; exact hP
  have hS : va_S (sgA 26 h s.heap.size) s.heap H locs := by rw [hH, hlo]; exact hS
  suffices hgo : W p l e ({ frames := 1, cells := 0, slots := 0, locals := 21 }) s m ([.ref (h 0), .int 3, .int x1] : List Value).toArray below meth cd H locs 0 0 Qz (F0 m 0 ls []) by rw [hH, hlo] at hgo; exact hgo
  clear hH hlo
  have o_1 : (f 0 48).toInt = 3 := (congrArg Int32.toInt (show f 0 48 = 3 from hf_0_48)).trans (by decide)
  have hF : sgK WkX12_setsAs_3_f3_f3 f f := sgK.rf
  refine lv_iload_n hx hb dX12_setsAs_0 rfl (lv_at hl 1 rfl) ?_
  refine lv_iconst (v := 1) hx hb dX12_setsAs_1 (by decide) ?_
  refine lv_icmp_eq (tgt := 16) hx hb dX12_setsAs_2 (by decide) (fun c => absurd c (by decide)) (fun c => ?_)
  refine lv_iload_n hx hb dX12_setsAs_5 rfl (lv_at hl 1 rfl) ?_
  refine lv_iconst (v := 4) hx hb dX12_setsAs_6 (by decide) ?_
  refine lv_icmp_eq (tgt := 16) hx hb dX12_setsAs_7 (by decide) (fun c => absurd c (by decide)) (fun c => ?_)
  refine lv_iload_n hx hb dX12_setsAs_10 rfl (lv_at hl 1 rfl) ?_
  refine lv_bipush (v := 7) hx hb dX12_setsAs_11 (by decide) ?_
  refine lv_icmp_ne (tgt := 31) hx hb dX12_setsAs_13 (by decide) (fun c => ?_) (fun c => absurd c (by decide))
  refine lv_iload_n hx hb dX12_setsAs_31 rfl (lv_at hl 1 rfl) ?_
  refine lv_bipush (v := 6) hx hb dX12_setsAs_32 (by decide) ?_
  refine lv_icmp_ne (tgt := 52) hx hb dX12_setsAs_34 (by decide) (fun c => ?_) (fun c => absurd c (by decide))
  refine lv_aload_n hx hb dX12_setsAs_52 rfl (lv_at hl 0 rfl) ?_
  refine lv_iconst (v := 1) hx hb dX12_setsAs_53 (by decide) ?_
  have q_2 : (f 0 48).toInt = 3 := (congrArg Int32.toInt (show f 0 48 = 3 from hf_0_48)).trans (by decide)
  have q_3 : (f 0 48).toInt = 3 := (congrArg Int32.toInt (show f 0 48 = 3 from hf_0_48)).trans (by decide)
  refine sg_callv (va_runV (As := [.int 1]) (rest := []) ⟨hx, hb, hml, hown, hts⟩ (kX12_begins_1_f3 l D ca za h hh f L Q hI hf_0_48 (by have k0 : (1 : Int32).toInt = 1 := (by decide); omega) H.size) (cwV 1 hts (gw_V (fun _ h => List.mem_cons_of_mem _ h) mw_734 mw_735 mw_736 mw_619 mw_733) rfl rfl rfl (by decide +kernel) ⟨Nat.le_of_ble_eq_true rfl, Nat.le_of_ble_eq_true rfl⟩) (sg_preV (ci := 12) (C := RX12) (T := TX12) (N := 55) hA hK hP hS hZ 0 (by decide) rfl rfl) rfl rfl hl.1 rfl (lv_room (Nat.le_of_ble_eq_true rfl)) dX12_setsAs_54 ⟨Nat.le_refl _, Nat.le_refl _⟩) hA hS (fun f_4 L_5 Q_6 H locs hq hP hS => ?_)
  obtain ⟨⟨hI, hk_f_4, eL9, eQ9⟩, p_7⟩ := hq
  rw [eL9, eQ9] at hP; clear eL9 eQ9
  have hF : sgK WkX12_setsAs_3_f3_f3 f f_4 := sgK.tr hF hk_f_4 (by decide)
  obtain ⟨v_8, ev_8⟩ : ∃ z : Int32, z = f_4 0 48 := ⟨_, rfl⟩
  have q_9 : 0 ≤ v_8.toInt ∧ v_8.toInt ≤ 19 := by rw [ev_8]; exact hI 0 48
  have q_10 : (f_4 0 48).toInt = v_8.toInt := (congrArg Int32.toInt (show f_4 0 48 = v_8 from ev_8.symm))
  have q_11 : (f_4 0 48).toInt = v_8.toInt := (congrArg Int32.toInt (show f_4 0 48 = v_8 from ev_8.symm))
  refine lv_iload_n hx hb dX12_setsAs_57 rfl (lv_at hl 2 rfl) ?_
  refine lv_aload_n hx hb dX12_setsAs_58 rfl (lv_at hl 0 rfl) ?_
  refine sg_get (ci := 12) (v := .int (f_4 0 50)) (C := RX12) (T := TX12) (N := 55) hx hb hts (fun w h => List.mem_cons_of_mem _ (gx_12 w h)) hown hK hP 0 (by decide) rfl rfl 50 (by decide) (hts _ (List.mem_cons_of_mem _ mw_680)) (fun _ h9 => h9) rfl dX12_setsAs_59 ?_
  refine lv_topi (fun v_12 ev_12 => ?_)
  have q_13 : 0 ≤ v_12.toInt ∧ v_12.toInt ≤ 49 := by rw [ev_12]; exact hI 0 50
  refine lv_iadd hx hb dX12_setsAs_62 ?_
  refine lv_topi (fun v_14 ev_14 => ?_)
  have q_15 : (f_4 0 48).toInt = v_8.toInt := (congrArg Int32.toInt (show f_4 0 48 = v_8 from ev_8.symm))
  have q_16 : (f_4 0 48).toInt = v_8.toInt := (congrArg Int32.toInt (show f_4 0 48 = v_8 from ev_8.symm))
  exact hret _ _ _ _ (v_14) f_4 L Q dX12_setsAs_63 hP hS ⟨⟨hI, hF, rfl, rfl⟩, trivial, (by omega)⟩

abbrev WkX12_sitsAs_0_f2_f3 : List (Nat × Nat × Option Nat) := [(0, 0, some 48), (21, 21, none)]
set_option maxHeartbeats 4000000 in
set_option maxRecDepth 100000 in
theorem kX12_sitsAs_0_f2_f3 (l : Launch) (D : va_G) (ca : Nat → ClassId) (za h : Nat → Nat) (hh : sgH 26 h) (f : sg_F) (L : sg_L) (Q : sg_Q) (hI : sgI loM hiM f) (x1 : Int32) (hf_0_48 : f 0 48 = 2) (hf_0_49 : f 0 49 = 3) (p0 : 2 ≤ (f 0 48).toInt ∧ (f 0 48).toInt ≤ 2) (sz : Nat) : Met l yX12_sitsAs gwX12_sitsAs { frames := 2, cells := 0, slots := 0, locals := 43 } (sgP D vwCl (tyX ca) 26 h (eM ca h) zcM za f L Q sz [.ref (h 0), .int 0, .int x1]) (sgQi D vwCl 26 h (eM ca h) sz (fun r f1 L1 Q1 => ((sgI loM hiM f1 ∧ sgK WkX12_sitsAs_0_f2_f3 f f1 ∧ L1 = L ∧ Q1 = Q) ∧ True ∧ (4 ≤ (f1 0 48).toInt ∧ (f1 0 48).toInt ≤ 4)))) 0 0 (sgA 26 h sz) := by
  refine sg_ofWi (cc := cX12_sitsAs) (maxL := 4) RX12 (by decide) rfl rfl (Nat.le_of_ble_eq_true rfl) ?_
  intro p e s m below meth cd Qz ls hx hb hml hown hts hK hZ hP hS hl hret
  have hA := sgY.self (n := 26) (h := h) (sz := s.heap.size)
  have hl : lv_has ls 4 [(0, .ref (h 0)), (1, .int 0), (2, .int x1)] := hl
  obtain ⟨H, hH⟩ : ∃ z : Heap, z = s.heap := ⟨_, rfl⟩
  obtain ⟨locs, hlo⟩ : ∃ z : List Loc, z = [] := ⟨_, rfl⟩
  have hP : va_P D vwCl (sgw 26 h (eM ca h) f L Q) H := by rw [hH]; exact hP
  have hS : va_S (sgA 26 h s.heap.size) s.heap H locs := by rw [hH, hlo]; exact hS
  suffices hgo : W p l e ({ frames := 2, cells := 0, slots := 0, locals := 43 }) s m ([.ref (h 0), .int 0, .int x1] : List Value).toArray below meth cd H locs 0 0 Qz (F0 m 0 ls []) by rw [hH, hlo] at hgo; exact hgo
  clear hH hlo
  have o_1 : (f 0 48).toInt = 2 := (congrArg Int32.toInt (show f 0 48 = 2 from hf_0_48)).trans (by decide)
  have hF : sgK WkX12_sitsAs_0_f2_f3 f f := sgK.rf
  refine lv_iload_n hx hb dX12_sitsAs_0 rfl (lv_at hl 1 rfl) ?_
  refine lv_iconst (v := 3) hx hb dX12_sitsAs_1 (by decide) ?_
  refine lv_icmp_eq (tgt := 10) hx hb dX12_sitsAs_2 (by decide) (fun c => absurd c (by decide)) (fun c => ?_)
  refine lv_iload_n hx hb dX12_sitsAs_5 rfl (lv_at hl 1 rfl) ?_
  refine lv_iconst (v := 5) hx hb dX12_sitsAs_6 (by decide) ?_
  refine lv_icmp_ne (tgt := 25) hx hb dX12_sitsAs_7 (by decide) (fun c => ?_) (fun c => absurd c (by decide))
  refine lv_iload_n hx hb dX12_sitsAs_25 rfl (lv_at hl 1 rfl) ?_
  refine lv_iconst (v := 2) hx hb dX12_sitsAs_26 (by decide) ?_
  refine lv_icmp_ne (tgt := 44) hx hb dX12_sitsAs_27 (by decide) (fun c => ?_) (fun c => absurd c (by decide))
  refine lv_iload_n hx hb dX12_sitsAs_44 rfl (lv_at hl 1 rfl) ?_
  refine lv_bipush (v := 7) hx hb dX12_sitsAs_45 (by decide) ?_
  refine lv_icmp_ne (tgt := 75) hx hb dX12_sitsAs_47 (by decide) (fun c => ?_) (fun c => absurd c (by decide))
  refine lv_aload_n hx hb dX12_sitsAs_75 rfl (lv_at hl 0 rfl) ?_
  refine lv_bipush (v := 10) hx hb dX12_sitsAs_76 (by decide) ?_
  have q_2 : (f 0 48).toInt = 2 := (congrArg Int32.toInt (show f 0 48 = 2 from hf_0_48)).trans (by decide)
  have q_3 : (f 0 48).toInt = 2 := (congrArg Int32.toInt (show f 0 48 = 2 from hf_0_48)).trans (by decide)
  refine sg_callv (va_runV (As := [.int 10]) (rest := []) ⟨hx, hb, hml, hown, hts⟩ (kX12_begins_10_f2 l D ca za h hh f L Q hI hf_0_48 (by have k0 : (10 : Int32).toInt = 10 := (by decide); omega) H.size) (cwV 1 hts (gw_V (fun _ h => List.mem_cons_of_mem _ h) mw_734 mw_735 mw_736 mw_619 mw_733) rfl rfl rfl (by decide +kernel) ⟨Nat.le_of_ble_eq_true rfl, Nat.le_of_ble_eq_true rfl⟩) (sg_preV (ci := 12) (C := RX12) (T := TX12) (N := 55) hA hK hP hS hZ 0 (by decide) rfl rfl) rfl rfl hl.1 rfl (lv_room (Nat.le_of_ble_eq_true rfl)) dX12_sitsAs_78 ⟨Nat.le_refl _, Nat.le_refl _⟩) hA hS (fun f_4 L_5 Q_6 H locs hq hP hS => ?_)
  obtain ⟨⟨hI, hk_f_4, eL9, eQ9⟩, p_7⟩ := hq
  rw [eL9, eQ9] at hP; clear eL9 eQ9
  have hF : sgK WkX12_sitsAs_0_f2_f3 f f_4 := sgK.tr hF hk_f_4 (by decide)
  obtain ⟨v_8, ev_8⟩ : ∃ z : Int32, z = f_4 0 48 := ⟨_, rfl⟩
  have q_9 : 0 ≤ v_8.toInt ∧ v_8.toInt ≤ 19 := by rw [ev_8]; exact hI 0 48
  have q_10 : (f_4 0 48).toInt = v_8.toInt := (congrArg Int32.toInt (show f_4 0 48 = v_8 from ev_8.symm))
  have q_11 : (f_4 0 48).toInt = v_8.toInt := (congrArg Int32.toInt (show f_4 0 48 = v_8 from ev_8.symm))
  refine lv_aload_n hx hb dX12_sitsAs_81 rfl (lv_at hl 0 rfl) ?_
  refine lv_aload_n hx hb dX12_sitsAs_82 rfl (lv_at hl 0 rfl) ?_
  refine sg_get (ci := 12) (v := .int 3) (C := RX12) (T := TX12) (N := 55) hx hb hts (fun w h => List.mem_cons_of_mem _ (gx_12 w h)) hown hK hP 0 (by decide) rfl rfl 49 (by decide) (hts _ (List.mem_cons_of_mem _ mw_679)) (fun _ h9 => h9) (congrArg (fun z => some (Value.int z)) (show f_4 0 49 = 3 from ((hk_f_4 0 49 (by decide)).trans hf_0_49))) dX12_sitsAs_83 ?_
  refine lv_iload_n hx hb dX12_sitsAs_86 rfl (lv_at hl 2 rfl) ?_
  have c_12 : v_8 = 3 := Int32.toInt_inj.mp (by have k9 : (3 : Int32).toInt = 3 := (by decide); omega)
  have q_13 : (f_4 0 48).toInt = 3 := (congrArg Int32.toInt (show f_4 0 48 = 3 from (Eq.trans ev_8.symm c_12))).trans (by decide)
  have q_14 : (f_4 0 48).toInt = 3 := (congrArg Int32.toInt (show f_4 0 48 = 3 from (Eq.trans ev_8.symm c_12))).trans (by decide)
  refine sg_calli (va_runV (As := [.int 3, .int x1]) (rest := []) ⟨hx, hb, hml, hown, hts⟩ (kX12_setsAs_3_f3_f3 l D ca za h hh f_4 L Q hI x1 (Eq.trans ev_8.symm c_12) ((hk_f_4 0 49 (by decide)).trans hf_0_49) (by have k0 : (3 : Int32).toInt = 3 := (by decide); omega) H.size) (cwV 2 hts (gw_V (fun _ h => List.mem_cons_of_mem _ h) mw_744 mw_745 mw_746 mw_619 mw_743) rfl rfl rfl (by decide +kernel) ⟨Nat.le_of_ble_eq_true rfl, Nat.le_of_ble_eq_true rfl⟩) (sg_preV (ci := 12) (C := RX12) (T := TX12) (N := 55) hA hK hP hS hZ 0 (by decide) rfl rfl) rfl rfl hl.1 rfl (lv_room (Nat.le_of_ble_eq_true rfl)) dX12_sitsAs_87 ⟨Nat.le_refl _, Nat.le_refl _⟩) hA hS (fun r_18 f_15 L_16 Q_17 H locs hq hP hS => ?_)
  obtain ⟨⟨hI, hk_f_15, eL9, eQ9⟩, hq, p_19⟩ := hq
  rw [eL9, eQ9] at hP; clear eL9 eQ9
  have hF : sgK WkX12_sitsAs_0_f2_f3 f f_15 := sgK.tr hF hk_f_15 (by decide)
  obtain ⟨v_20, ev_20⟩ : ∃ z : Int32, z = f_15 0 48 := ⟨_, rfl⟩
  have q_21 : 0 ≤ v_20.toInt ∧ v_20.toInt ≤ 19 := by rw [ev_20]; exact hI 0 48
  have q_22 : (f_15 0 48).toInt = v_20.toInt := (congrArg Int32.toInt (show f_15 0 48 = v_20 from ev_20.symm))
  have q_23 : (f_15 0 48).toInt = v_20.toInt := (congrArg Int32.toInt (show f_15 0 48 = v_20 from ev_20.symm))
  have k_24 : (3 : Int32).toInt = 3 := by decide
  refine lv_iconst (v := 2) hx hb dX12_sitsAs_90 (by decide) ?_
  refine lv_imul hx hb dX12_sitsAs_91 ?_
  refine lv_topi (fun v_25 ev_25 => ?_)
  have q_26 : (f_15 0 48).toInt = v_20.toInt := (congrArg Int32.toInt (show f_15 0 48 = v_20 from ev_20.symm))
  have q_27 : (f_15 0 48).toInt = v_20.toInt := (congrArg Int32.toInt (show f_15 0 48 = v_20 from ev_20.symm))
  exact hret _ _ _ _ (v_25) f_15 L Q dX12_sitsAs_92 hP hS ⟨⟨hI, hF, rfl, rfl⟩, trivial, (by omega)⟩

abbrev WkX12_sitsAs_2_f1_f3 : List (Nat × Nat × Option Nat) := [(0, 0, some 48), (21, 21, none)]
set_option maxHeartbeats 4000000 in
set_option maxRecDepth 100000 in
theorem kX12_sitsAs_2_f1_f3 (l : Launch) (D : va_G) (ca : Nat → ClassId) (za h : Nat → Nat) (hh : sgH 26 h) (f : sg_F) (L : sg_L) (Q : sg_Q) (hI : sgI loM hiM f) (x1 : Int32) (hf_0_48 : f 0 48 = 1) (hf_0_49 : f 0 49 = 3) (p0 : 1 ≤ (f 0 48).toInt ∧ (f 0 48).toInt ≤ 1) (sz : Nat) : Met l yX12_sitsAs gwX12_sitsAs { frames := 3, cells := 0, slots := 0, locals := 66 } (sgP D vwCl (tyX ca) 26 h (eM ca h) zcM za f L Q sz [.ref (h 0), .int 2, .int x1]) (sgQi D vwCl 26 h (eM ca h) sz (fun r f1 L1 Q1 => ((sgI loM hiM f1 ∧ sgK WkX12_sitsAs_2_f1_f3 f f1 ∧ L1 = L ∧ Q1 = Q) ∧ True ∧ (4 ≤ (f1 0 48).toInt ∧ (f1 0 48).toInt ≤ 4)))) 0 0 (sgA 26 h sz) := by
  refine sg_ofWi (cc := cX12_sitsAs) (maxL := 4) RX12 (by decide) rfl rfl (Nat.le_of_ble_eq_true rfl) ?_
  intro p e s m below meth cd Qz ls hx hb hml hown hts hK hZ hP hS hl hret
  have hA := sgY.self (n := 26) (h := h) (sz := s.heap.size)
  have hl : lv_has ls 4 [(0, .ref (h 0)), (1, .int 2), (2, .int x1)] := hl
  obtain ⟨H, hH⟩ : ∃ z : Heap, z = s.heap := ⟨_, rfl⟩
  obtain ⟨locs, hlo⟩ : ∃ z : List Loc, z = [] := ⟨_, rfl⟩
  have hP : va_P D vwCl (sgw 26 h (eM ca h) f L Q) H := by rw [hH]; exact hP
  have hS : va_S (sgA 26 h s.heap.size) s.heap H locs := by rw [hH, hlo]; exact hS
  suffices hgo : W p l e ({ frames := 3, cells := 0, slots := 0, locals := 66 }) s m ([.ref (h 0), .int 2, .int x1] : List Value).toArray below meth cd H locs 0 0 Qz (F0 m 0 ls []) by rw [hH, hlo] at hgo; exact hgo
  clear hH hlo
  have o_1 : (f 0 48).toInt = 1 := (congrArg Int32.toInt (show f 0 48 = 1 from hf_0_48)).trans (by decide)
  have hF : sgK WkX12_sitsAs_2_f1_f3 f f := sgK.rf
  refine lv_iload_n hx hb dX12_sitsAs_0 rfl (lv_at hl 1 rfl) ?_
  refine lv_iconst (v := 3) hx hb dX12_sitsAs_1 (by decide) ?_
  refine lv_icmp_eq (tgt := 10) hx hb dX12_sitsAs_2 (by decide) (fun c => absurd c (by decide)) (fun c => ?_)
  refine lv_iload_n hx hb dX12_sitsAs_5 rfl (lv_at hl 1 rfl) ?_
  refine lv_iconst (v := 5) hx hb dX12_sitsAs_6 (by decide) ?_
  refine lv_icmp_ne (tgt := 25) hx hb dX12_sitsAs_7 (by decide) (fun c => ?_) (fun c => absurd c (by decide))
  refine lv_iload_n hx hb dX12_sitsAs_25 rfl (lv_at hl 1 rfl) ?_
  refine lv_iconst (v := 2) hx hb dX12_sitsAs_26 (by decide) ?_
  refine lv_icmp_ne (tgt := 44) hx hb dX12_sitsAs_27 (by decide) (fun c => absurd c (by decide)) (fun c => ?_)
  refine lv_aload_n hx hb dX12_sitsAs_30 rfl (lv_at hl 0 rfl) ?_
  refine lv_bipush (v := 30) hx hb dX12_sitsAs_31 (by decide) ?_
  have q_2 : (f 0 48).toInt = 1 := (congrArg Int32.toInt (show f 0 48 = 1 from hf_0_48)).trans (by decide)
  have q_3 : (f 0 48).toInt = 1 := (congrArg Int32.toInt (show f 0 48 = 1 from hf_0_48)).trans (by decide)
  refine sg_callv (va_runV (As := [.int 30]) (rest := []) ⟨hx, hb, hml, hown, hts⟩ (kX12_begins_30_f1 l D ca za h hh f L Q hI hf_0_48 (by have k0 : (30 : Int32).toInt = 30 := (by decide); omega) H.size) (cwV 1 hts (gw_V (fun _ h => List.mem_cons_of_mem _ h) mw_734 mw_735 mw_736 mw_619 mw_733) rfl rfl rfl (by decide +kernel) ⟨Nat.le_of_ble_eq_true rfl, Nat.le_of_ble_eq_true rfl⟩) (sg_preV (ci := 12) (C := RX12) (T := TX12) (N := 55) hA hK hP hS hZ 0 (by decide) rfl rfl) rfl rfl hl.1 rfl (lv_room (Nat.le_of_ble_eq_true rfl)) dX12_sitsAs_33 ⟨Nat.le_refl _, Nat.le_refl _⟩) hA hS (fun f_4 L_5 Q_6 H locs hq hP hS => ?_)
  obtain ⟨⟨hI, hk_f_4, eL9, eQ9⟩, p_7⟩ := hq
  rw [eL9, eQ9] at hP; clear eL9 eQ9
  have hF : sgK WkX12_sitsAs_2_f1_f3 f f_4 := sgK.tr hF hk_f_4 (by decide)
  obtain ⟨v_8, ev_8⟩ : ∃ z : Int32, z = f_4 0 48 := ⟨_, rfl⟩
  have q_9 : 0 ≤ v_8.toInt ∧ v_8.toInt ≤ 19 := by rw [ev_8]; exact hI 0 48
  have q_10 : (f_4 0 48).toInt = v_8.toInt := (congrArg Int32.toInt (show f_4 0 48 = v_8 from ev_8.symm))
  have q_11 : (f_4 0 48).toInt = v_8.toInt := (congrArg Int32.toInt (show f_4 0 48 = v_8 from ev_8.symm))
  refine lv_aload_n hx hb dX12_sitsAs_36 rfl (lv_at hl 0 rfl) ?_
  refine lv_iconst (v := 0) hx hb dX12_sitsAs_37 (by decide) ?_
  refine lv_iload_n hx hb dX12_sitsAs_38 rfl (lv_at hl 2 rfl) ?_
  have c_12 : v_8 = 2 := Int32.toInt_inj.mp (by have k9 : (2 : Int32).toInt = 2 := (by decide); omega)
  have q_13 : (f_4 0 48).toInt = 2 := (congrArg Int32.toInt (show f_4 0 48 = 2 from (Eq.trans ev_8.symm c_12))).trans (by decide)
  have q_14 : (f_4 0 48).toInt = 2 := (congrArg Int32.toInt (show f_4 0 48 = 2 from (Eq.trans ev_8.symm c_12))).trans (by decide)
  refine sg_calli (va_runV (As := [.int 0, .int x1]) (rest := []) ⟨hx, hb, hml, hown, hts⟩ (kX12_sitsAs_0_f2_f3 l D ca za h hh f_4 L Q hI x1 (Eq.trans ev_8.symm c_12) ((hk_f_4 0 49 (by decide)).trans hf_0_49) (by have k0 : (0 : Int32).toInt = 0 := (by decide); omega) H.size) (cwV 2 hts (gw_V (fun _ h => List.mem_cons_of_mem _ h) mw_801 mw_802 mw_803 mw_619 mw_800) rfl rfl rfl (by decide +kernel) ⟨Nat.le_of_ble_eq_true rfl, Nat.le_of_ble_eq_true rfl⟩) (sg_preV (ci := 12) (C := RX12) (T := TX12) (N := 55) hA hK hP hS hZ 0 (by decide) rfl rfl) rfl rfl hl.1 rfl (lv_room (Nat.le_of_ble_eq_true rfl)) dX12_sitsAs_39 ⟨Nat.le_refl _, Nat.le_refl _⟩) hA hS (fun r_18 f_15 L_16 Q_17 H locs hq hP hS => ?_)
  obtain ⟨⟨hI, hk_f_15, eL9, eQ9⟩, hq, p_19⟩ := hq
  rw [eL9, eQ9] at hP; clear eL9 eQ9
  have hF : sgK WkX12_sitsAs_2_f1_f3 f f_15 := sgK.tr hF hk_f_15 (by decide)
  obtain ⟨v_20, ev_20⟩ : ∃ z : Int32, z = f_15 0 48 := ⟨_, rfl⟩
  have q_21 : 0 ≤ v_20.toInt ∧ v_20.toInt ≤ 19 := by rw [ev_20]; exact hI 0 48
  have q_22 : (f_15 0 48).toInt = v_20.toInt := (congrArg Int32.toInt (show f_15 0 48 = v_20 from ev_20.symm))
  have q_23 : (f_15 0 48).toInt = v_20.toInt := (congrArg Int32.toInt (show f_15 0 48 = v_20 from ev_20.symm))
  have k_24 : (0 : Int32).toInt = 0 := by decide
  refine lv_ineg hx hb dX12_sitsAs_42 ?_
  refine lv_topi (fun v_25 ev_25 => ?_)
  have q_26 : (f_15 0 48).toInt = v_20.toInt := (congrArg Int32.toInt (show f_15 0 48 = v_20 from ev_20.symm))
  have q_27 : (f_15 0 48).toInt = v_20.toInt := (congrArg Int32.toInt (show f_15 0 48 = v_20 from ev_20.symm))
  exact hret _ _ _ _ (v_25) f_15 L Q dX12_sitsAs_43 hP hS ⟨⟨hI, hF, rfl, rfl⟩, trivial, (by omega)⟩

abbrev WkX12_sitsAs_3_f0_f3 : List (Nat × Nat × Option Nat) := [(0, 0, some 48), (21, 21, none)]
set_option maxHeartbeats 4000000 in
set_option maxRecDepth 100000 in
theorem kX12_sitsAs_3_f0_f3 (l : Launch) (D : va_G) (ca : Nat → ClassId) (za h : Nat → Nat) (hh : sgH 26 h) (f : sg_F) (L : sg_L) (Q : sg_Q) (hI : sgI loM hiM f) (x1 : Int32) (hf_0_48 : f 0 48 = 0) (hf_0_49 : f 0 49 = 3) (p0 : 0 ≤ (f 0 48).toInt ∧ (f 0 48).toInt ≤ 0) (sz : Nat) : Met l yX12_sitsAs gwX12_sitsAs { frames := 4, cells := 0, slots := 0, locals := 89 } (sgP D vwCl (tyX ca) 26 h (eM ca h) zcM za f L Q sz [.ref (h 0), .int 3, .int x1]) (sgQi D vwCl 26 h (eM ca h) sz (fun r f1 L1 Q1 => ((sgI loM hiM f1 ∧ sgK WkX12_sitsAs_3_f0_f3 f f1 ∧ L1 = L ∧ Q1 = Q) ∧ True ∧ (4 ≤ (f1 0 48).toInt ∧ (f1 0 48).toInt ≤ 4)))) 0 0 (sgA 26 h sz) := by
  refine sg_ofWi (cc := cX12_sitsAs) (maxL := 4) RX12 (by decide) rfl rfl (Nat.le_of_ble_eq_true rfl) ?_
  intro p e s m below meth cd Qz ls hx hb hml hown hts hK hZ hP hS hl hret
  have hA := sgY.self (n := 26) (h := h) (sz := s.heap.size)
  have hl : lv_has ls 4 [(0, .ref (h 0)), (1, .int 3), (2, .int x1)] := hl
  obtain ⟨H, hH⟩ : ∃ z : Heap, z = s.heap := ⟨_, rfl⟩
  obtain ⟨locs, hlo⟩ : ∃ z : List Loc, z = [] := ⟨_, rfl⟩
  have hP : va_P D vwCl (sgw 26 h (eM ca h) f L Q) H := by rw [hH]; exact hP
  have hS : va_S (sgA 26 h s.heap.size) s.heap H locs := by rw [hH, hlo]; exact hS
  suffices hgo : W p l e ({ frames := 4, cells := 0, slots := 0, locals := 89 }) s m ([.ref (h 0), .int 3, .int x1] : List Value).toArray below meth cd H locs 0 0 Qz (F0 m 0 ls []) by rw [hH, hlo] at hgo; exact hgo
  clear hH hlo
  have o_1 : (f 0 48).toInt = 0 := (congrArg Int32.toInt (show f 0 48 = 0 from hf_0_48)).trans (by decide)
  have hF : sgK WkX12_sitsAs_3_f0_f3 f f := sgK.rf
  have blk_10 : ∀ (fp_10 : sg_F) (H : Heap) (locs : List Loc) (ls : Array Slot), 0 ≤ (fp_10 0 48).toInt ∧ (fp_10 0 48).toInt ≤ 0 → 3 ≤ (fp_10 0 49).toInt ∧ (fp_10 0 49).toInt ≤ 3 → sgI loM hiM fp_10 → sgK WkX12_sitsAs_3_f0_f3 f fp_10 → va_P D vwCl (sgw 26 h (eM ca h) fp_10 L Q) H → va_S (sgA 26 h s.heap.size) s.heap H locs → lv_has ls 4 [(0, .ref (h 0)), (2, .int x1)] → W p l e ({ frames := 4, cells := 0, slots := 0, locals := 89 }) s m ([.ref (h 0), .int 3, .int x1] : List Value).toArray below meth cd H locs 0 0 Qz (F0 m 10 ls []) := by
    intro fp_10 H locs ls hy0_10 hy1_10 hI hF hP hS hl
    obtain ⟨v_2, ev_2⟩ : ∃ z : Int32, z = fp_10 0 48 := ⟨_, rfl⟩
    have q_3 : 0 ≤ v_2.toInt ∧ v_2.toInt ≤ 19 := by rw [ev_2]; exact hI 0 48
    have q_4 : (fp_10 0 48).toInt = v_2.toInt := by rw [ev_2]
    obtain ⟨v_5, ev_5⟩ : ∃ z : Int32, z = fp_10 0 49 := ⟨_, rfl⟩
    have q_6 : 0 ≤ v_5.toInt ∧ v_5.toInt ≤ 7 := by rw [ev_5]; exact hI 0 49
    have q_7 : (fp_10 0 49).toInt = v_5.toInt := by rw [ev_5]
    have m_8 : fp_10 0 49 = 3 := (hF 0 49 (by decide)).trans hf_0_49
    refine lv_aload_n hx hb dX12_sitsAs_10 rfl (lv_at hl 0 rfl) ?_
    refine lv_bipush (v := 41) hx hb dX12_sitsAs_11 (by decide) ?_
    have c_9 : v_2 = 0 := Int32.toInt_inj.mp (by have k9 : (0 : Int32).toInt = 0 := (by decide); omega)
    have q_10 : (fp_10 0 48).toInt = 0 := (congrArg Int32.toInt (show fp_10 0 48 = 0 from (Eq.trans ev_2.symm c_9))).trans (by decide)
    have q_11 : (fp_10 0 48).toInt = 0 := (congrArg Int32.toInt (show fp_10 0 48 = 0 from (Eq.trans ev_2.symm c_9))).trans (by decide)
    refine sg_callv (va_runV (As := [.int 41]) (rest := []) ⟨hx, hb, hml, hown, hts⟩ (kX12_begins_41_f0 l D ca za h hh fp_10 L Q hI (Eq.trans ev_2.symm c_9) (by have k0 : (41 : Int32).toInt = 41 := (by decide); omega) H.size) (cwV 1 hts (gw_V (fun _ h => List.mem_cons_of_mem _ h) mw_734 mw_735 mw_736 mw_619 mw_733) rfl rfl rfl (by decide +kernel) ⟨Nat.le_of_ble_eq_true rfl, Nat.le_of_ble_eq_true rfl⟩) (sg_preV (ci := 12) (C := RX12) (T := TX12) (N := 55) hA hK hP hS hZ 0 (by decide) rfl rfl) rfl rfl hl.1 rfl (lv_room (Nat.le_of_ble_eq_true rfl)) dX12_sitsAs_13 ⟨Nat.le_refl _, Nat.le_refl _⟩) hA hS (fun f_12 L_13 Q_14 H locs hq hP hS => ?_)
    obtain ⟨⟨hI, hk_f_12, eL9, eQ9⟩, p_15⟩ := hq
    rw [eL9, eQ9] at hP; clear eL9 eQ9
    have hF : sgK WkX12_sitsAs_3_f0_f3 f f_12 := sgK.tr hF hk_f_12 (by decide)
    obtain ⟨v_16, ev_16⟩ : ∃ z : Int32, z = f_12 0 48 := ⟨_, rfl⟩
    have q_17 : 0 ≤ v_16.toInt ∧ v_16.toInt ≤ 19 := by rw [ev_16]; exact hI 0 48
    have q_18 : (f_12 0 48).toInt = v_16.toInt := (congrArg Int32.toInt (show f_12 0 48 = v_16 from ev_16.symm))
    have q_19 : (f_12 0 48).toInt = v_16.toInt := (congrArg Int32.toInt (show f_12 0 48 = v_16 from ev_16.symm))
    refine lv_aload_n hx hb dX12_sitsAs_16 rfl (lv_at hl 0 rfl) ?_
    refine lv_iconst (v := 2) hx hb dX12_sitsAs_17 (by decide) ?_
    refine lv_iload_n hx hb dX12_sitsAs_18 rfl (lv_at hl 1 rfl) ?_
    refine lv_iconst (v := 1) hx hb dX12_sitsAs_19 (by decide) ?_
    refine lv_iadd hx hb dX12_sitsAs_20 ?_
    refine lv_topi (fun v_20 ev_20 => ?_)
    have c_21 : v_16 = 1 := Int32.toInt_inj.mp (by have k9 : (1 : Int32).toInt = 1 := (by decide); omega)
    have q_22 : (f_12 0 48).toInt = 1 := (congrArg Int32.toInt (show f_12 0 48 = 1 from (Eq.trans ev_16.symm c_21))).trans (by decide)
    have q_23 : (f_12 0 48).toInt = 1 := (congrArg Int32.toInt (show f_12 0 48 = 1 from (Eq.trans ev_16.symm c_21))).trans (by decide)
    refine sg_calli (va_runV (As := [.int 2, .int v_20]) (rest := []) ⟨hx, hb, hml, hown, hts⟩ (kX12_sitsAs_2_f1_f3 l D ca za h hh f_12 L Q hI v_20 (Eq.trans ev_16.symm c_21) ((hk_f_12 0 49 (by decide)).trans m_8) (by have k0 : (2 : Int32).toInt = 2 := (by decide); omega) H.size) (cwV 2 hts (gw_V (fun _ h => List.mem_cons_of_mem _ h) mw_801 mw_802 mw_803 mw_619 mw_800) rfl rfl rfl (by decide +kernel) ⟨Nat.le_of_ble_eq_true rfl, Nat.le_of_ble_eq_true rfl⟩) (sg_preV (ci := 12) (C := RX12) (T := TX12) (N := 55) hA hK hP hS hZ 0 (by decide) rfl rfl) rfl rfl hl.1 rfl (lv_room (Nat.le_of_ble_eq_true rfl)) dX12_sitsAs_21 ⟨Nat.le_refl _, Nat.le_refl _⟩) hA hS (fun r_27 f_24 L_25 Q_26 H locs hq hP hS => ?_)
    obtain ⟨⟨hI, hk_f_24, eL9, eQ9⟩, hq, p_28⟩ := hq
    rw [eL9, eQ9] at hP; clear eL9 eQ9
    have hF : sgK WkX12_sitsAs_3_f0_f3 f f_24 := sgK.tr hF hk_f_24 (by decide)
    obtain ⟨v_29, ev_29⟩ : ∃ z : Int32, z = f_24 0 48 := ⟨_, rfl⟩
    have q_30 : 0 ≤ v_29.toInt ∧ v_29.toInt ≤ 19 := by rw [ev_29]; exact hI 0 48
    have q_31 : (f_24 0 48).toInt = v_29.toInt := (congrArg Int32.toInt (show f_24 0 48 = v_29 from ev_29.symm))
    have q_32 : (f_24 0 48).toInt = v_29.toInt := (congrArg Int32.toInt (show f_24 0 48 = v_29 from ev_29.symm))
    have k_33 : (2 : Int32).toInt = 2 := by decide
    have q_34 : (f_24 0 48).toInt = v_29.toInt := (congrArg Int32.toInt (show f_24 0 48 = v_29 from ev_29.symm))
    have q_35 : (f_24 0 48).toInt = v_29.toInt := (congrArg Int32.toInt (show f_24 0 48 = v_29 from ev_29.symm))
    exact hret _ _ _ _ (r_27) f_24 L Q dX12_sitsAs_24 hP hS ⟨⟨hI, hF, rfl, rfl⟩, trivial, (by omega)⟩
  refine lv_iload_n hx hb dX12_sitsAs_0 rfl (lv_at hl 1 rfl) ?_
  refine lv_iconst (v := 3) hx hb dX12_sitsAs_1 (by decide) ?_
  refine lv_icmp_eq (tgt := 10) hx hb dX12_sitsAs_2 (by decide) (fun c => ?_) (fun c => absurd c (by decide))
  exact blk_10 f _ _ _ (by have zz0_48 : (f 0 48).toInt = 0 := (congrArg Int32.toInt (show f 0 48 = 0 from hf_0_48)).trans (by decide); omega) (by have zz0_49 : (f 0 49).toInt = 3 := (congrArg Int32.toInt (show f 0 49 = 3 from hf_0_49)).trans (by decide); omega) hI hF hP hS (lv_sub hl [0, 2] rfl)

abbrev WkX12_setsAs_0_f2_f4 : List (Nat × Nat × Option Nat) := [(0, 0, some 48), (21, 21, none)]
set_option maxHeartbeats 4000000 in
set_option maxRecDepth 100000 in
theorem kX12_setsAs_0_f2_f4 (l : Launch) (D : va_G) (ca : Nat → ClassId) (za h : Nat → Nat) (hh : sgH 26 h) (f : sg_F) (L : sg_L) (Q : sg_Q) (hI : sgI loM hiM f) (x1 : Int32) (hf_0_48 : f 0 48 = 2) (hf_0_49 : f 0 49 = 4) (p0 : 2 ≤ (f 0 48).toInt ∧ (f 0 48).toInt ≤ 2) (sz : Nat) : Met l yX12_setsAs gwX12_setsAs { frames := 1, cells := 0, slots := 0, locals := 21 } (sgP D vwCl (tyX ca) 26 h (eM ca h) zcM za f L Q sz [.ref (h 0), .int 0, .int x1]) (sgQi D vwCl 26 h (eM ca h) sz (fun r f1 L1 Q1 => ((sgI loM hiM f1 ∧ sgK WkX12_setsAs_0_f2_f4 f f1 ∧ L1 = L ∧ Q1 = Q) ∧ True ∧ (3 ≤ (f1 0 48).toInt ∧ (f1 0 48).toInt ≤ 3)))) 0 0 (sgA 26 h sz) := by
  refine sg_ofWi (cc := cX12_setsAs) (maxL := 3) RX12 (by decide) rfl rfl (Nat.le_of_ble_eq_true rfl) ?_
  intro p e s m below meth cd Qz ls hx hb hml hown hts hK hZ hP hS hl hret
  have hA := sgY.self (n := 26) (h := h) (sz := s.heap.size)
  have hl : lv_has ls 3 [(0, .ref (h 0)), (1, .int 0), (2, .int x1)] := hl
  obtain ⟨H, hH⟩ : ∃ z : Heap, z = s.heap := ⟨_, rfl⟩
  obtain ⟨locs, hlo⟩ : ∃ z : List Loc, z = [] := ⟨_, rfl⟩
  have hP : va_P D vwCl (sgw 26 h (eM ca h) f L Q) H := by rw [hH]; exact hP
  have hS : va_S (sgA 26 h s.heap.size) s.heap H locs := by rw [hH, hlo]; exact hS
  suffices hgo : W p l e ({ frames := 1, cells := 0, slots := 0, locals := 21 }) s m ([.ref (h 0), .int 0, .int x1] : List Value).toArray below meth cd H locs 0 0 Qz (F0 m 0 ls []) by rw [hH, hlo] at hgo; exact hgo
  clear hH hlo
  have o_1 : (f 0 48).toInt = 2 := (congrArg Int32.toInt (show f 0 48 = 2 from hf_0_48)).trans (by decide)
  have hF : sgK WkX12_setsAs_0_f2_f4 f f := sgK.rf
  refine lv_iload_n hx hb dX12_setsAs_0 rfl (lv_at hl 1 rfl) ?_
  refine lv_iconst (v := 1) hx hb dX12_setsAs_1 (by decide) ?_
  refine lv_icmp_eq (tgt := 16) hx hb dX12_setsAs_2 (by decide) (fun c => absurd c (by decide)) (fun c => ?_)
  refine lv_iload_n hx hb dX12_setsAs_5 rfl (lv_at hl 1 rfl) ?_
  refine lv_iconst (v := 4) hx hb dX12_setsAs_6 (by decide) ?_
  refine lv_icmp_eq (tgt := 16) hx hb dX12_setsAs_7 (by decide) (fun c => absurd c (by decide)) (fun c => ?_)
  refine lv_iload_n hx hb dX12_setsAs_10 rfl (lv_at hl 1 rfl) ?_
  refine lv_bipush (v := 7) hx hb dX12_setsAs_11 (by decide) ?_
  refine lv_icmp_ne (tgt := 31) hx hb dX12_setsAs_13 (by decide) (fun c => ?_) (fun c => absurd c (by decide))
  refine lv_iload_n hx hb dX12_setsAs_31 rfl (lv_at hl 1 rfl) ?_
  refine lv_bipush (v := 6) hx hb dX12_setsAs_32 (by decide) ?_
  refine lv_icmp_ne (tgt := 52) hx hb dX12_setsAs_34 (by decide) (fun c => ?_) (fun c => absurd c (by decide))
  refine lv_aload_n hx hb dX12_setsAs_52 rfl (lv_at hl 0 rfl) ?_
  refine lv_iconst (v := 1) hx hb dX12_setsAs_53 (by decide) ?_
  have q_2 : (f 0 48).toInt = 2 := (congrArg Int32.toInt (show f 0 48 = 2 from hf_0_48)).trans (by decide)
  have q_3 : (f 0 48).toInt = 2 := (congrArg Int32.toInt (show f 0 48 = 2 from hf_0_48)).trans (by decide)
  refine sg_callv (va_runV (As := [.int 1]) (rest := []) ⟨hx, hb, hml, hown, hts⟩ (kX12_begins_1_f2 l D ca za h hh f L Q hI hf_0_48 (by have k0 : (1 : Int32).toInt = 1 := (by decide); omega) H.size) (cwV 1 hts (gw_V (fun _ h => List.mem_cons_of_mem _ h) mw_734 mw_735 mw_736 mw_619 mw_733) rfl rfl rfl (by decide +kernel) ⟨Nat.le_of_ble_eq_true rfl, Nat.le_of_ble_eq_true rfl⟩) (sg_preV (ci := 12) (C := RX12) (T := TX12) (N := 55) hA hK hP hS hZ 0 (by decide) rfl rfl) rfl rfl hl.1 rfl (lv_room (Nat.le_of_ble_eq_true rfl)) dX12_setsAs_54 ⟨Nat.le_refl _, Nat.le_refl _⟩) hA hS (fun f_4 L_5 Q_6 H locs hq hP hS => ?_)
  obtain ⟨⟨hI, hk_f_4, eL9, eQ9⟩, p_7⟩ := hq
  rw [eL9, eQ9] at hP; clear eL9 eQ9
  have hF : sgK WkX12_setsAs_0_f2_f4 f f_4 := sgK.tr hF hk_f_4 (by decide)
  obtain ⟨v_8, ev_8⟩ : ∃ z : Int32, z = f_4 0 48 := ⟨_, rfl⟩
  have q_9 : 0 ≤ v_8.toInt ∧ v_8.toInt ≤ 19 := by rw [ev_8]; exact hI 0 48
  have q_10 : (f_4 0 48).toInt = v_8.toInt := (congrArg Int32.toInt (show f_4 0 48 = v_8 from ev_8.symm))
  have q_11 : (f_4 0 48).toInt = v_8.toInt := (congrArg Int32.toInt (show f_4 0 48 = v_8 from ev_8.symm))
  refine lv_iload_n hx hb dX12_setsAs_57 rfl (lv_at hl 2 rfl) ?_
  refine lv_aload_n hx hb dX12_setsAs_58 rfl (lv_at hl 0 rfl) ?_
  refine sg_get (ci := 12) (v := .int (f_4 0 50)) (C := RX12) (T := TX12) (N := 55) hx hb hts (fun w h => List.mem_cons_of_mem _ (gx_12 w h)) hown hK hP 0 (by decide) rfl rfl 50 (by decide) (hts _ (List.mem_cons_of_mem _ mw_680)) (fun _ h9 => h9) rfl dX12_setsAs_59 ?_
  refine lv_topi (fun v_12 ev_12 => ?_)
  have q_13 : 0 ≤ v_12.toInt ∧ v_12.toInt ≤ 49 := by rw [ev_12]; exact hI 0 50
  refine lv_iadd hx hb dX12_setsAs_62 ?_
  refine lv_topi (fun v_14 ev_14 => ?_)
  have q_15 : (f_4 0 48).toInt = v_8.toInt := (congrArg Int32.toInt (show f_4 0 48 = v_8 from ev_8.symm))
  have q_16 : (f_4 0 48).toInt = v_8.toInt := (congrArg Int32.toInt (show f_4 0 48 = v_8 from ev_8.symm))
  exact hret _ _ _ _ (v_14) f_4 L Q dX12_setsAs_63 hP hS ⟨⟨hI, hF, rfl, rfl⟩, trivial, (by omega)⟩

abbrev WkX12_setsAs_4_f1_f4 : List (Nat × Nat × Option Nat) := [(0, 0, some 48), (21, 21, none)]
set_option maxHeartbeats 4000000 in
set_option maxRecDepth 100000 in
theorem kX12_setsAs_4_f1_f4 (l : Launch) (D : va_G) (ca : Nat → ClassId) (za h : Nat → Nat) (hh : sgH 26 h) (f : sg_F) (L : sg_L) (Q : sg_Q) (hI : sgI loM hiM f) (x1 : Int32) (hf_0_48 : f 0 48 = 1) (hf_0_49 : f 0 49 = 4) (p0 : 1 ≤ (f 0 48).toInt ∧ (f 0 48).toInt ≤ 1) (sz : Nat) : Met l yX12_setsAs gwX12_setsAs { frames := 2, cells := 0, slots := 0, locals := 43 } (sgP D vwCl (tyX ca) 26 h (eM ca h) zcM za f L Q sz [.ref (h 0), .int 4, .int x1]) (sgQi D vwCl 26 h (eM ca h) sz (fun r f1 L1 Q1 => ((sgI loM hiM f1 ∧ sgK WkX12_setsAs_4_f1_f4 f f1 ∧ L1 = L ∧ Q1 = Q) ∧ True ∧ (3 ≤ (f1 0 48).toInt ∧ (f1 0 48).toInt ≤ 3)))) 0 0 (sgA 26 h sz) := by
  refine sg_ofWi (cc := cX12_setsAs) (maxL := 3) RX12 (by decide) rfl rfl (Nat.le_of_ble_eq_true rfl) ?_
  intro p e s m below meth cd Qz ls hx hb hml hown hts hK hZ hP hS hl hret
  have hA := sgY.self (n := 26) (h := h) (sz := s.heap.size)
  have hl : lv_has ls 3 [(0, .ref (h 0)), (1, .int 4), (2, .int x1)] := hl
  obtain ⟨H, hH⟩ : ∃ z : Heap, z = s.heap := ⟨_, rfl⟩
  obtain ⟨locs, hlo⟩ : ∃ z : List Loc, z = [] := ⟨_, rfl⟩
  have hP : va_P D vwCl (sgw 26 h (eM ca h) f L Q) H := by rw [hH]; exact hP
  have hS : va_S (sgA 26 h s.heap.size) s.heap H locs := by rw [hH, hlo]; exact hS
  suffices hgo : W p l e ({ frames := 2, cells := 0, slots := 0, locals := 43 }) s m ([.ref (h 0), .int 4, .int x1] : List Value).toArray below meth cd H locs 0 0 Qz (F0 m 0 ls []) by rw [hH, hlo] at hgo; exact hgo
  clear hH hlo
  have o_1 : (f 0 48).toInt = 1 := (congrArg Int32.toInt (show f 0 48 = 1 from hf_0_48)).trans (by decide)
  have hF : sgK WkX12_setsAs_4_f1_f4 f f := sgK.rf
  have blk_16 : ∀ (fp_16 : sg_F) (H : Heap) (locs : List Loc) (ls : Array Slot), 1 ≤ (fp_16 0 48).toInt ∧ (fp_16 0 48).toInt ≤ 1 → 4 ≤ (fp_16 0 49).toInt ∧ (fp_16 0 49).toInt ≤ 4 → sgI loM hiM fp_16 → sgK WkX12_setsAs_4_f1_f4 f fp_16 → va_P D vwCl (sgw 26 h (eM ca h) fp_16 L Q) H → va_S (sgA 26 h s.heap.size) s.heap H locs → lv_has ls 3 [(0, .ref (h 0)), (2, .int x1)] → W p l e ({ frames := 2, cells := 0, slots := 0, locals := 43 }) s m ([.ref (h 0), .int 4, .int x1] : List Value).toArray below meth cd H locs 0 0 Qz (F0 m 16 ls []) := by
    intro fp_16 H locs ls hy0_16 hy1_16 hI hF hP hS hl
    obtain ⟨v_2, ev_2⟩ : ∃ z : Int32, z = fp_16 0 48 := ⟨_, rfl⟩
    have q_3 : 0 ≤ v_2.toInt ∧ v_2.toInt ≤ 19 := by rw [ev_2]; exact hI 0 48
    have q_4 : (fp_16 0 48).toInt = v_2.toInt := by rw [ev_2]
    obtain ⟨v_5, ev_5⟩ : ∃ z : Int32, z = fp_16 0 49 := ⟨_, rfl⟩
    have q_6 : 0 ≤ v_5.toInt ∧ v_5.toInt ≤ 7 := by rw [ev_5]; exact hI 0 49
    have q_7 : (fp_16 0 49).toInt = v_5.toInt := by rw [ev_5]
    have m_8 : fp_16 0 49 = 4 := (hF 0 49 (by decide)).trans hf_0_49
    refine lv_aload_n hx hb dX12_setsAs_16 rfl (lv_at hl 0 rfl) ?_
    refine lv_bipush (v := 20) hx hb dX12_setsAs_17 (by decide) ?_
    have c_9 : v_2 = 1 := Int32.toInt_inj.mp (by have k9 : (1 : Int32).toInt = 1 := (by decide); omega)
    have q_10 : (fp_16 0 48).toInt = 1 := (congrArg Int32.toInt (show fp_16 0 48 = 1 from (Eq.trans ev_2.symm c_9))).trans (by decide)
    have q_11 : (fp_16 0 48).toInt = 1 := (congrArg Int32.toInt (show fp_16 0 48 = 1 from (Eq.trans ev_2.symm c_9))).trans (by decide)
    refine sg_callv (va_runV (As := [.int 20]) (rest := []) ⟨hx, hb, hml, hown, hts⟩ (kX12_begins_20_f1 l D ca za h hh fp_16 L Q hI (Eq.trans ev_2.symm c_9) (by have k0 : (20 : Int32).toInt = 20 := (by decide); omega) H.size) (cwV 1 hts (gw_V (fun _ h => List.mem_cons_of_mem _ h) mw_734 mw_735 mw_736 mw_619 mw_733) rfl rfl rfl (by decide +kernel) ⟨Nat.le_of_ble_eq_true rfl, Nat.le_of_ble_eq_true rfl⟩) (sg_preV (ci := 12) (C := RX12) (T := TX12) (N := 55) hA hK hP hS hZ 0 (by decide) rfl rfl) rfl rfl hl.1 rfl (lv_room (Nat.le_of_ble_eq_true rfl)) dX12_setsAs_19 ⟨Nat.le_refl _, Nat.le_refl _⟩) hA hS (fun f_12 L_13 Q_14 H locs hq hP hS => ?_)
    obtain ⟨⟨hI, hk_f_12, eL9, eQ9⟩, p_15⟩ := hq
    rw [eL9, eQ9] at hP; clear eL9 eQ9
    have hF : sgK WkX12_setsAs_4_f1_f4 f f_12 := sgK.tr hF hk_f_12 (by decide)
    obtain ⟨v_16, ev_16⟩ : ∃ z : Int32, z = f_12 0 48 := ⟨_, rfl⟩
    have q_17 : 0 ≤ v_16.toInt ∧ v_16.toInt ≤ 19 := by rw [ev_16]; exact hI 0 48
    have q_18 : (f_12 0 48).toInt = v_16.toInt := (congrArg Int32.toInt (show f_12 0 48 = v_16 from ev_16.symm))
    have q_19 : (f_12 0 48).toInt = v_16.toInt := (congrArg Int32.toInt (show f_12 0 48 = v_16 from ev_16.symm))
    refine lv_aload_n hx hb dX12_setsAs_22 rfl (lv_at hl 0 rfl) ?_
    refine lv_iconst (v := 0) hx hb dX12_setsAs_23 (by decide) ?_
    refine lv_iload_n hx hb dX12_setsAs_24 rfl (lv_at hl 1 rfl) ?_
    have c_20 : v_16 = 2 := Int32.toInt_inj.mp (by have k9 : (2 : Int32).toInt = 2 := (by decide); omega)
    have q_21 : (f_12 0 48).toInt = 2 := (congrArg Int32.toInt (show f_12 0 48 = 2 from (Eq.trans ev_16.symm c_20))).trans (by decide)
    have q_22 : (f_12 0 48).toInt = 2 := (congrArg Int32.toInt (show f_12 0 48 = 2 from (Eq.trans ev_16.symm c_20))).trans (by decide)
    refine sg_calli (va_runV (As := [.int 0, .int x1]) (rest := []) ⟨hx, hb, hml, hown, hts⟩ (kX12_setsAs_0_f2_f4 l D ca za h hh f_12 L Q hI x1 (Eq.trans ev_16.symm c_20) ((hk_f_12 0 49 (by decide)).trans m_8) (by have k0 : (0 : Int32).toInt = 0 := (by decide); omega) H.size) (cwV 2 hts (gw_V (fun _ h => List.mem_cons_of_mem _ h) mw_744 mw_745 mw_746 mw_619 mw_743) rfl rfl rfl (by decide +kernel) ⟨Nat.le_of_ble_eq_true rfl, Nat.le_of_ble_eq_true rfl⟩) (sg_preV (ci := 12) (C := RX12) (T := TX12) (N := 55) hA hK hP hS hZ 0 (by decide) rfl rfl) rfl rfl hl.1 rfl (lv_room (Nat.le_of_ble_eq_true rfl)) dX12_setsAs_25 ⟨Nat.le_refl _, Nat.le_refl _⟩) hA hS (fun r_26 f_23 L_24 Q_25 H locs hq hP hS => ?_)
    obtain ⟨⟨hI, hk_f_23, eL9, eQ9⟩, hq, p_27⟩ := hq
    rw [eL9, eQ9] at hP; clear eL9 eQ9
    have hF : sgK WkX12_setsAs_4_f1_f4 f f_23 := sgK.tr hF hk_f_23 (by decide)
    obtain ⟨v_28, ev_28⟩ : ∃ z : Int32, z = f_23 0 48 := ⟨_, rfl⟩
    have q_29 : 0 ≤ v_28.toInt ∧ v_28.toInt ≤ 19 := by rw [ev_28]; exact hI 0 48
    have q_30 : (f_23 0 48).toInt = v_28.toInt := (congrArg Int32.toInt (show f_23 0 48 = v_28 from ev_28.symm))
    have q_31 : (f_23 0 48).toInt = v_28.toInt := (congrArg Int32.toInt (show f_23 0 48 = v_28 from ev_28.symm))
    have k_32 : (0 : Int32).toInt = 0 := by decide
    refine lv_iconst (v := 3) hx hb dX12_setsAs_28 (by decide) ?_
    refine lv_iadd hx hb dX12_setsAs_29 ?_
    refine lv_topi (fun v_33 ev_33 => ?_)
    have q_34 : (f_23 0 48).toInt = v_28.toInt := (congrArg Int32.toInt (show f_23 0 48 = v_28 from ev_28.symm))
    have q_35 : (f_23 0 48).toInt = v_28.toInt := (congrArg Int32.toInt (show f_23 0 48 = v_28 from ev_28.symm))
    exact hret _ _ _ _ (v_33) f_23 L Q dX12_setsAs_30 hP hS ⟨⟨hI, hF, rfl, rfl⟩, trivial, (by omega)⟩
  refine lv_iload_n hx hb dX12_setsAs_0 rfl (lv_at hl 1 rfl) ?_
  refine lv_iconst (v := 1) hx hb dX12_setsAs_1 (by decide) ?_
  refine lv_icmp_eq (tgt := 16) hx hb dX12_setsAs_2 (by decide) (fun c => absurd c (by decide)) (fun c => ?_)
  refine lv_iload_n hx hb dX12_setsAs_5 rfl (lv_at hl 1 rfl) ?_
  refine lv_iconst (v := 4) hx hb dX12_setsAs_6 (by decide) ?_
  refine lv_icmp_eq (tgt := 16) hx hb dX12_setsAs_7 (by decide) (fun c => ?_) (fun c => absurd c (by decide))
  exact blk_16 f _ _ _ (by have zz0_48 : (f 0 48).toInt = 1 := (congrArg Int32.toInt (show f 0 48 = 1 from hf_0_48)).trans (by decide); omega) (by have zz0_49 : (f 0 49).toInt = 4 := (congrArg Int32.toInt (show f 0 49 = 4 from hf_0_49)).trans (by decide); omega) hI hF hP hS (lv_sub hl [0, 2] rfl)

abbrev WkX12_sitsAs_4_f0_f4 : List (Nat × Nat × Option Nat) := [(0, 0, some 48), (21, 21, none)]
set_option maxHeartbeats 4000000 in
set_option maxRecDepth 100000 in
theorem kX12_sitsAs_4_f0_f4 (l : Launch) (D : va_G) (ca : Nat → ClassId) (za h : Nat → Nat) (hh : sgH 26 h) (f : sg_F) (L : sg_L) (Q : sg_Q) (hI : sgI loM hiM f) (x1 : Int32) (hf_0_48 : f 0 48 = 0) (hf_0_49 : f 0 49 = 4) (p0 : 0 ≤ (f 0 48).toInt ∧ (f 0 48).toInt ≤ 0) (sz : Nat) : Met l yX12_sitsAs gwX12_sitsAs { frames := 3, cells := 0, slots := 0, locals := 65 } (sgP D vwCl (tyX ca) 26 h (eM ca h) zcM za f L Q sz [.ref (h 0), .int 4, .int x1]) (sgQi D vwCl 26 h (eM ca h) sz (fun r f1 L1 Q1 => ((sgI loM hiM f1 ∧ sgK WkX12_sitsAs_4_f0_f4 f f1 ∧ L1 = L ∧ Q1 = Q) ∧ True ∧ (3 ≤ (f1 0 48).toInt ∧ (f1 0 48).toInt ≤ 3)))) 0 0 (sgA 26 h sz) := by
  refine sg_ofWi (cc := cX12_sitsAs) (maxL := 4) RX12 (by decide) rfl rfl (Nat.le_of_ble_eq_true rfl) ?_
  intro p e s m below meth cd Qz ls hx hb hml hown hts hK hZ hP hS hl hret
  have hA := sgY.self (n := 26) (h := h) (sz := s.heap.size)
  have hl : lv_has ls 4 [(0, .ref (h 0)), (1, .int 4), (2, .int x1)] := hl
  obtain ⟨H, hH⟩ : ∃ z : Heap, z = s.heap := ⟨_, rfl⟩
  obtain ⟨locs, hlo⟩ : ∃ z : List Loc, z = [] := ⟨_, rfl⟩
  have hP : va_P D vwCl (sgw 26 h (eM ca h) f L Q) H := by rw [hH]; exact hP
  have hS : va_S (sgA 26 h s.heap.size) s.heap H locs := by rw [hH, hlo]; exact hS
  suffices hgo : W p l e ({ frames := 3, cells := 0, slots := 0, locals := 65 }) s m ([.ref (h 0), .int 4, .int x1] : List Value).toArray below meth cd H locs 0 0 Qz (F0 m 0 ls []) by rw [hH, hlo] at hgo; exact hgo
  clear hH hlo
  have o_1 : (f 0 48).toInt = 0 := (congrArg Int32.toInt (show f 0 48 = 0 from hf_0_48)).trans (by decide)
  have hF : sgK WkX12_sitsAs_4_f0_f4 f f := sgK.rf
  refine lv_iload_n hx hb dX12_sitsAs_0 rfl (lv_at hl 1 rfl) ?_
  refine lv_iconst (v := 3) hx hb dX12_sitsAs_1 (by decide) ?_
  refine lv_icmp_eq (tgt := 10) hx hb dX12_sitsAs_2 (by decide) (fun c => absurd c (by decide)) (fun c => ?_)
  refine lv_iload_n hx hb dX12_sitsAs_5 rfl (lv_at hl 1 rfl) ?_
  refine lv_iconst (v := 5) hx hb dX12_sitsAs_6 (by decide) ?_
  refine lv_icmp_ne (tgt := 25) hx hb dX12_sitsAs_7 (by decide) (fun c => ?_) (fun c => absurd c (by decide))
  refine lv_iload_n hx hb dX12_sitsAs_25 rfl (lv_at hl 1 rfl) ?_
  refine lv_iconst (v := 2) hx hb dX12_sitsAs_26 (by decide) ?_
  refine lv_icmp_ne (tgt := 44) hx hb dX12_sitsAs_27 (by decide) (fun c => ?_) (fun c => absurd c (by decide))
  refine lv_iload_n hx hb dX12_sitsAs_44 rfl (lv_at hl 1 rfl) ?_
  refine lv_bipush (v := 7) hx hb dX12_sitsAs_45 (by decide) ?_
  refine lv_icmp_ne (tgt := 75) hx hb dX12_sitsAs_47 (by decide) (fun c => ?_) (fun c => absurd c (by decide))
  refine lv_aload_n hx hb dX12_sitsAs_75 rfl (lv_at hl 0 rfl) ?_
  refine lv_bipush (v := 10) hx hb dX12_sitsAs_76 (by decide) ?_
  have q_2 : (f 0 48).toInt = 0 := (congrArg Int32.toInt (show f 0 48 = 0 from hf_0_48)).trans (by decide)
  have q_3 : (f 0 48).toInt = 0 := (congrArg Int32.toInt (show f 0 48 = 0 from hf_0_48)).trans (by decide)
  refine sg_callv (va_runV (As := [.int 10]) (rest := []) ⟨hx, hb, hml, hown, hts⟩ (kX12_begins_10_f0 l D ca za h hh f L Q hI hf_0_48 (by have k0 : (10 : Int32).toInt = 10 := (by decide); omega) H.size) (cwV 1 hts (gw_V (fun _ h => List.mem_cons_of_mem _ h) mw_734 mw_735 mw_736 mw_619 mw_733) rfl rfl rfl (by decide +kernel) ⟨Nat.le_of_ble_eq_true rfl, Nat.le_of_ble_eq_true rfl⟩) (sg_preV (ci := 12) (C := RX12) (T := TX12) (N := 55) hA hK hP hS hZ 0 (by decide) rfl rfl) rfl rfl hl.1 rfl (lv_room (Nat.le_of_ble_eq_true rfl)) dX12_sitsAs_78 ⟨Nat.le_refl _, Nat.le_refl _⟩) hA hS (fun f_4 L_5 Q_6 H locs hq hP hS => ?_)
  obtain ⟨⟨hI, hk_f_4, eL9, eQ9⟩, p_7⟩ := hq
  rw [eL9, eQ9] at hP; clear eL9 eQ9
  have hF : sgK WkX12_sitsAs_4_f0_f4 f f_4 := sgK.tr hF hk_f_4 (by decide)
  obtain ⟨v_8, ev_8⟩ : ∃ z : Int32, z = f_4 0 48 := ⟨_, rfl⟩
  have q_9 : 0 ≤ v_8.toInt ∧ v_8.toInt ≤ 19 := by rw [ev_8]; exact hI 0 48
  have q_10 : (f_4 0 48).toInt = v_8.toInt := (congrArg Int32.toInt (show f_4 0 48 = v_8 from ev_8.symm))
  have q_11 : (f_4 0 48).toInt = v_8.toInt := (congrArg Int32.toInt (show f_4 0 48 = v_8 from ev_8.symm))
  refine lv_aload_n hx hb dX12_sitsAs_81 rfl (lv_at hl 0 rfl) ?_
  refine lv_aload_n hx hb dX12_sitsAs_82 rfl (lv_at hl 0 rfl) ?_
  refine sg_get (ci := 12) (v := .int 4) (C := RX12) (T := TX12) (N := 55) hx hb hts (fun w h => List.mem_cons_of_mem _ (gx_12 w h)) hown hK hP 0 (by decide) rfl rfl 49 (by decide) (hts _ (List.mem_cons_of_mem _ mw_679)) (fun _ h9 => h9) (congrArg (fun z => some (Value.int z)) (show f_4 0 49 = 4 from ((hk_f_4 0 49 (by decide)).trans hf_0_49))) dX12_sitsAs_83 ?_
  refine lv_iload_n hx hb dX12_sitsAs_86 rfl (lv_at hl 2 rfl) ?_
  have c_12 : v_8 = 1 := Int32.toInt_inj.mp (by have k9 : (1 : Int32).toInt = 1 := (by decide); omega)
  have q_13 : (f_4 0 48).toInt = 1 := (congrArg Int32.toInt (show f_4 0 48 = 1 from (Eq.trans ev_8.symm c_12))).trans (by decide)
  have q_14 : (f_4 0 48).toInt = 1 := (congrArg Int32.toInt (show f_4 0 48 = 1 from (Eq.trans ev_8.symm c_12))).trans (by decide)
  refine sg_calli (va_runV (As := [.int 4, .int x1]) (rest := []) ⟨hx, hb, hml, hown, hts⟩ (kX12_setsAs_4_f1_f4 l D ca za h hh f_4 L Q hI x1 (Eq.trans ev_8.symm c_12) ((hk_f_4 0 49 (by decide)).trans hf_0_49) (by have k0 : (4 : Int32).toInt = 4 := (by decide); omega) H.size) (cwV 2 hts (gw_V (fun _ h => List.mem_cons_of_mem _ h) mw_744 mw_745 mw_746 mw_619 mw_743) rfl rfl rfl (by decide +kernel) ⟨Nat.le_of_ble_eq_true rfl, Nat.le_of_ble_eq_true rfl⟩) (sg_preV (ci := 12) (C := RX12) (T := TX12) (N := 55) hA hK hP hS hZ 0 (by decide) rfl rfl) rfl rfl hl.1 rfl (lv_room (Nat.le_of_ble_eq_true rfl)) dX12_sitsAs_87 ⟨Nat.le_refl _, Nat.le_refl _⟩) hA hS (fun r_18 f_15 L_16 Q_17 H locs hq hP hS => ?_)
  obtain ⟨⟨hI, hk_f_15, eL9, eQ9⟩, hq, p_19⟩ := hq
  rw [eL9, eQ9] at hP; clear eL9 eQ9
  have hF : sgK WkX12_sitsAs_4_f0_f4 f f_15 := sgK.tr hF hk_f_15 (by decide)
  obtain ⟨v_20, ev_20⟩ : ∃ z : Int32, z = f_15 0 48 := ⟨_, rfl⟩
  have q_21 : 0 ≤ v_20.toInt ∧ v_20.toInt ≤ 19 := by rw [ev_20]; exact hI 0 48
  have q_22 : (f_15 0 48).toInt = v_20.toInt := (congrArg Int32.toInt (show f_15 0 48 = v_20 from ev_20.symm))
  have q_23 : (f_15 0 48).toInt = v_20.toInt := (congrArg Int32.toInt (show f_15 0 48 = v_20 from ev_20.symm))
  have k_24 : (4 : Int32).toInt = 4 := by decide
  refine lv_iconst (v := 2) hx hb dX12_sitsAs_90 (by decide) ?_
  refine lv_imul hx hb dX12_sitsAs_91 ?_
  refine lv_topi (fun v_25 ev_25 => ?_)
  have q_26 : (f_15 0 48).toInt = v_20.toInt := (congrArg Int32.toInt (show f_15 0 48 = v_20 from ev_20.symm))
  have q_27 : (f_15 0 48).toInt = v_20.toInt := (congrArg Int32.toInt (show f_15 0 48 = v_20 from ev_20.symm))
  exact hret _ _ _ _ (v_25) f_15 L Q dX12_sitsAs_92 hP hS ⟨⟨hI, hF, rfl, rfl⟩, trivial, (by omega)⟩

abbrev WkX12_setsAs_5_f3_f5 : List (Nat × Nat × Option Nat) := [(0, 0, some 48), (21, 21, none)]
set_option maxHeartbeats 4000000 in
set_option maxRecDepth 100000 in
theorem kX12_setsAs_5_f3_f5 (l : Launch) (D : va_G) (ca : Nat → ClassId) (za h : Nat → Nat) (hh : sgH 26 h) (f : sg_F) (L : sg_L) (Q : sg_Q) (hI : sgI loM hiM f) (x1 : Int32) (hf_0_48 : f 0 48 = 3) (hf_0_49 : f 0 49 = 5) (p0 : 3 ≤ (f 0 48).toInt ∧ (f 0 48).toInt ≤ 3) (sz : Nat) : Met l yX12_setsAs gwX12_setsAs { frames := 1, cells := 0, slots := 0, locals := 21 } (sgP D vwCl (tyX ca) 26 h (eM ca h) zcM za f L Q sz [.ref (h 0), .int 5, .int x1]) (sgQi D vwCl 26 h (eM ca h) sz (fun r f1 L1 Q1 => ((sgI loM hiM f1 ∧ sgK WkX12_setsAs_5_f3_f5 f f1 ∧ L1 = L ∧ Q1 = Q) ∧ True ∧ (4 ≤ (f1 0 48).toInt ∧ (f1 0 48).toInt ≤ 4)))) 0 0 (sgA 26 h sz) := by
  refine sg_ofWi (cc := cX12_setsAs) (maxL := 3) RX12 (by decide) rfl rfl (Nat.le_of_ble_eq_true rfl) ?_
  intro p e s m below meth cd Qz ls hx hb hml hown hts hK hZ hP hS hl hret
  have hA := sgY.self (n := 26) (h := h) (sz := s.heap.size)
  have hl : lv_has ls 3 [(0, .ref (h 0)), (1, .int 5), (2, .int x1)] := hl
  obtain ⟨H, hH⟩ : ∃ z : Heap, z = s.heap := ⟨_, rfl⟩
  obtain ⟨locs, hlo⟩ : ∃ z : List Loc, z = [] := ⟨_, rfl⟩
  have hP : va_P D vwCl (sgw 26 h (eM ca h) f L Q) H := by rw [hH]; exact hP
  have hS : va_S (sgA 26 h s.heap.size) s.heap H locs := by rw [hH, hlo]; exact hS
  suffices hgo : W p l e ({ frames := 1, cells := 0, slots := 0, locals := 21 }) s m ([.ref (h 0), .int 5, .int x1] : List Value).toArray below meth cd H locs 0 0 Qz (F0 m 0 ls []) by rw [hH, hlo] at hgo; exact hgo
  clear hH hlo
  have o_1 : (f 0 48).toInt = 3 := (congrArg Int32.toInt (show f 0 48 = 3 from hf_0_48)).trans (by decide)
  have hF : sgK WkX12_setsAs_5_f3_f5 f f := sgK.rf
  refine lv_iload_n hx hb dX12_setsAs_0 rfl (lv_at hl 1 rfl) ?_
  refine lv_iconst (v := 1) hx hb dX12_setsAs_1 (by decide) ?_
  refine lv_icmp_eq (tgt := 16) hx hb dX12_setsAs_2 (by decide) (fun c => absurd c (by decide)) (fun c => ?_)
  refine lv_iload_n hx hb dX12_setsAs_5 rfl (lv_at hl 1 rfl) ?_
  refine lv_iconst (v := 4) hx hb dX12_setsAs_6 (by decide) ?_
  refine lv_icmp_eq (tgt := 16) hx hb dX12_setsAs_7 (by decide) (fun c => absurd c (by decide)) (fun c => ?_)
  refine lv_iload_n hx hb dX12_setsAs_10 rfl (lv_at hl 1 rfl) ?_
  refine lv_bipush (v := 7) hx hb dX12_setsAs_11 (by decide) ?_
  refine lv_icmp_ne (tgt := 31) hx hb dX12_setsAs_13 (by decide) (fun c => ?_) (fun c => absurd c (by decide))
  refine lv_iload_n hx hb dX12_setsAs_31 rfl (lv_at hl 1 rfl) ?_
  refine lv_bipush (v := 6) hx hb dX12_setsAs_32 (by decide) ?_
  refine lv_icmp_ne (tgt := 52) hx hb dX12_setsAs_34 (by decide) (fun c => ?_) (fun c => absurd c (by decide))
  refine lv_aload_n hx hb dX12_setsAs_52 rfl (lv_at hl 0 rfl) ?_
  refine lv_iconst (v := 1) hx hb dX12_setsAs_53 (by decide) ?_
  have q_2 : (f 0 48).toInt = 3 := (congrArg Int32.toInt (show f 0 48 = 3 from hf_0_48)).trans (by decide)
  have q_3 : (f 0 48).toInt = 3 := (congrArg Int32.toInt (show f 0 48 = 3 from hf_0_48)).trans (by decide)
  refine sg_callv (va_runV (As := [.int 1]) (rest := []) ⟨hx, hb, hml, hown, hts⟩ (kX12_begins_1_f3 l D ca za h hh f L Q hI hf_0_48 (by have k0 : (1 : Int32).toInt = 1 := (by decide); omega) H.size) (cwV 1 hts (gw_V (fun _ h => List.mem_cons_of_mem _ h) mw_734 mw_735 mw_736 mw_619 mw_733) rfl rfl rfl (by decide +kernel) ⟨Nat.le_of_ble_eq_true rfl, Nat.le_of_ble_eq_true rfl⟩) (sg_preV (ci := 12) (C := RX12) (T := TX12) (N := 55) hA hK hP hS hZ 0 (by decide) rfl rfl) rfl rfl hl.1 rfl (lv_room (Nat.le_of_ble_eq_true rfl)) dX12_setsAs_54 ⟨Nat.le_refl _, Nat.le_refl _⟩) hA hS (fun f_4 L_5 Q_6 H locs hq hP hS => ?_)
  obtain ⟨⟨hI, hk_f_4, eL9, eQ9⟩, p_7⟩ := hq
  rw [eL9, eQ9] at hP; clear eL9 eQ9
  have hF : sgK WkX12_setsAs_5_f3_f5 f f_4 := sgK.tr hF hk_f_4 (by decide)
  obtain ⟨v_8, ev_8⟩ : ∃ z : Int32, z = f_4 0 48 := ⟨_, rfl⟩
  have q_9 : 0 ≤ v_8.toInt ∧ v_8.toInt ≤ 19 := by rw [ev_8]; exact hI 0 48
  have q_10 : (f_4 0 48).toInt = v_8.toInt := (congrArg Int32.toInt (show f_4 0 48 = v_8 from ev_8.symm))
  have q_11 : (f_4 0 48).toInt = v_8.toInt := (congrArg Int32.toInt (show f_4 0 48 = v_8 from ev_8.symm))
  refine lv_iload_n hx hb dX12_setsAs_57 rfl (lv_at hl 2 rfl) ?_
  refine lv_aload_n hx hb dX12_setsAs_58 rfl (lv_at hl 0 rfl) ?_
  refine sg_get (ci := 12) (v := .int (f_4 0 50)) (C := RX12) (T := TX12) (N := 55) hx hb hts (fun w h => List.mem_cons_of_mem _ (gx_12 w h)) hown hK hP 0 (by decide) rfl rfl 50 (by decide) (hts _ (List.mem_cons_of_mem _ mw_680)) (fun _ h9 => h9) rfl dX12_setsAs_59 ?_
  refine lv_topi (fun v_12 ev_12 => ?_)
  have q_13 : 0 ≤ v_12.toInt ∧ v_12.toInt ≤ 49 := by rw [ev_12]; exact hI 0 50
  refine lv_iadd hx hb dX12_setsAs_62 ?_
  refine lv_topi (fun v_14 ev_14 => ?_)
  have q_15 : (f_4 0 48).toInt = v_8.toInt := (congrArg Int32.toInt (show f_4 0 48 = v_8 from ev_8.symm))
  have q_16 : (f_4 0 48).toInt = v_8.toInt := (congrArg Int32.toInt (show f_4 0 48 = v_8 from ev_8.symm))
  exact hret _ _ _ _ (v_14) f_4 L Q dX12_setsAs_63 hP hS ⟨⟨hI, hF, rfl, rfl⟩, trivial, (by omega)⟩

abbrev WkX12_sitsAs_0_f2_f5 : List (Nat × Nat × Option Nat) := [(0, 0, some 48), (21, 21, none)]
set_option maxHeartbeats 4000000 in
set_option maxRecDepth 100000 in
theorem kX12_sitsAs_0_f2_f5 (l : Launch) (D : va_G) (ca : Nat → ClassId) (za h : Nat → Nat) (hh : sgH 26 h) (f : sg_F) (L : sg_L) (Q : sg_Q) (hI : sgI loM hiM f) (x1 : Int32) (hf_0_48 : f 0 48 = 2) (hf_0_49 : f 0 49 = 5) (p0 : 2 ≤ (f 0 48).toInt ∧ (f 0 48).toInt ≤ 2) (sz : Nat) : Met l yX12_sitsAs gwX12_sitsAs { frames := 2, cells := 0, slots := 0, locals := 43 } (sgP D vwCl (tyX ca) 26 h (eM ca h) zcM za f L Q sz [.ref (h 0), .int 0, .int x1]) (sgQi D vwCl 26 h (eM ca h) sz (fun r f1 L1 Q1 => ((sgI loM hiM f1 ∧ sgK WkX12_sitsAs_0_f2_f5 f f1 ∧ L1 = L ∧ Q1 = Q) ∧ True ∧ (4 ≤ (f1 0 48).toInt ∧ (f1 0 48).toInt ≤ 4)))) 0 0 (sgA 26 h sz) := by
  refine sg_ofWi (cc := cX12_sitsAs) (maxL := 4) RX12 (by decide) rfl rfl (Nat.le_of_ble_eq_true rfl) ?_
  intro p e s m below meth cd Qz ls hx hb hml hown hts hK hZ hP hS hl hret
  have hA := sgY.self (n := 26) (h := h) (sz := s.heap.size)
  have hl : lv_has ls 4 [(0, .ref (h 0)), (1, .int 0), (2, .int x1)] := hl
  obtain ⟨H, hH⟩ : ∃ z : Heap, z = s.heap := ⟨_, rfl⟩
  obtain ⟨locs, hlo⟩ : ∃ z : List Loc, z = [] := ⟨_, rfl⟩
  have hP : va_P D vwCl (sgw 26 h (eM ca h) f L Q) H := by rw [hH]; exact hP
  have hS : va_S (sgA 26 h s.heap.size) s.heap H locs := by rw [hH, hlo]; exact hS
  suffices hgo : W p l e ({ frames := 2, cells := 0, slots := 0, locals := 43 }) s m ([.ref (h 0), .int 0, .int x1] : List Value).toArray below meth cd H locs 0 0 Qz (F0 m 0 ls []) by rw [hH, hlo] at hgo; exact hgo
  clear hH hlo
  have o_1 : (f 0 48).toInt = 2 := (congrArg Int32.toInt (show f 0 48 = 2 from hf_0_48)).trans (by decide)
  have hF : sgK WkX12_sitsAs_0_f2_f5 f f := sgK.rf
  refine lv_iload_n hx hb dX12_sitsAs_0 rfl (lv_at hl 1 rfl) ?_
  refine lv_iconst (v := 3) hx hb dX12_sitsAs_1 (by decide) ?_
  refine lv_icmp_eq (tgt := 10) hx hb dX12_sitsAs_2 (by decide) (fun c => absurd c (by decide)) (fun c => ?_)
  refine lv_iload_n hx hb dX12_sitsAs_5 rfl (lv_at hl 1 rfl) ?_
  refine lv_iconst (v := 5) hx hb dX12_sitsAs_6 (by decide) ?_
  refine lv_icmp_ne (tgt := 25) hx hb dX12_sitsAs_7 (by decide) (fun c => ?_) (fun c => absurd c (by decide))
  refine lv_iload_n hx hb dX12_sitsAs_25 rfl (lv_at hl 1 rfl) ?_
  refine lv_iconst (v := 2) hx hb dX12_sitsAs_26 (by decide) ?_
  refine lv_icmp_ne (tgt := 44) hx hb dX12_sitsAs_27 (by decide) (fun c => ?_) (fun c => absurd c (by decide))
  refine lv_iload_n hx hb dX12_sitsAs_44 rfl (lv_at hl 1 rfl) ?_
  refine lv_bipush (v := 7) hx hb dX12_sitsAs_45 (by decide) ?_
  refine lv_icmp_ne (tgt := 75) hx hb dX12_sitsAs_47 (by decide) (fun c => ?_) (fun c => absurd c (by decide))
  refine lv_aload_n hx hb dX12_sitsAs_75 rfl (lv_at hl 0 rfl) ?_
  refine lv_bipush (v := 10) hx hb dX12_sitsAs_76 (by decide) ?_
  have q_2 : (f 0 48).toInt = 2 := (congrArg Int32.toInt (show f 0 48 = 2 from hf_0_48)).trans (by decide)
  have q_3 : (f 0 48).toInt = 2 := (congrArg Int32.toInt (show f 0 48 = 2 from hf_0_48)).trans (by decide)
  refine sg_callv (va_runV (As := [.int 10]) (rest := []) ⟨hx, hb, hml, hown, hts⟩ (kX12_begins_10_f2 l D ca za h hh f L Q hI hf_0_48 (by have k0 : (10 : Int32).toInt = 10 := (by decide); omega) H.size) (cwV 1 hts (gw_V (fun _ h => List.mem_cons_of_mem _ h) mw_734 mw_735 mw_736 mw_619 mw_733) rfl rfl rfl (by decide +kernel) ⟨Nat.le_of_ble_eq_true rfl, Nat.le_of_ble_eq_true rfl⟩) (sg_preV (ci := 12) (C := RX12) (T := TX12) (N := 55) hA hK hP hS hZ 0 (by decide) rfl rfl) rfl rfl hl.1 rfl (lv_room (Nat.le_of_ble_eq_true rfl)) dX12_sitsAs_78 ⟨Nat.le_refl _, Nat.le_refl _⟩) hA hS (fun f_4 L_5 Q_6 H locs hq hP hS => ?_)
  obtain ⟨⟨hI, hk_f_4, eL9, eQ9⟩, p_7⟩ := hq
  rw [eL9, eQ9] at hP; clear eL9 eQ9
  have hF : sgK WkX12_sitsAs_0_f2_f5 f f_4 := sgK.tr hF hk_f_4 (by decide)
  obtain ⟨v_8, ev_8⟩ : ∃ z : Int32, z = f_4 0 48 := ⟨_, rfl⟩
  have q_9 : 0 ≤ v_8.toInt ∧ v_8.toInt ≤ 19 := by rw [ev_8]; exact hI 0 48
  have q_10 : (f_4 0 48).toInt = v_8.toInt := (congrArg Int32.toInt (show f_4 0 48 = v_8 from ev_8.symm))
  have q_11 : (f_4 0 48).toInt = v_8.toInt := (congrArg Int32.toInt (show f_4 0 48 = v_8 from ev_8.symm))
  refine lv_aload_n hx hb dX12_sitsAs_81 rfl (lv_at hl 0 rfl) ?_
  refine lv_aload_n hx hb dX12_sitsAs_82 rfl (lv_at hl 0 rfl) ?_
  refine sg_get (ci := 12) (v := .int 5) (C := RX12) (T := TX12) (N := 55) hx hb hts (fun w h => List.mem_cons_of_mem _ (gx_12 w h)) hown hK hP 0 (by decide) rfl rfl 49 (by decide) (hts _ (List.mem_cons_of_mem _ mw_679)) (fun _ h9 => h9) (congrArg (fun z => some (Value.int z)) (show f_4 0 49 = 5 from ((hk_f_4 0 49 (by decide)).trans hf_0_49))) dX12_sitsAs_83 ?_
  refine lv_iload_n hx hb dX12_sitsAs_86 rfl (lv_at hl 2 rfl) ?_
  have c_12 : v_8 = 3 := Int32.toInt_inj.mp (by have k9 : (3 : Int32).toInt = 3 := (by decide); omega)
  have q_13 : (f_4 0 48).toInt = 3 := (congrArg Int32.toInt (show f_4 0 48 = 3 from (Eq.trans ev_8.symm c_12))).trans (by decide)
  have q_14 : (f_4 0 48).toInt = 3 := (congrArg Int32.toInt (show f_4 0 48 = 3 from (Eq.trans ev_8.symm c_12))).trans (by decide)
  refine sg_calli (va_runV (As := [.int 5, .int x1]) (rest := []) ⟨hx, hb, hml, hown, hts⟩ (kX12_setsAs_5_f3_f5 l D ca za h hh f_4 L Q hI x1 (Eq.trans ev_8.symm c_12) ((hk_f_4 0 49 (by decide)).trans hf_0_49) (by have k0 : (5 : Int32).toInt = 5 := (by decide); omega) H.size) (cwV 2 hts (gw_V (fun _ h => List.mem_cons_of_mem _ h) mw_744 mw_745 mw_746 mw_619 mw_743) rfl rfl rfl (by decide +kernel) ⟨Nat.le_of_ble_eq_true rfl, Nat.le_of_ble_eq_true rfl⟩) (sg_preV (ci := 12) (C := RX12) (T := TX12) (N := 55) hA hK hP hS hZ 0 (by decide) rfl rfl) rfl rfl hl.1 rfl (lv_room (Nat.le_of_ble_eq_true rfl)) dX12_sitsAs_87 ⟨Nat.le_refl _, Nat.le_refl _⟩) hA hS (fun r_18 f_15 L_16 Q_17 H locs hq hP hS => ?_)
  obtain ⟨⟨hI, hk_f_15, eL9, eQ9⟩, hq, p_19⟩ := hq
  rw [eL9, eQ9] at hP; clear eL9 eQ9
  have hF : sgK WkX12_sitsAs_0_f2_f5 f f_15 := sgK.tr hF hk_f_15 (by decide)
  obtain ⟨v_20, ev_20⟩ : ∃ z : Int32, z = f_15 0 48 := ⟨_, rfl⟩
  have q_21 : 0 ≤ v_20.toInt ∧ v_20.toInt ≤ 19 := by rw [ev_20]; exact hI 0 48
  have q_22 : (f_15 0 48).toInt = v_20.toInt := (congrArg Int32.toInt (show f_15 0 48 = v_20 from ev_20.symm))
  have q_23 : (f_15 0 48).toInt = v_20.toInt := (congrArg Int32.toInt (show f_15 0 48 = v_20 from ev_20.symm))
  have k_24 : (5 : Int32).toInt = 5 := by decide
  refine lv_iconst (v := 2) hx hb dX12_sitsAs_90 (by decide) ?_
  refine lv_imul hx hb dX12_sitsAs_91 ?_
  refine lv_topi (fun v_25 ev_25 => ?_)
  have q_26 : (f_15 0 48).toInt = v_20.toInt := (congrArg Int32.toInt (show f_15 0 48 = v_20 from ev_20.symm))
  have q_27 : (f_15 0 48).toInt = v_20.toInt := (congrArg Int32.toInt (show f_15 0 48 = v_20 from ev_20.symm))
  exact hret _ _ _ _ (v_25) f_15 L Q dX12_sitsAs_92 hP hS ⟨⟨hI, hF, rfl, rfl⟩, trivial, (by omega)⟩

abbrev WkX12_sitsAs_2_f1_f5 : List (Nat × Nat × Option Nat) := [(0, 0, some 48), (21, 21, none)]
set_option maxHeartbeats 4000000 in
set_option maxRecDepth 100000 in
theorem kX12_sitsAs_2_f1_f5 (l : Launch) (D : va_G) (ca : Nat → ClassId) (za h : Nat → Nat) (hh : sgH 26 h) (f : sg_F) (L : sg_L) (Q : sg_Q) (hI : sgI loM hiM f) (x1 : Int32) (hf_0_48 : f 0 48 = 1) (hf_0_49 : f 0 49 = 5) (p0 : 1 ≤ (f 0 48).toInt ∧ (f 0 48).toInt ≤ 1) (sz : Nat) : Met l yX12_sitsAs gwX12_sitsAs { frames := 3, cells := 0, slots := 0, locals := 66 } (sgP D vwCl (tyX ca) 26 h (eM ca h) zcM za f L Q sz [.ref (h 0), .int 2, .int x1]) (sgQi D vwCl 26 h (eM ca h) sz (fun r f1 L1 Q1 => ((sgI loM hiM f1 ∧ sgK WkX12_sitsAs_2_f1_f5 f f1 ∧ L1 = L ∧ Q1 = Q) ∧ True ∧ (4 ≤ (f1 0 48).toInt ∧ (f1 0 48).toInt ≤ 4)))) 0 0 (sgA 26 h sz) := by
  refine sg_ofWi (cc := cX12_sitsAs) (maxL := 4) RX12 (by decide) rfl rfl (Nat.le_of_ble_eq_true rfl) ?_
  intro p e s m below meth cd Qz ls hx hb hml hown hts hK hZ hP hS hl hret
  have hA := sgY.self (n := 26) (h := h) (sz := s.heap.size)
  have hl : lv_has ls 4 [(0, .ref (h 0)), (1, .int 2), (2, .int x1)] := hl
  obtain ⟨H, hH⟩ : ∃ z : Heap, z = s.heap := ⟨_, rfl⟩
  obtain ⟨locs, hlo⟩ : ∃ z : List Loc, z = [] := ⟨_, rfl⟩
  have hP : va_P D vwCl (sgw 26 h (eM ca h) f L Q) H := by rw [hH]; exact hP
  have hS : va_S (sgA 26 h s.heap.size) s.heap H locs := by rw [hH, hlo]; exact hS
  suffices hgo : W p l e ({ frames := 3, cells := 0, slots := 0, locals := 66 }) s m ([.ref (h 0), .int 2, .int x1] : List Value).toArray below meth cd H locs 0 0 Qz (F0 m 0 ls []) by rw [hH, hlo] at hgo; exact hgo
  clear hH hlo
  have o_1 : (f 0 48).toInt = 1 := (congrArg Int32.toInt (show f 0 48 = 1 from hf_0_48)).trans (by decide)
  have hF : sgK WkX12_sitsAs_2_f1_f5 f f := sgK.rf
  refine lv_iload_n hx hb dX12_sitsAs_0 rfl (lv_at hl 1 rfl) ?_
  refine lv_iconst (v := 3) hx hb dX12_sitsAs_1 (by decide) ?_
  refine lv_icmp_eq (tgt := 10) hx hb dX12_sitsAs_2 (by decide) (fun c => absurd c (by decide)) (fun c => ?_)
  refine lv_iload_n hx hb dX12_sitsAs_5 rfl (lv_at hl 1 rfl) ?_
  refine lv_iconst (v := 5) hx hb dX12_sitsAs_6 (by decide) ?_
  refine lv_icmp_ne (tgt := 25) hx hb dX12_sitsAs_7 (by decide) (fun c => ?_) (fun c => absurd c (by decide))
  refine lv_iload_n hx hb dX12_sitsAs_25 rfl (lv_at hl 1 rfl) ?_
  refine lv_iconst (v := 2) hx hb dX12_sitsAs_26 (by decide) ?_
  refine lv_icmp_ne (tgt := 44) hx hb dX12_sitsAs_27 (by decide) (fun c => absurd c (by decide)) (fun c => ?_)
  refine lv_aload_n hx hb dX12_sitsAs_30 rfl (lv_at hl 0 rfl) ?_
  refine lv_bipush (v := 30) hx hb dX12_sitsAs_31 (by decide) ?_
  have q_2 : (f 0 48).toInt = 1 := (congrArg Int32.toInt (show f 0 48 = 1 from hf_0_48)).trans (by decide)
  have q_3 : (f 0 48).toInt = 1 := (congrArg Int32.toInt (show f 0 48 = 1 from hf_0_48)).trans (by decide)
  refine sg_callv (va_runV (As := [.int 30]) (rest := []) ⟨hx, hb, hml, hown, hts⟩ (kX12_begins_30_f1 l D ca za h hh f L Q hI hf_0_48 (by have k0 : (30 : Int32).toInt = 30 := (by decide); omega) H.size) (cwV 1 hts (gw_V (fun _ h => List.mem_cons_of_mem _ h) mw_734 mw_735 mw_736 mw_619 mw_733) rfl rfl rfl (by decide +kernel) ⟨Nat.le_of_ble_eq_true rfl, Nat.le_of_ble_eq_true rfl⟩) (sg_preV (ci := 12) (C := RX12) (T := TX12) (N := 55) hA hK hP hS hZ 0 (by decide) rfl rfl) rfl rfl hl.1 rfl (lv_room (Nat.le_of_ble_eq_true rfl)) dX12_sitsAs_33 ⟨Nat.le_refl _, Nat.le_refl _⟩) hA hS (fun f_4 L_5 Q_6 H locs hq hP hS => ?_)
  obtain ⟨⟨hI, hk_f_4, eL9, eQ9⟩, p_7⟩ := hq
  rw [eL9, eQ9] at hP; clear eL9 eQ9
  have hF : sgK WkX12_sitsAs_2_f1_f5 f f_4 := sgK.tr hF hk_f_4 (by decide)
  obtain ⟨v_8, ev_8⟩ : ∃ z : Int32, z = f_4 0 48 := ⟨_, rfl⟩
  have q_9 : 0 ≤ v_8.toInt ∧ v_8.toInt ≤ 19 := by rw [ev_8]; exact hI 0 48
  have q_10 : (f_4 0 48).toInt = v_8.toInt := (congrArg Int32.toInt (show f_4 0 48 = v_8 from ev_8.symm))
  have q_11 : (f_4 0 48).toInt = v_8.toInt := (congrArg Int32.toInt (show f_4 0 48 = v_8 from ev_8.symm))
  refine lv_aload_n hx hb dX12_sitsAs_36 rfl (lv_at hl 0 rfl) ?_
  refine lv_iconst (v := 0) hx hb dX12_sitsAs_37 (by decide) ?_
  refine lv_iload_n hx hb dX12_sitsAs_38 rfl (lv_at hl 2 rfl) ?_
  have c_12 : v_8 = 2 := Int32.toInt_inj.mp (by have k9 : (2 : Int32).toInt = 2 := (by decide); omega)
  have q_13 : (f_4 0 48).toInt = 2 := (congrArg Int32.toInt (show f_4 0 48 = 2 from (Eq.trans ev_8.symm c_12))).trans (by decide)
  have q_14 : (f_4 0 48).toInt = 2 := (congrArg Int32.toInt (show f_4 0 48 = 2 from (Eq.trans ev_8.symm c_12))).trans (by decide)
  refine sg_calli (va_runV (As := [.int 0, .int x1]) (rest := []) ⟨hx, hb, hml, hown, hts⟩ (kX12_sitsAs_0_f2_f5 l D ca za h hh f_4 L Q hI x1 (Eq.trans ev_8.symm c_12) ((hk_f_4 0 49 (by decide)).trans hf_0_49) (by have k0 : (0 : Int32).toInt = 0 := (by decide); omega) H.size) (cwV 2 hts (gw_V (fun _ h => List.mem_cons_of_mem _ h) mw_801 mw_802 mw_803 mw_619 mw_800) rfl rfl rfl (by decide +kernel) ⟨Nat.le_of_ble_eq_true rfl, Nat.le_of_ble_eq_true rfl⟩) (sg_preV (ci := 12) (C := RX12) (T := TX12) (N := 55) hA hK hP hS hZ 0 (by decide) rfl rfl) rfl rfl hl.1 rfl (lv_room (Nat.le_of_ble_eq_true rfl)) dX12_sitsAs_39 ⟨Nat.le_refl _, Nat.le_refl _⟩) hA hS (fun r_18 f_15 L_16 Q_17 H locs hq hP hS => ?_)
  obtain ⟨⟨hI, hk_f_15, eL9, eQ9⟩, hq, p_19⟩ := hq
  rw [eL9, eQ9] at hP; clear eL9 eQ9
  have hF : sgK WkX12_sitsAs_2_f1_f5 f f_15 := sgK.tr hF hk_f_15 (by decide)
  obtain ⟨v_20, ev_20⟩ : ∃ z : Int32, z = f_15 0 48 := ⟨_, rfl⟩
  have q_21 : 0 ≤ v_20.toInt ∧ v_20.toInt ≤ 19 := by rw [ev_20]; exact hI 0 48
  have q_22 : (f_15 0 48).toInt = v_20.toInt := (congrArg Int32.toInt (show f_15 0 48 = v_20 from ev_20.symm))
  have q_23 : (f_15 0 48).toInt = v_20.toInt := (congrArg Int32.toInt (show f_15 0 48 = v_20 from ev_20.symm))
  have k_24 : (0 : Int32).toInt = 0 := by decide
  refine lv_ineg hx hb dX12_sitsAs_42 ?_
  refine lv_topi (fun v_25 ev_25 => ?_)
  have q_26 : (f_15 0 48).toInt = v_20.toInt := (congrArg Int32.toInt (show f_15 0 48 = v_20 from ev_20.symm))
  have q_27 : (f_15 0 48).toInt = v_20.toInt := (congrArg Int32.toInt (show f_15 0 48 = v_20 from ev_20.symm))
  exact hret _ _ _ _ (v_25) f_15 L Q dX12_sitsAs_43 hP hS ⟨⟨hI, hF, rfl, rfl⟩, trivial, (by omega)⟩

abbrev WkX12_sitsAs_5_f0_f5 : List (Nat × Nat × Option Nat) := [(0, 0, some 48), (21, 21, none)]
set_option maxHeartbeats 4000000 in
set_option maxRecDepth 100000 in
theorem kX12_sitsAs_5_f0_f5 (l : Launch) (D : va_G) (ca : Nat → ClassId) (za h : Nat → Nat) (hh : sgH 26 h) (f : sg_F) (L : sg_L) (Q : sg_Q) (hI : sgI loM hiM f) (x1 : Int32) (hf_0_48 : f 0 48 = 0) (hf_0_49 : f 0 49 = 5) (p0 : 0 ≤ (f 0 48).toInt ∧ (f 0 48).toInt ≤ 0) (sz : Nat) : Met l yX12_sitsAs gwX12_sitsAs { frames := 4, cells := 0, slots := 0, locals := 89 } (sgP D vwCl (tyX ca) 26 h (eM ca h) zcM za f L Q sz [.ref (h 0), .int 5, .int x1]) (sgQi D vwCl 26 h (eM ca h) sz (fun r f1 L1 Q1 => ((sgI loM hiM f1 ∧ sgK WkX12_sitsAs_5_f0_f5 f f1 ∧ L1 = L ∧ Q1 = Q) ∧ True ∧ (4 ≤ (f1 0 48).toInt ∧ (f1 0 48).toInt ≤ 4)))) 0 0 (sgA 26 h sz) := by
  refine sg_ofWi (cc := cX12_sitsAs) (maxL := 4) RX12 (by decide) rfl rfl (Nat.le_of_ble_eq_true rfl) ?_
  intro p e s m below meth cd Qz ls hx hb hml hown hts hK hZ hP hS hl hret
  have hA := sgY.self (n := 26) (h := h) (sz := s.heap.size)
  have hl : lv_has ls 4 [(0, .ref (h 0)), (1, .int 5), (2, .int x1)] := hl
  obtain ⟨H, hH⟩ : ∃ z : Heap, z = s.heap := ⟨_, rfl⟩
  obtain ⟨locs, hlo⟩ : ∃ z : List Loc, z = [] := ⟨_, rfl⟩
  have hP : va_P D vwCl (sgw 26 h (eM ca h) f L Q) H := by rw [hH]; exact hP
  have hS : va_S (sgA 26 h s.heap.size) s.heap H locs := by rw [hH, hlo]; exact hS
  suffices hgo : W p l e ({ frames := 4, cells := 0, slots := 0, locals := 89 }) s m ([.ref (h 0), .int 5, .int x1] : List Value).toArray below meth cd H locs 0 0 Qz (F0 m 0 ls []) by rw [hH, hlo] at hgo; exact hgo
  clear hH hlo
  have o_1 : (f 0 48).toInt = 0 := (congrArg Int32.toInt (show f 0 48 = 0 from hf_0_48)).trans (by decide)
  have hF : sgK WkX12_sitsAs_5_f0_f5 f f := sgK.rf
  have blk_10 : ∀ (fp_10 : sg_F) (H : Heap) (locs : List Loc) (ls : Array Slot), 0 ≤ (fp_10 0 48).toInt ∧ (fp_10 0 48).toInt ≤ 0 → 5 ≤ (fp_10 0 49).toInt ∧ (fp_10 0 49).toInt ≤ 5 → sgI loM hiM fp_10 → sgK WkX12_sitsAs_5_f0_f5 f fp_10 → va_P D vwCl (sgw 26 h (eM ca h) fp_10 L Q) H → va_S (sgA 26 h s.heap.size) s.heap H locs → lv_has ls 4 [(0, .ref (h 0)), (2, .int x1)] → W p l e ({ frames := 4, cells := 0, slots := 0, locals := 89 }) s m ([.ref (h 0), .int 5, .int x1] : List Value).toArray below meth cd H locs 0 0 Qz (F0 m 10 ls []) := by
    intro fp_10 H locs ls hy0_10 hy1_10 hI hF hP hS hl
    obtain ⟨v_2, ev_2⟩ : ∃ z : Int32, z = fp_10 0 48 := ⟨_, rfl⟩
    have q_3 : 0 ≤ v_2.toInt ∧ v_2.toInt ≤ 19 := by rw [ev_2]; exact hI 0 48
    have q_4 : (fp_10 0 48).toInt = v_2.toInt := by rw [ev_2]
    obtain ⟨v_5, ev_5⟩ : ∃ z : Int32, z = fp_10 0 49 := ⟨_, rfl⟩
    have q_6 : 0 ≤ v_5.toInt ∧ v_5.toInt ≤ 7 := by rw [ev_5]; exact hI 0 49
    have q_7 : (fp_10 0 49).toInt = v_5.toInt := by rw [ev_5]
    have m_8 : fp_10 0 49 = 5 := (hF 0 49 (by decide)).trans hf_0_49
    refine lv_aload_n hx hb dX12_sitsAs_10 rfl (lv_at hl 0 rfl) ?_
    refine lv_bipush (v := 41) hx hb dX12_sitsAs_11 (by decide) ?_
    have c_9 : v_2 = 0 := Int32.toInt_inj.mp (by have k9 : (0 : Int32).toInt = 0 := (by decide); omega)
    have q_10 : (fp_10 0 48).toInt = 0 := (congrArg Int32.toInt (show fp_10 0 48 = 0 from (Eq.trans ev_2.symm c_9))).trans (by decide)
    have q_11 : (fp_10 0 48).toInt = 0 := (congrArg Int32.toInt (show fp_10 0 48 = 0 from (Eq.trans ev_2.symm c_9))).trans (by decide)
    refine sg_callv (va_runV (As := [.int 41]) (rest := []) ⟨hx, hb, hml, hown, hts⟩ (kX12_begins_41_f0 l D ca za h hh fp_10 L Q hI (Eq.trans ev_2.symm c_9) (by have k0 : (41 : Int32).toInt = 41 := (by decide); omega) H.size) (cwV 1 hts (gw_V (fun _ h => List.mem_cons_of_mem _ h) mw_734 mw_735 mw_736 mw_619 mw_733) rfl rfl rfl (by decide +kernel) ⟨Nat.le_of_ble_eq_true rfl, Nat.le_of_ble_eq_true rfl⟩) (sg_preV (ci := 12) (C := RX12) (T := TX12) (N := 55) hA hK hP hS hZ 0 (by decide) rfl rfl) rfl rfl hl.1 rfl (lv_room (Nat.le_of_ble_eq_true rfl)) dX12_sitsAs_13 ⟨Nat.le_refl _, Nat.le_refl _⟩) hA hS (fun f_12 L_13 Q_14 H locs hq hP hS => ?_)
    obtain ⟨⟨hI, hk_f_12, eL9, eQ9⟩, p_15⟩ := hq
    rw [eL9, eQ9] at hP; clear eL9 eQ9
    have hF : sgK WkX12_sitsAs_5_f0_f5 f f_12 := sgK.tr hF hk_f_12 (by decide)
    obtain ⟨v_16, ev_16⟩ : ∃ z : Int32, z = f_12 0 48 := ⟨_, rfl⟩
    have q_17 : 0 ≤ v_16.toInt ∧ v_16.toInt ≤ 19 := by rw [ev_16]; exact hI 0 48
    have q_18 : (f_12 0 48).toInt = v_16.toInt := (congrArg Int32.toInt (show f_12 0 48 = v_16 from ev_16.symm))
    have q_19 : (f_12 0 48).toInt = v_16.toInt := (congrArg Int32.toInt (show f_12 0 48 = v_16 from ev_16.symm))
    refine lv_aload_n hx hb dX12_sitsAs_16 rfl (lv_at hl 0 rfl) ?_
    refine lv_iconst (v := 2) hx hb dX12_sitsAs_17 (by decide) ?_
    refine lv_iload_n hx hb dX12_sitsAs_18 rfl (lv_at hl 1 rfl) ?_
    refine lv_iconst (v := 1) hx hb dX12_sitsAs_19 (by decide) ?_
    refine lv_iadd hx hb dX12_sitsAs_20 ?_
    refine lv_topi (fun v_20 ev_20 => ?_)
    have c_21 : v_16 = 1 := Int32.toInt_inj.mp (by have k9 : (1 : Int32).toInt = 1 := (by decide); omega)
    have q_22 : (f_12 0 48).toInt = 1 := (congrArg Int32.toInt (show f_12 0 48 = 1 from (Eq.trans ev_16.symm c_21))).trans (by decide)
    have q_23 : (f_12 0 48).toInt = 1 := (congrArg Int32.toInt (show f_12 0 48 = 1 from (Eq.trans ev_16.symm c_21))).trans (by decide)
    refine sg_calli (va_runV (As := [.int 2, .int v_20]) (rest := []) ⟨hx, hb, hml, hown, hts⟩ (kX12_sitsAs_2_f1_f5 l D ca za h hh f_12 L Q hI v_20 (Eq.trans ev_16.symm c_21) ((hk_f_12 0 49 (by decide)).trans m_8) (by have k0 : (2 : Int32).toInt = 2 := (by decide); omega) H.size) (cwV 2 hts (gw_V (fun _ h => List.mem_cons_of_mem _ h) mw_801 mw_802 mw_803 mw_619 mw_800) rfl rfl rfl (by decide +kernel) ⟨Nat.le_of_ble_eq_true rfl, Nat.le_of_ble_eq_true rfl⟩) (sg_preV (ci := 12) (C := RX12) (T := TX12) (N := 55) hA hK hP hS hZ 0 (by decide) rfl rfl) rfl rfl hl.1 rfl (lv_room (Nat.le_of_ble_eq_true rfl)) dX12_sitsAs_21 ⟨Nat.le_refl _, Nat.le_refl _⟩) hA hS (fun r_27 f_24 L_25 Q_26 H locs hq hP hS => ?_)
    obtain ⟨⟨hI, hk_f_24, eL9, eQ9⟩, hq, p_28⟩ := hq
    rw [eL9, eQ9] at hP; clear eL9 eQ9
    have hF : sgK WkX12_sitsAs_5_f0_f5 f f_24 := sgK.tr hF hk_f_24 (by decide)
    obtain ⟨v_29, ev_29⟩ : ∃ z : Int32, z = f_24 0 48 := ⟨_, rfl⟩
    have q_30 : 0 ≤ v_29.toInt ∧ v_29.toInt ≤ 19 := by rw [ev_29]; exact hI 0 48
    have q_31 : (f_24 0 48).toInt = v_29.toInt := (congrArg Int32.toInt (show f_24 0 48 = v_29 from ev_29.symm))
    have q_32 : (f_24 0 48).toInt = v_29.toInt := (congrArg Int32.toInt (show f_24 0 48 = v_29 from ev_29.symm))
    have k_33 : (2 : Int32).toInt = 2 := by decide
    have q_34 : (f_24 0 48).toInt = v_29.toInt := (congrArg Int32.toInt (show f_24 0 48 = v_29 from ev_29.symm))
    have q_35 : (f_24 0 48).toInt = v_29.toInt := (congrArg Int32.toInt (show f_24 0 48 = v_29 from ev_29.symm))
    exact hret _ _ _ _ (r_27) f_24 L Q dX12_sitsAs_24 hP hS ⟨⟨hI, hF, rfl, rfl⟩, trivial, (by omega)⟩
  refine lv_iload_n hx hb dX12_sitsAs_0 rfl (lv_at hl 1 rfl) ?_
  refine lv_iconst (v := 3) hx hb dX12_sitsAs_1 (by decide) ?_
  refine lv_icmp_eq (tgt := 10) hx hb dX12_sitsAs_2 (by decide) (fun c => absurd c (by decide)) (fun c => ?_)
  refine lv_iload_n hx hb dX12_sitsAs_5 rfl (lv_at hl 1 rfl) ?_
  refine lv_iconst (v := 5) hx hb dX12_sitsAs_6 (by decide) ?_
  refine lv_icmp_ne (tgt := 25) hx hb dX12_sitsAs_7 (by decide) (fun c => absurd c (by decide)) (fun c => ?_)
  exact blk_10 f _ _ _ (by have zz0_48 : (f 0 48).toInt = 0 := (congrArg Int32.toInt (show f 0 48 = 0 from hf_0_48)).trans (by decide); omega) (by have zz0_49 : (f 0 49).toInt = 5 := (congrArg Int32.toInt (show f 0 49 = 5 from hf_0_49)).trans (by decide); omega) hI hF hP hS (lv_sub hl [0, 2] rfl)

abbrev WkX12_begins_70_f1 : List (Nat × Nat × Option Nat) := [(0, 0, some 48), (21, 21, none)]
set_option maxHeartbeats 4000000 in
set_option maxRecDepth 100000 in
theorem kX12_begins_70_f1 (l : Launch) (D : va_G) (ca : Nat → ClassId) (za h : Nat → Nat) (hh : sgH 26 h) (f : sg_F) (L : sg_L) (Q : sg_Q) (hI : sgI loM hiM f) (hf_0_48 : f 0 48 = 1) (p0 : 1 ≤ (f 0 48).toInt ∧ (f 0 48).toInt ≤ 1) (sz : Nat) : Met l yX12_begins gwX12_begins { frames := 0, cells := 0, slots := 0, locals := 0 } (sgP D vwCl (tyX ca) 26 h (eM ca h) zcM za f L Q sz [.ref (h 0), .int 70]) (sgQv D vwCl 26 h (eM ca h) sz (fun f1 L1 Q1 => ((sgI loM hiM f1 ∧ sgK WkX12_begins_70_f1 f f1 ∧ L1 = L ∧ Q1 = Q) ∧ (2 ≤ (f1 0 48).toInt ∧ (f1 0 48).toInt ≤ 2)))) 0 0 (sgA 26 h sz) := by
  refine sg_ofWv (cc := cX12_begins) (maxL := 2) RX12 (by decide) rfl rfl (Nat.le_of_ble_eq_true rfl) ?_
  intro p e s m below meth cd Qz ls hx hb hml hown hts hK hZ hP hS hl hret
  have hA := sgY.self (n := 26) (h := h) (sz := s.heap.size)
  have hl : lv_has ls 2 [(0, .ref (h 0)), (1, .int 70)] := hl
  obtain ⟨H, hH⟩ : ∃ z : Heap, z = s.heap := ⟨_, rfl⟩
  obtain ⟨locs, hlo⟩ : ∃ z : List Loc, z = [] := ⟨_, rfl⟩
  have hP : va_P D vwCl (sgw 26 h (eM ca h) f L Q) H := by rw [hH]; exact hP
  have hS : va_S (sgA 26 h s.heap.size) s.heap H locs := by rw [hH, hlo]; exact hS
  suffices hgo : W p l e ({ frames := 0, cells := 0, slots := 0, locals := 0 }) s m ([.ref (h 0), .int 70] : List Value).toArray below meth cd H locs 0 0 Qz (F0 m 0 ls []) by rw [hH, hlo] at hgo; exact hgo
  clear hH hlo
  have o_1 : (f 0 48).toInt = 1 := (congrArg Int32.toInt (show f 0 48 = 1 from hf_0_48)).trans (by decide)
  have hF : sgK WkX12_begins_70_f1 f f := sgK.rf
  have blk_19 : ∀ (fp_19 : sg_F) (H : Heap) (locs : List Loc) (ls : Array Slot), 1 ≤ (fp_19 0 48).toInt ∧ (fp_19 0 48).toInt ≤ 1 → sgI loM hiM fp_19 → sgK WkX12_begins_70_f1 f fp_19 → va_P D vwCl (sgw 26 h (eM ca h) fp_19 L Q) H → va_S (sgA 26 h s.heap.size) s.heap H locs → lv_has ls 2 [(0, .ref (h 0))] → W p l e ({ frames := 0, cells := 0, slots := 0, locals := 0 }) s m ([.ref (h 0), .int 70] : List Value).toArray below meth cd H locs 0 0 Qz (F0 m 19 ls []) := by
    intro fp_19 H locs ls hy0_19 hI hF hP hS hl
    obtain ⟨v_2, ev_2⟩ : ∃ z : Int32, z = fp_19 0 48 := ⟨_, rfl⟩
    have q_3 : 0 ≤ v_2.toInt ∧ v_2.toInt ≤ 19 := by rw [ev_2]; exact hI 0 48
    have q_4 : (fp_19 0 48).toInt = v_2.toInt := by rw [ev_2]
    refine lv_aload_n hx hb dX12_begins_19 rfl (lv_at hl 0 rfl) ?_
    refine lv_dup hx hb dX12_begins_20 rfl ?_
    refine sg_get (ci := 12) (v := .int v_2) (C := RX12) (T := TX12) (N := 55) hx hb hts (fun w h => List.mem_cons_of_mem _ (gx_12 w h)) hown hK hP 0 (by decide) rfl rfl 48 (by decide) (hts _ (List.mem_cons_of_mem _ mw_621)) (fun _ h9 => h9) (congrArg (fun z => some (Value.int z)) (show fp_19 0 48 = v_2 from ev_2.symm)) dX12_begins_21 ?_
    refine lv_iconst (v := 1) hx hb dX12_begins_24 (by decide) ?_
    refine lv_iadd hx hb dX12_begins_25 ?_
    refine lv_topi (fun v_5 ev_5 => ?_)
    have q_6 : v_5.toInt = v_2.toInt + 1 := by rw [ev_5]; have k1 : (1 : Int32).toInt = 1 := (by decide); exact (bn_addI (by omega) (by omega)).trans (by omega)
    refine sg_put (ci := 12) (x := v_5) (ty := .int) (C := RX12) (T := TX12) (N := 55) hx hb hts (fun w h => List.mem_cons_of_mem _ (gx_12 w h)) tyX12 tyX12_ok nmX12 hown hh hA hK hP hS 0 (by decide) rfl rfl 48 (by decide) (hts _ (List.mem_cons_of_mem _ mw_621)) (fun _ h9 => h9) rfl rfl (by decide +kernel) rfl rfl (Nat.le_of_ble_eq_true rfl) dX12_begins_26 (fun f_7 H locs ef_7 hP hS => ?_)
    have hI : sgI loM hiM f_7 := by rw [ef_7]; exact sgI.put hI 0 48 (show 0 ≤ (v_5 : Int32).toInt ∧ (v_5 : Int32).toInt ≤ 19 from by omega)
    have hF : sgK WkX12_begins_70_f1 f f_7 := sgK.put hF ef_7 (by rfl)
    have q_8 : (f_7 0 48).toInt = v_5.toInt := (congrArg Int32.toInt (show f_7 0 48 = v_5 from (by rw [ef_7, sg_up_s, sgu_s])))
    have q_9 : (f_7 0 48).toInt = v_5.toInt := (congrArg Int32.toInt (show f_7 0 48 = v_5 from (by rw [ef_7, sg_up_s, sgu_s])))
    exact hret _ _ _ _ f_7 L Q dX12_begins_29 hP hS ⟨⟨hI, hF, rfl, rfl⟩, (by omega)⟩
  refine lv_aload_n hx hb dX12_begins_0 rfl (lv_at hl 0 rfl) ?_
  refine sg_get (ci := 12) (v := .int 1) (C := RX12) (T := TX12) (N := 55) hx hb hts (fun w h => List.mem_cons_of_mem _ (gx_12 w h)) hown hK hP 0 (by decide) rfl rfl 48 (by decide) (hts _ (List.mem_cons_of_mem _ mw_621)) (fun _ h9 => h9) (congrArg (fun z => some (Value.int z)) (show f 0 48 = 1 from hf_0_48)) dX12_begins_1 ?_
  refine lv_bipush (v := 24) hx hb dX12_begins_4 (by decide) ?_
  refine lv_icmp_ge (tgt := 19) hx hb dX12_begins_6 (by decide) (fun c => absurd c (by decide)) (fun c => ?_)
  refine lv_aload_n hx hb dX12_begins_9 rfl (lv_at hl 0 rfl) ?_
  refine sg_get (ci := 12) (v := .ref (h 21)) (C := RX12) (T := TX12) (N := 55) hx hb hts (fun w h => List.mem_cons_of_mem _ (gx_12 w h)) hown hK hP 0 (by decide) rfl rfl 47 (by decide) (hts _ (List.mem_cons_of_mem _ mw_718)) (fun _ h9 => h9) rfl dX12_begins_10 ?_
  refine lv_aload_n hx hb dX12_begins_13 rfl (lv_at hl 0 rfl) ?_
  refine sg_get (ci := 12) (v := .int 1) (C := RX12) (T := TX12) (N := 55) hx hb hts (fun w h => List.mem_cons_of_mem _ (gx_12 w h)) hown hK hP 0 (by decide) rfl rfl 48 (by decide) (hts _ (List.mem_cons_of_mem _ mw_621)) (fun _ h9 => h9) (congrArg (fun z => some (Value.int z)) (show f 0 48 = 1 from hf_0_48)) dX12_begins_14 ?_
  refine lv_iload_n hx hb dX12_begins_17 rfl (lv_at hl 1 rfl) ?_
  refine sg_iast hx hb hh hA hK hP hS 21 (by decide) 0 (fun _ => rfl) rfl (i := 1) (x := 70) (vp_in_iff.mpr (by decide)) dX12_begins_18 (fun f_10 H locs ef_10 hP hS => ?_)
  have hI : sgI loM hiM f_10 := by rw [ef_10]; exact sgI.put hI 21 (Int32.toNatClampNeg 1) (show 0 ≤ (70 : Int32).toInt ∧ (70 : Int32).toInt ≤ 81 from by decide)
  have hF : sgK WkX12_begins_70_f1 f f_10 := sgK.put hF ef_10 (by rfl)
  exact blk_19 f_10 _ _ _ (by have zz0_48 : (f_10 0 48).toInt = 1 := (congrArg Int32.toInt (show f_10 0 48 = 1 from (by rw [ef_10, sg_up_n (by decide)]; exact hf_0_48))).trans (by decide); omega) hI hF hP hS (lv_sub hl [0] rfl)

abbrev WkX12_setsAs_0_f2_f6 : List (Nat × Nat × Option Nat) := [(0, 0, some 48), (21, 21, none)]
set_option maxHeartbeats 4000000 in
set_option maxRecDepth 100000 in
theorem kX12_setsAs_0_f2_f6 (l : Launch) (D : va_G) (ca : Nat → ClassId) (za h : Nat → Nat) (hh : sgH 26 h) (f : sg_F) (L : sg_L) (Q : sg_Q) (hI : sgI loM hiM f) (x1 : Int32) (hf_0_48 : f 0 48 = 2) (hf_0_49 : f 0 49 = 6) (p0 : 2 ≤ (f 0 48).toInt ∧ (f 0 48).toInt ≤ 2) (sz : Nat) : Met l yX12_setsAs gwX12_setsAs { frames := 1, cells := 0, slots := 0, locals := 21 } (sgP D vwCl (tyX ca) 26 h (eM ca h) zcM za f L Q sz [.ref (h 0), .int 0, .int x1]) (sgQi D vwCl 26 h (eM ca h) sz (fun r f1 L1 Q1 => ((sgI loM hiM f1 ∧ sgK WkX12_setsAs_0_f2_f6 f f1 ∧ L1 = L ∧ Q1 = Q) ∧ True ∧ (3 ≤ (f1 0 48).toInt ∧ (f1 0 48).toInt ≤ 3)))) 0 0 (sgA 26 h sz) := by
  refine sg_ofWi (cc := cX12_setsAs) (maxL := 3) RX12 (by decide) rfl rfl (Nat.le_of_ble_eq_true rfl) ?_
  intro p e s m below meth cd Qz ls hx hb hml hown hts hK hZ hP hS hl hret
  have hA := sgY.self (n := 26) (h := h) (sz := s.heap.size)
  have hl : lv_has ls 3 [(0, .ref (h 0)), (1, .int 0), (2, .int x1)] := hl
  obtain ⟨H, hH⟩ : ∃ z : Heap, z = s.heap := ⟨_, rfl⟩
  obtain ⟨locs, hlo⟩ : ∃ z : List Loc, z = [] := ⟨_, rfl⟩
  have hP : va_P D vwCl (sgw 26 h (eM ca h) f L Q) H := by rw [hH]; exact hP
  have hS : va_S (sgA 26 h s.heap.size) s.heap H locs := by rw [hH, hlo]; exact hS
  suffices hgo : W p l e ({ frames := 1, cells := 0, slots := 0, locals := 21 }) s m ([.ref (h 0), .int 0, .int x1] : List Value).toArray below meth cd H locs 0 0 Qz (F0 m 0 ls []) by rw [hH, hlo] at hgo; exact hgo
  clear hH hlo
  have o_1 : (f 0 48).toInt = 2 := (congrArg Int32.toInt (show f 0 48 = 2 from hf_0_48)).trans (by decide)
  have hF : sgK WkX12_setsAs_0_f2_f6 f f := sgK.rf
  refine lv_iload_n hx hb dX12_setsAs_0 rfl (lv_at hl 1 rfl) ?_
  refine lv_iconst (v := 1) hx hb dX12_setsAs_1 (by decide) ?_
  refine lv_icmp_eq (tgt := 16) hx hb dX12_setsAs_2 (by decide) (fun c => absurd c (by decide)) (fun c => ?_)
  refine lv_iload_n hx hb dX12_setsAs_5 rfl (lv_at hl 1 rfl) ?_
  refine lv_iconst (v := 4) hx hb dX12_setsAs_6 (by decide) ?_
  refine lv_icmp_eq (tgt := 16) hx hb dX12_setsAs_7 (by decide) (fun c => absurd c (by decide)) (fun c => ?_)
  refine lv_iload_n hx hb dX12_setsAs_10 rfl (lv_at hl 1 rfl) ?_
  refine lv_bipush (v := 7) hx hb dX12_setsAs_11 (by decide) ?_
  refine lv_icmp_ne (tgt := 31) hx hb dX12_setsAs_13 (by decide) (fun c => ?_) (fun c => absurd c (by decide))
  refine lv_iload_n hx hb dX12_setsAs_31 rfl (lv_at hl 1 rfl) ?_
  refine lv_bipush (v := 6) hx hb dX12_setsAs_32 (by decide) ?_
  refine lv_icmp_ne (tgt := 52) hx hb dX12_setsAs_34 (by decide) (fun c => ?_) (fun c => absurd c (by decide))
  refine lv_aload_n hx hb dX12_setsAs_52 rfl (lv_at hl 0 rfl) ?_
  refine lv_iconst (v := 1) hx hb dX12_setsAs_53 (by decide) ?_
  have q_2 : (f 0 48).toInt = 2 := (congrArg Int32.toInt (show f 0 48 = 2 from hf_0_48)).trans (by decide)
  have q_3 : (f 0 48).toInt = 2 := (congrArg Int32.toInt (show f 0 48 = 2 from hf_0_48)).trans (by decide)
  refine sg_callv (va_runV (As := [.int 1]) (rest := []) ⟨hx, hb, hml, hown, hts⟩ (kX12_begins_1_f2 l D ca za h hh f L Q hI hf_0_48 (by have k0 : (1 : Int32).toInt = 1 := (by decide); omega) H.size) (cwV 1 hts (gw_V (fun _ h => List.mem_cons_of_mem _ h) mw_734 mw_735 mw_736 mw_619 mw_733) rfl rfl rfl (by decide +kernel) ⟨Nat.le_of_ble_eq_true rfl, Nat.le_of_ble_eq_true rfl⟩) (sg_preV (ci := 12) (C := RX12) (T := TX12) (N := 55) hA hK hP hS hZ 0 (by decide) rfl rfl) rfl rfl hl.1 rfl (lv_room (Nat.le_of_ble_eq_true rfl)) dX12_setsAs_54 ⟨Nat.le_refl _, Nat.le_refl _⟩) hA hS (fun f_4 L_5 Q_6 H locs hq hP hS => ?_)
  obtain ⟨⟨hI, hk_f_4, eL9, eQ9⟩, p_7⟩ := hq
  rw [eL9, eQ9] at hP; clear eL9 eQ9
  have hF : sgK WkX12_setsAs_0_f2_f6 f f_4 := sgK.tr hF hk_f_4 (by decide)
  obtain ⟨v_8, ev_8⟩ : ∃ z : Int32, z = f_4 0 48 := ⟨_, rfl⟩
  have q_9 : 0 ≤ v_8.toInt ∧ v_8.toInt ≤ 19 := by rw [ev_8]; exact hI 0 48
  have q_10 : (f_4 0 48).toInt = v_8.toInt := (congrArg Int32.toInt (show f_4 0 48 = v_8 from ev_8.symm))
  have q_11 : (f_4 0 48).toInt = v_8.toInt := (congrArg Int32.toInt (show f_4 0 48 = v_8 from ev_8.symm))
  refine lv_iload_n hx hb dX12_setsAs_57 rfl (lv_at hl 2 rfl) ?_
  refine lv_aload_n hx hb dX12_setsAs_58 rfl (lv_at hl 0 rfl) ?_
  refine sg_get (ci := 12) (v := .int (f_4 0 50)) (C := RX12) (T := TX12) (N := 55) hx hb hts (fun w h => List.mem_cons_of_mem _ (gx_12 w h)) hown hK hP 0 (by decide) rfl rfl 50 (by decide) (hts _ (List.mem_cons_of_mem _ mw_680)) (fun _ h9 => h9) rfl dX12_setsAs_59 ?_
  refine lv_topi (fun v_12 ev_12 => ?_)
  have q_13 : 0 ≤ v_12.toInt ∧ v_12.toInt ≤ 49 := by rw [ev_12]; exact hI 0 50
  refine lv_iadd hx hb dX12_setsAs_62 ?_
  refine lv_topi (fun v_14 ev_14 => ?_)
  have q_15 : (f_4 0 48).toInt = v_8.toInt := (congrArg Int32.toInt (show f_4 0 48 = v_8 from ev_8.symm))
  have q_16 : (f_4 0 48).toInt = v_8.toInt := (congrArg Int32.toInt (show f_4 0 48 = v_8 from ev_8.symm))
  exact hret _ _ _ _ (v_14) f_4 L Q dX12_setsAs_63 hP hS ⟨⟨hI, hF, rfl, rfl⟩, trivial, (by omega)⟩

abbrev WkX12_setsAs_6_f1_f6 : List (Nat × Nat × Option Nat) := [(0, 0, some 48), (21, 21, none)]
set_option maxHeartbeats 4000000 in
set_option maxRecDepth 100000 in
theorem kX12_setsAs_6_f1_f6 (l : Launch) (D : va_G) (ca : Nat → ClassId) (za h : Nat → Nat) (hh : sgH 26 h) (f : sg_F) (L : sg_L) (Q : sg_Q) (hI : sgI loM hiM f) (x1 : Int32) (hf_0_48 : f 0 48 = 1) (hf_0_49 : f 0 49 = 6) (p0 : 1 ≤ (f 0 48).toInt ∧ (f 0 48).toInt ≤ 1) (sz : Nat) : Met l yX12_setsAs gwX12_setsAs { frames := 2, cells := 0, slots := 0, locals := 43 } (sgP D vwCl (tyX ca) 26 h (eM ca h) zcM za f L Q sz [.ref (h 0), .int 6, .int x1]) (sgQi D vwCl 26 h (eM ca h) sz (fun r f1 L1 Q1 => ((sgI loM hiM f1 ∧ sgK WkX12_setsAs_6_f1_f6 f f1 ∧ L1 = L ∧ Q1 = Q) ∧ True ∧ (3 ≤ (f1 0 48).toInt ∧ (f1 0 48).toInt ≤ 3)))) 0 0 (sgA 26 h sz) := by
  refine sg_ofWi (cc := cX12_setsAs) (maxL := 3) RX12 (by decide) rfl rfl (Nat.le_of_ble_eq_true rfl) ?_
  intro p e s m below meth cd Qz ls hx hb hml hown hts hK hZ hP hS hl hret
  have hA := sgY.self (n := 26) (h := h) (sz := s.heap.size)
  have hl : lv_has ls 3 [(0, .ref (h 0)), (1, .int 6), (2, .int x1)] := hl
  obtain ⟨H, hH⟩ : ∃ z : Heap, z = s.heap := ⟨_, rfl⟩
  obtain ⟨locs, hlo⟩ : ∃ z : List Loc, z = [] := ⟨_, rfl⟩
  have hP : va_P D vwCl (sgw 26 h (eM ca h) f L Q) H := by rw [hH]; exact hP
  have hS : va_S (sgA 26 h s.heap.size) s.heap H locs := by rw [hH, hlo]; exact hS
  suffices hgo : W p l e ({ frames := 2, cells := 0, slots := 0, locals := 43 }) s m ([.ref (h 0), .int 6, .int x1] : List Value).toArray below meth cd H locs 0 0 Qz (F0 m 0 ls []) by rw [hH, hlo] at hgo; exact hgo
  clear hH hlo
  have o_1 : (f 0 48).toInt = 1 := (congrArg Int32.toInt (show f 0 48 = 1 from hf_0_48)).trans (by decide)
  have hF : sgK WkX12_setsAs_6_f1_f6 f f := sgK.rf
  refine lv_iload_n hx hb dX12_setsAs_0 rfl (lv_at hl 1 rfl) ?_
  refine lv_iconst (v := 1) hx hb dX12_setsAs_1 (by decide) ?_
  refine lv_icmp_eq (tgt := 16) hx hb dX12_setsAs_2 (by decide) (fun c => absurd c (by decide)) (fun c => ?_)
  refine lv_iload_n hx hb dX12_setsAs_5 rfl (lv_at hl 1 rfl) ?_
  refine lv_iconst (v := 4) hx hb dX12_setsAs_6 (by decide) ?_
  refine lv_icmp_eq (tgt := 16) hx hb dX12_setsAs_7 (by decide) (fun c => absurd c (by decide)) (fun c => ?_)
  refine lv_iload_n hx hb dX12_setsAs_10 rfl (lv_at hl 1 rfl) ?_
  refine lv_bipush (v := 7) hx hb dX12_setsAs_11 (by decide) ?_
  refine lv_icmp_ne (tgt := 31) hx hb dX12_setsAs_13 (by decide) (fun c => ?_) (fun c => absurd c (by decide))
  refine lv_iload_n hx hb dX12_setsAs_31 rfl (lv_at hl 1 rfl) ?_
  refine lv_bipush (v := 6) hx hb dX12_setsAs_32 (by decide) ?_
  refine lv_icmp_ne (tgt := 52) hx hb dX12_setsAs_34 (by decide) (fun c => absurd c (by decide)) (fun c => ?_)
  refine lv_aload_n hx hb dX12_setsAs_37 rfl (lv_at hl 0 rfl) ?_
  refine lv_bipush (v := 70) hx hb dX12_setsAs_38 (by decide) ?_
  have q_2 : (f 0 48).toInt = 1 := (congrArg Int32.toInt (show f 0 48 = 1 from hf_0_48)).trans (by decide)
  have q_3 : (f 0 48).toInt = 1 := (congrArg Int32.toInt (show f 0 48 = 1 from hf_0_48)).trans (by decide)
  refine sg_callv (va_runV (As := [.int 70]) (rest := []) ⟨hx, hb, hml, hown, hts⟩ (kX12_begins_70_f1 l D ca za h hh f L Q hI hf_0_48 (by have k0 : (70 : Int32).toInt = 70 := (by decide); omega) H.size) (cwV 1 hts (gw_V (fun _ h => List.mem_cons_of_mem _ h) mw_734 mw_735 mw_736 mw_619 mw_733) rfl rfl rfl (by decide +kernel) ⟨Nat.le_of_ble_eq_true rfl, Nat.le_of_ble_eq_true rfl⟩) (sg_preV (ci := 12) (C := RX12) (T := TX12) (N := 55) hA hK hP hS hZ 0 (by decide) rfl rfl) rfl rfl hl.1 rfl (lv_room (Nat.le_of_ble_eq_true rfl)) dX12_setsAs_40 ⟨Nat.le_refl _, Nat.le_refl _⟩) hA hS (fun f_4 L_5 Q_6 H locs hq hP hS => ?_)
  obtain ⟨⟨hI, hk_f_4, eL9, eQ9⟩, p_7⟩ := hq
  rw [eL9, eQ9] at hP; clear eL9 eQ9
  have hF : sgK WkX12_setsAs_6_f1_f6 f f_4 := sgK.tr hF hk_f_4 (by decide)
  obtain ⟨v_8, ev_8⟩ : ∃ z : Int32, z = f_4 0 48 := ⟨_, rfl⟩
  have q_9 : 0 ≤ v_8.toInt ∧ v_8.toInt ≤ 19 := by rw [ev_8]; exact hI 0 48
  have q_10 : (f_4 0 48).toInt = v_8.toInt := (congrArg Int32.toInt (show f_4 0 48 = v_8 from ev_8.symm))
  have q_11 : (f_4 0 48).toInt = v_8.toInt := (congrArg Int32.toInt (show f_4 0 48 = v_8 from ev_8.symm))
  refine lv_aload_n hx hb dX12_setsAs_43 rfl (lv_at hl 0 rfl) ?_
  refine lv_iconst (v := 0) hx hb dX12_setsAs_44 (by decide) ?_
  refine lv_iload_n hx hb dX12_setsAs_45 rfl (lv_at hl 2 rfl) ?_
  have c_12 : v_8 = 2 := Int32.toInt_inj.mp (by have k9 : (2 : Int32).toInt = 2 := (by decide); omega)
  have q_13 : (f_4 0 48).toInt = 2 := (congrArg Int32.toInt (show f_4 0 48 = 2 from (Eq.trans ev_8.symm c_12))).trans (by decide)
  have q_14 : (f_4 0 48).toInt = 2 := (congrArg Int32.toInt (show f_4 0 48 = 2 from (Eq.trans ev_8.symm c_12))).trans (by decide)
  refine sg_calli (va_runV (As := [.int 0, .int x1]) (rest := []) ⟨hx, hb, hml, hown, hts⟩ (kX12_setsAs_0_f2_f6 l D ca za h hh f_4 L Q hI x1 (Eq.trans ev_8.symm c_12) ((hk_f_4 0 49 (by decide)).trans hf_0_49) (by have k0 : (0 : Int32).toInt = 0 := (by decide); omega) H.size) (cwV 2 hts (gw_V (fun _ h => List.mem_cons_of_mem _ h) mw_744 mw_745 mw_746 mw_619 mw_743) rfl rfl rfl (by decide +kernel) ⟨Nat.le_of_ble_eq_true rfl, Nat.le_of_ble_eq_true rfl⟩) (sg_preV (ci := 12) (C := RX12) (T := TX12) (N := 55) hA hK hP hS hZ 0 (by decide) rfl rfl) rfl rfl hl.1 rfl (lv_room (Nat.le_of_ble_eq_true rfl)) dX12_setsAs_46 ⟨Nat.le_refl _, Nat.le_refl _⟩) hA hS (fun r_18 f_15 L_16 Q_17 H locs hq hP hS => ?_)
  obtain ⟨⟨hI, hk_f_15, eL9, eQ9⟩, hq, p_19⟩ := hq
  rw [eL9, eQ9] at hP; clear eL9 eQ9
  have hF : sgK WkX12_setsAs_6_f1_f6 f f_15 := sgK.tr hF hk_f_15 (by decide)
  obtain ⟨v_20, ev_20⟩ : ∃ z : Int32, z = f_15 0 48 := ⟨_, rfl⟩
  have q_21 : 0 ≤ v_20.toInt ∧ v_20.toInt ≤ 19 := by rw [ev_20]; exact hI 0 48
  have q_22 : (f_15 0 48).toInt = v_20.toInt := (congrArg Int32.toInt (show f_15 0 48 = v_20 from ev_20.symm))
  have q_23 : (f_15 0 48).toInt = v_20.toInt := (congrArg Int32.toInt (show f_15 0 48 = v_20 from ev_20.symm))
  have k_24 : (0 : Int32).toInt = 0 := by decide
  refine lv_iconst (v := 2) hx hb dX12_setsAs_49 (by decide) ?_
  refine lv_imul hx hb dX12_setsAs_50 ?_
  refine lv_topi (fun v_25 ev_25 => ?_)
  have q_26 : (f_15 0 48).toInt = v_20.toInt := (congrArg Int32.toInt (show f_15 0 48 = v_20 from ev_20.symm))
  have q_27 : (f_15 0 48).toInt = v_20.toInt := (congrArg Int32.toInt (show f_15 0 48 = v_20 from ev_20.symm))
  exact hret _ _ _ _ (v_25) f_15 L Q dX12_setsAs_51 hP hS ⟨⟨hI, hF, rfl, rfl⟩, trivial, (by omega)⟩

abbrev WkX12_sitsAs_6_f0_f6 : List (Nat × Nat × Option Nat) := [(0, 0, some 48), (21, 21, none)]
set_option maxHeartbeats 4000000 in
set_option maxRecDepth 100000 in
theorem kX12_sitsAs_6_f0_f6 (l : Launch) (D : va_G) (ca : Nat → ClassId) (za h : Nat → Nat) (hh : sgH 26 h) (f : sg_F) (L : sg_L) (Q : sg_Q) (hI : sgI loM hiM f) (x1 : Int32) (hf_0_48 : f 0 48 = 0) (hf_0_49 : f 0 49 = 6) (p0 : 0 ≤ (f 0 48).toInt ∧ (f 0 48).toInt ≤ 0) (sz : Nat) : Met l yX12_sitsAs gwX12_sitsAs { frames := 3, cells := 0, slots := 0, locals := 65 } (sgP D vwCl (tyX ca) 26 h (eM ca h) zcM za f L Q sz [.ref (h 0), .int 6, .int x1]) (sgQi D vwCl 26 h (eM ca h) sz (fun r f1 L1 Q1 => ((sgI loM hiM f1 ∧ sgK WkX12_sitsAs_6_f0_f6 f f1 ∧ L1 = L ∧ Q1 = Q) ∧ True ∧ (3 ≤ (f1 0 48).toInt ∧ (f1 0 48).toInt ≤ 3)))) 0 0 (sgA 26 h sz) := by
  refine sg_ofWi (cc := cX12_sitsAs) (maxL := 4) RX12 (by decide) rfl rfl (Nat.le_of_ble_eq_true rfl) ?_
  intro p e s m below meth cd Qz ls hx hb hml hown hts hK hZ hP hS hl hret
  have hA := sgY.self (n := 26) (h := h) (sz := s.heap.size)
  have hl : lv_has ls 4 [(0, .ref (h 0)), (1, .int 6), (2, .int x1)] := hl
  obtain ⟨H, hH⟩ : ∃ z : Heap, z = s.heap := ⟨_, rfl⟩
  obtain ⟨locs, hlo⟩ : ∃ z : List Loc, z = [] := ⟨_, rfl⟩
  have hP : va_P D vwCl (sgw 26 h (eM ca h) f L Q) H := by rw [hH]; exact hP
  have hS : va_S (sgA 26 h s.heap.size) s.heap H locs := by rw [hH, hlo]; exact hS
  suffices hgo : W p l e ({ frames := 3, cells := 0, slots := 0, locals := 65 }) s m ([.ref (h 0), .int 6, .int x1] : List Value).toArray below meth cd H locs 0 0 Qz (F0 m 0 ls []) by rw [hH, hlo] at hgo; exact hgo
  clear hH hlo
  have o_1 : (f 0 48).toInt = 0 := (congrArg Int32.toInt (show f 0 48 = 0 from hf_0_48)).trans (by decide)
  have hF : sgK WkX12_sitsAs_6_f0_f6 f f := sgK.rf
  refine lv_iload_n hx hb dX12_sitsAs_0 rfl (lv_at hl 1 rfl) ?_
  refine lv_iconst (v := 3) hx hb dX12_sitsAs_1 (by decide) ?_
  refine lv_icmp_eq (tgt := 10) hx hb dX12_sitsAs_2 (by decide) (fun c => absurd c (by decide)) (fun c => ?_)
  refine lv_iload_n hx hb dX12_sitsAs_5 rfl (lv_at hl 1 rfl) ?_
  refine lv_iconst (v := 5) hx hb dX12_sitsAs_6 (by decide) ?_
  refine lv_icmp_ne (tgt := 25) hx hb dX12_sitsAs_7 (by decide) (fun c => ?_) (fun c => absurd c (by decide))
  refine lv_iload_n hx hb dX12_sitsAs_25 rfl (lv_at hl 1 rfl) ?_
  refine lv_iconst (v := 2) hx hb dX12_sitsAs_26 (by decide) ?_
  refine lv_icmp_ne (tgt := 44) hx hb dX12_sitsAs_27 (by decide) (fun c => ?_) (fun c => absurd c (by decide))
  refine lv_iload_n hx hb dX12_sitsAs_44 rfl (lv_at hl 1 rfl) ?_
  refine lv_bipush (v := 7) hx hb dX12_sitsAs_45 (by decide) ?_
  refine lv_icmp_ne (tgt := 75) hx hb dX12_sitsAs_47 (by decide) (fun c => ?_) (fun c => absurd c (by decide))
  refine lv_aload_n hx hb dX12_sitsAs_75 rfl (lv_at hl 0 rfl) ?_
  refine lv_bipush (v := 10) hx hb dX12_sitsAs_76 (by decide) ?_
  have q_2 : (f 0 48).toInt = 0 := (congrArg Int32.toInt (show f 0 48 = 0 from hf_0_48)).trans (by decide)
  have q_3 : (f 0 48).toInt = 0 := (congrArg Int32.toInt (show f 0 48 = 0 from hf_0_48)).trans (by decide)
  refine sg_callv (va_runV (As := [.int 10]) (rest := []) ⟨hx, hb, hml, hown, hts⟩ (kX12_begins_10_f0 l D ca za h hh f L Q hI hf_0_48 (by have k0 : (10 : Int32).toInt = 10 := (by decide); omega) H.size) (cwV 1 hts (gw_V (fun _ h => List.mem_cons_of_mem _ h) mw_734 mw_735 mw_736 mw_619 mw_733) rfl rfl rfl (by decide +kernel) ⟨Nat.le_of_ble_eq_true rfl, Nat.le_of_ble_eq_true rfl⟩) (sg_preV (ci := 12) (C := RX12) (T := TX12) (N := 55) hA hK hP hS hZ 0 (by decide) rfl rfl) rfl rfl hl.1 rfl (lv_room (Nat.le_of_ble_eq_true rfl)) dX12_sitsAs_78 ⟨Nat.le_refl _, Nat.le_refl _⟩) hA hS (fun f_4 L_5 Q_6 H locs hq hP hS => ?_)
  obtain ⟨⟨hI, hk_f_4, eL9, eQ9⟩, p_7⟩ := hq
  rw [eL9, eQ9] at hP; clear eL9 eQ9
  have hF : sgK WkX12_sitsAs_6_f0_f6 f f_4 := sgK.tr hF hk_f_4 (by decide)
  obtain ⟨v_8, ev_8⟩ : ∃ z : Int32, z = f_4 0 48 := ⟨_, rfl⟩
  have q_9 : 0 ≤ v_8.toInt ∧ v_8.toInt ≤ 19 := by rw [ev_8]; exact hI 0 48
  have q_10 : (f_4 0 48).toInt = v_8.toInt := (congrArg Int32.toInt (show f_4 0 48 = v_8 from ev_8.symm))
  have q_11 : (f_4 0 48).toInt = v_8.toInt := (congrArg Int32.toInt (show f_4 0 48 = v_8 from ev_8.symm))
  refine lv_aload_n hx hb dX12_sitsAs_81 rfl (lv_at hl 0 rfl) ?_
  refine lv_aload_n hx hb dX12_sitsAs_82 rfl (lv_at hl 0 rfl) ?_
  refine sg_get (ci := 12) (v := .int 6) (C := RX12) (T := TX12) (N := 55) hx hb hts (fun w h => List.mem_cons_of_mem _ (gx_12 w h)) hown hK hP 0 (by decide) rfl rfl 49 (by decide) (hts _ (List.mem_cons_of_mem _ mw_679)) (fun _ h9 => h9) (congrArg (fun z => some (Value.int z)) (show f_4 0 49 = 6 from ((hk_f_4 0 49 (by decide)).trans hf_0_49))) dX12_sitsAs_83 ?_
  refine lv_iload_n hx hb dX12_sitsAs_86 rfl (lv_at hl 2 rfl) ?_
  have c_12 : v_8 = 1 := Int32.toInt_inj.mp (by have k9 : (1 : Int32).toInt = 1 := (by decide); omega)
  have q_13 : (f_4 0 48).toInt = 1 := (congrArg Int32.toInt (show f_4 0 48 = 1 from (Eq.trans ev_8.symm c_12))).trans (by decide)
  have q_14 : (f_4 0 48).toInt = 1 := (congrArg Int32.toInt (show f_4 0 48 = 1 from (Eq.trans ev_8.symm c_12))).trans (by decide)
  refine sg_calli (va_runV (As := [.int 6, .int x1]) (rest := []) ⟨hx, hb, hml, hown, hts⟩ (kX12_setsAs_6_f1_f6 l D ca za h hh f_4 L Q hI x1 (Eq.trans ev_8.symm c_12) ((hk_f_4 0 49 (by decide)).trans hf_0_49) (by have k0 : (6 : Int32).toInt = 6 := (by decide); omega) H.size) (cwV 2 hts (gw_V (fun _ h => List.mem_cons_of_mem _ h) mw_744 mw_745 mw_746 mw_619 mw_743) rfl rfl rfl (by decide +kernel) ⟨Nat.le_of_ble_eq_true rfl, Nat.le_of_ble_eq_true rfl⟩) (sg_preV (ci := 12) (C := RX12) (T := TX12) (N := 55) hA hK hP hS hZ 0 (by decide) rfl rfl) rfl rfl hl.1 rfl (lv_room (Nat.le_of_ble_eq_true rfl)) dX12_sitsAs_87 ⟨Nat.le_refl _, Nat.le_refl _⟩) hA hS (fun r_18 f_15 L_16 Q_17 H locs hq hP hS => ?_)
  obtain ⟨⟨hI, hk_f_15, eL9, eQ9⟩, hq, p_19⟩ := hq
  rw [eL9, eQ9] at hP; clear eL9 eQ9
  have hF : sgK WkX12_sitsAs_6_f0_f6 f f_15 := sgK.tr hF hk_f_15 (by decide)
  obtain ⟨v_20, ev_20⟩ : ∃ z : Int32, z = f_15 0 48 := ⟨_, rfl⟩
  have q_21 : 0 ≤ v_20.toInt ∧ v_20.toInt ≤ 19 := by rw [ev_20]; exact hI 0 48
  have q_22 : (f_15 0 48).toInt = v_20.toInt := (congrArg Int32.toInt (show f_15 0 48 = v_20 from ev_20.symm))
  have q_23 : (f_15 0 48).toInt = v_20.toInt := (congrArg Int32.toInt (show f_15 0 48 = v_20 from ev_20.symm))
  have k_24 : (6 : Int32).toInt = 6 := by decide
  refine lv_iconst (v := 2) hx hb dX12_sitsAs_90 (by decide) ?_
  refine lv_imul hx hb dX12_sitsAs_91 ?_
  refine lv_topi (fun v_25 ev_25 => ?_)
  have q_26 : (f_15 0 48).toInt = v_20.toInt := (congrArg Int32.toInt (show f_15 0 48 = v_20 from ev_20.symm))
  have q_27 : (f_15 0 48).toInt = v_20.toInt := (congrArg Int32.toInt (show f_15 0 48 = v_20 from ev_20.symm))
  exact hret _ _ _ _ (v_25) f_15 L Q dX12_sitsAs_92 hP hS ⟨⟨hI, hF, rfl, rfl⟩, trivial, (by omega)⟩

abbrev WkX12_begins_80_f0 : List (Nat × Nat × Option Nat) := [(0, 0, some 48), (21, 21, none)]
set_option maxHeartbeats 4000000 in
set_option maxRecDepth 100000 in
theorem kX12_begins_80_f0 (l : Launch) (D : va_G) (ca : Nat → ClassId) (za h : Nat → Nat) (hh : sgH 26 h) (f : sg_F) (L : sg_L) (Q : sg_Q) (hI : sgI loM hiM f) (hf_0_48 : f 0 48 = 0) (p0 : 0 ≤ (f 0 48).toInt ∧ (f 0 48).toInt ≤ 0) (sz : Nat) : Met l yX12_begins gwX12_begins { frames := 0, cells := 0, slots := 0, locals := 0 } (sgP D vwCl (tyX ca) 26 h (eM ca h) zcM za f L Q sz [.ref (h 0), .int 80]) (sgQv D vwCl 26 h (eM ca h) sz (fun f1 L1 Q1 => ((sgI loM hiM f1 ∧ sgK WkX12_begins_80_f0 f f1 ∧ L1 = L ∧ Q1 = Q) ∧ (1 ≤ (f1 0 48).toInt ∧ (f1 0 48).toInt ≤ 1)))) 0 0 (sgA 26 h sz) := by
  refine sg_ofWv (cc := cX12_begins) (maxL := 2) RX12 (by decide) rfl rfl (Nat.le_of_ble_eq_true rfl) ?_
  intro p e s m below meth cd Qz ls hx hb hml hown hts hK hZ hP hS hl hret
  have hA := sgY.self (n := 26) (h := h) (sz := s.heap.size)
  have hl : lv_has ls 2 [(0, .ref (h 0)), (1, .int 80)] := hl
  obtain ⟨H, hH⟩ : ∃ z : Heap, z = s.heap := ⟨_, rfl⟩
  obtain ⟨locs, hlo⟩ : ∃ z : List Loc, z = [] := ⟨_, rfl⟩
  have hP : va_P D vwCl (sgw 26 h (eM ca h) f L Q) H := by rw [hH]; exact hP
  have hS : va_S (sgA 26 h s.heap.size) s.heap H locs := by rw [hH, hlo]; exact hS
  suffices hgo : W p l e ({ frames := 0, cells := 0, slots := 0, locals := 0 }) s m ([.ref (h 0), .int 80] : List Value).toArray below meth cd H locs 0 0 Qz (F0 m 0 ls []) by rw [hH, hlo] at hgo; exact hgo
  clear hH hlo
  have o_1 : (f 0 48).toInt = 0 := (congrArg Int32.toInt (show f 0 48 = 0 from hf_0_48)).trans (by decide)
  have hF : sgK WkX12_begins_80_f0 f f := sgK.rf
  have blk_19 : ∀ (fp_19 : sg_F) (H : Heap) (locs : List Loc) (ls : Array Slot), 0 ≤ (fp_19 0 48).toInt ∧ (fp_19 0 48).toInt ≤ 0 → sgI loM hiM fp_19 → sgK WkX12_begins_80_f0 f fp_19 → va_P D vwCl (sgw 26 h (eM ca h) fp_19 L Q) H → va_S (sgA 26 h s.heap.size) s.heap H locs → lv_has ls 2 [(0, .ref (h 0))] → W p l e ({ frames := 0, cells := 0, slots := 0, locals := 0 }) s m ([.ref (h 0), .int 80] : List Value).toArray below meth cd H locs 0 0 Qz (F0 m 19 ls []) := by
    intro fp_19 H locs ls hy0_19 hI hF hP hS hl
    obtain ⟨v_2, ev_2⟩ : ∃ z : Int32, z = fp_19 0 48 := ⟨_, rfl⟩
    have q_3 : 0 ≤ v_2.toInt ∧ v_2.toInt ≤ 19 := by rw [ev_2]; exact hI 0 48
    have q_4 : (fp_19 0 48).toInt = v_2.toInt := by rw [ev_2]
    refine lv_aload_n hx hb dX12_begins_19 rfl (lv_at hl 0 rfl) ?_
    refine lv_dup hx hb dX12_begins_20 rfl ?_
    refine sg_get (ci := 12) (v := .int v_2) (C := RX12) (T := TX12) (N := 55) hx hb hts (fun w h => List.mem_cons_of_mem _ (gx_12 w h)) hown hK hP 0 (by decide) rfl rfl 48 (by decide) (hts _ (List.mem_cons_of_mem _ mw_621)) (fun _ h9 => h9) (congrArg (fun z => some (Value.int z)) (show fp_19 0 48 = v_2 from ev_2.symm)) dX12_begins_21 ?_
    refine lv_iconst (v := 1) hx hb dX12_begins_24 (by decide) ?_
    refine lv_iadd hx hb dX12_begins_25 ?_
    refine lv_topi (fun v_5 ev_5 => ?_)
    have q_6 : v_5.toInt = v_2.toInt + 1 := by rw [ev_5]; have k1 : (1 : Int32).toInt = 1 := (by decide); exact (bn_addI (by omega) (by omega)).trans (by omega)
    refine sg_put (ci := 12) (x := v_5) (ty := .int) (C := RX12) (T := TX12) (N := 55) hx hb hts (fun w h => List.mem_cons_of_mem _ (gx_12 w h)) tyX12 tyX12_ok nmX12 hown hh hA hK hP hS 0 (by decide) rfl rfl 48 (by decide) (hts _ (List.mem_cons_of_mem _ mw_621)) (fun _ h9 => h9) rfl rfl (by decide +kernel) rfl rfl (Nat.le_of_ble_eq_true rfl) dX12_begins_26 (fun f_7 H locs ef_7 hP hS => ?_)
    have hI : sgI loM hiM f_7 := by rw [ef_7]; exact sgI.put hI 0 48 (show 0 ≤ (v_5 : Int32).toInt ∧ (v_5 : Int32).toInt ≤ 19 from by omega)
    have hF : sgK WkX12_begins_80_f0 f f_7 := sgK.put hF ef_7 (by rfl)
    have q_8 : (f_7 0 48).toInt = v_5.toInt := (congrArg Int32.toInt (show f_7 0 48 = v_5 from (by rw [ef_7, sg_up_s, sgu_s])))
    have q_9 : (f_7 0 48).toInt = v_5.toInt := (congrArg Int32.toInt (show f_7 0 48 = v_5 from (by rw [ef_7, sg_up_s, sgu_s])))
    exact hret _ _ _ _ f_7 L Q dX12_begins_29 hP hS ⟨⟨hI, hF, rfl, rfl⟩, (by omega)⟩
  refine lv_aload_n hx hb dX12_begins_0 rfl (lv_at hl 0 rfl) ?_
  refine sg_get (ci := 12) (v := .int 0) (C := RX12) (T := TX12) (N := 55) hx hb hts (fun w h => List.mem_cons_of_mem _ (gx_12 w h)) hown hK hP 0 (by decide) rfl rfl 48 (by decide) (hts _ (List.mem_cons_of_mem _ mw_621)) (fun _ h9 => h9) (congrArg (fun z => some (Value.int z)) (show f 0 48 = 0 from hf_0_48)) dX12_begins_1 ?_
  refine lv_bipush (v := 24) hx hb dX12_begins_4 (by decide) ?_
  refine lv_icmp_ge (tgt := 19) hx hb dX12_begins_6 (by decide) (fun c => absurd c (by decide)) (fun c => ?_)
  refine lv_aload_n hx hb dX12_begins_9 rfl (lv_at hl 0 rfl) ?_
  refine sg_get (ci := 12) (v := .ref (h 21)) (C := RX12) (T := TX12) (N := 55) hx hb hts (fun w h => List.mem_cons_of_mem _ (gx_12 w h)) hown hK hP 0 (by decide) rfl rfl 47 (by decide) (hts _ (List.mem_cons_of_mem _ mw_718)) (fun _ h9 => h9) rfl dX12_begins_10 ?_
  refine lv_aload_n hx hb dX12_begins_13 rfl (lv_at hl 0 rfl) ?_
  refine sg_get (ci := 12) (v := .int 0) (C := RX12) (T := TX12) (N := 55) hx hb hts (fun w h => List.mem_cons_of_mem _ (gx_12 w h)) hown hK hP 0 (by decide) rfl rfl 48 (by decide) (hts _ (List.mem_cons_of_mem _ mw_621)) (fun _ h9 => h9) (congrArg (fun z => some (Value.int z)) (show f 0 48 = 0 from hf_0_48)) dX12_begins_14 ?_
  refine lv_iload_n hx hb dX12_begins_17 rfl (lv_at hl 1 rfl) ?_
  refine sg_iast hx hb hh hA hK hP hS 21 (by decide) 0 (fun _ => rfl) rfl (i := 0) (x := 80) (vp_in_iff.mpr (by decide)) dX12_begins_18 (fun f_10 H locs ef_10 hP hS => ?_)
  have hI : sgI loM hiM f_10 := by rw [ef_10]; exact sgI.put hI 21 (Int32.toNatClampNeg 0) (show 0 ≤ (80 : Int32).toInt ∧ (80 : Int32).toInt ≤ 81 from by decide)
  have hF : sgK WkX12_begins_80_f0 f f_10 := sgK.put hF ef_10 (by rfl)
  exact blk_19 f_10 _ _ _ (by have zz0_48 : (f_10 0 48).toInt = 0 := (congrArg Int32.toInt (show f_10 0 48 = 0 from (by rw [ef_10, sg_up_n (by decide)]; exact hf_0_48))).trans (by decide); omega) hI hF hP hS (lv_sub hl [0] rfl)

abbrev WkX12_begins_20_f2 : List (Nat × Nat × Option Nat) := [(0, 0, some 48), (21, 21, none)]
set_option maxHeartbeats 4000000 in
set_option maxRecDepth 100000 in
theorem kX12_begins_20_f2 (l : Launch) (D : va_G) (ca : Nat → ClassId) (za h : Nat → Nat) (hh : sgH 26 h) (f : sg_F) (L : sg_L) (Q : sg_Q) (hI : sgI loM hiM f) (hf_0_48 : f 0 48 = 2) (p0 : 2 ≤ (f 0 48).toInt ∧ (f 0 48).toInt ≤ 2) (sz : Nat) : Met l yX12_begins gwX12_begins { frames := 0, cells := 0, slots := 0, locals := 0 } (sgP D vwCl (tyX ca) 26 h (eM ca h) zcM za f L Q sz [.ref (h 0), .int 20]) (sgQv D vwCl 26 h (eM ca h) sz (fun f1 L1 Q1 => ((sgI loM hiM f1 ∧ sgK WkX12_begins_20_f2 f f1 ∧ L1 = L ∧ Q1 = Q) ∧ (3 ≤ (f1 0 48).toInt ∧ (f1 0 48).toInt ≤ 3)))) 0 0 (sgA 26 h sz) := by
  refine sg_ofWv (cc := cX12_begins) (maxL := 2) RX12 (by decide) rfl rfl (Nat.le_of_ble_eq_true rfl) ?_
  intro p e s m below meth cd Qz ls hx hb hml hown hts hK hZ hP hS hl hret
  have hA := sgY.self (n := 26) (h := h) (sz := s.heap.size)
  have hl : lv_has ls 2 [(0, .ref (h 0)), (1, .int 20)] := hl
  obtain ⟨H, hH⟩ : ∃ z : Heap, z = s.heap := ⟨_, rfl⟩
  obtain ⟨locs, hlo⟩ : ∃ z : List Loc, z = [] := ⟨_, rfl⟩
  have hP : va_P D vwCl (sgw 26 h (eM ca h) f L Q) H := by rw [hH]; exact hP
  have hS : va_S (sgA 26 h s.heap.size) s.heap H locs := by rw [hH, hlo]; exact hS
  suffices hgo : W p l e ({ frames := 0, cells := 0, slots := 0, locals := 0 }) s m ([.ref (h 0), .int 20] : List Value).toArray below meth cd H locs 0 0 Qz (F0 m 0 ls []) by rw [hH, hlo] at hgo; exact hgo
  clear hH hlo
  have o_1 : (f 0 48).toInt = 2 := (congrArg Int32.toInt (show f 0 48 = 2 from hf_0_48)).trans (by decide)
  have hF : sgK WkX12_begins_20_f2 f f := sgK.rf
  have blk_19 : ∀ (fp_19 : sg_F) (H : Heap) (locs : List Loc) (ls : Array Slot), 2 ≤ (fp_19 0 48).toInt ∧ (fp_19 0 48).toInt ≤ 2 → sgI loM hiM fp_19 → sgK WkX12_begins_20_f2 f fp_19 → va_P D vwCl (sgw 26 h (eM ca h) fp_19 L Q) H → va_S (sgA 26 h s.heap.size) s.heap H locs → lv_has ls 2 [(0, .ref (h 0))] → W p l e ({ frames := 0, cells := 0, slots := 0, locals := 0 }) s m ([.ref (h 0), .int 20] : List Value).toArray below meth cd H locs 0 0 Qz (F0 m 19 ls []) := by
    intro fp_19 H locs ls hy0_19 hI hF hP hS hl
    obtain ⟨v_2, ev_2⟩ : ∃ z : Int32, z = fp_19 0 48 := ⟨_, rfl⟩
    have q_3 : 0 ≤ v_2.toInt ∧ v_2.toInt ≤ 19 := by rw [ev_2]; exact hI 0 48
    have q_4 : (fp_19 0 48).toInt = v_2.toInt := by rw [ev_2]
    refine lv_aload_n hx hb dX12_begins_19 rfl (lv_at hl 0 rfl) ?_
    refine lv_dup hx hb dX12_begins_20 rfl ?_
    refine sg_get (ci := 12) (v := .int v_2) (C := RX12) (T := TX12) (N := 55) hx hb hts (fun w h => List.mem_cons_of_mem _ (gx_12 w h)) hown hK hP 0 (by decide) rfl rfl 48 (by decide) (hts _ (List.mem_cons_of_mem _ mw_621)) (fun _ h9 => h9) (congrArg (fun z => some (Value.int z)) (show fp_19 0 48 = v_2 from ev_2.symm)) dX12_begins_21 ?_
    refine lv_iconst (v := 1) hx hb dX12_begins_24 (by decide) ?_
    refine lv_iadd hx hb dX12_begins_25 ?_
    refine lv_topi (fun v_5 ev_5 => ?_)
    have q_6 : v_5.toInt = v_2.toInt + 1 := by rw [ev_5]; have k1 : (1 : Int32).toInt = 1 := (by decide); exact (bn_addI (by omega) (by omega)).trans (by omega)
    refine sg_put (ci := 12) (x := v_5) (ty := .int) (C := RX12) (T := TX12) (N := 55) hx hb hts (fun w h => List.mem_cons_of_mem _ (gx_12 w h)) tyX12 tyX12_ok nmX12 hown hh hA hK hP hS 0 (by decide) rfl rfl 48 (by decide) (hts _ (List.mem_cons_of_mem _ mw_621)) (fun _ h9 => h9) rfl rfl (by decide +kernel) rfl rfl (Nat.le_of_ble_eq_true rfl) dX12_begins_26 (fun f_7 H locs ef_7 hP hS => ?_)
    have hI : sgI loM hiM f_7 := by rw [ef_7]; exact sgI.put hI 0 48 (show 0 ≤ (v_5 : Int32).toInt ∧ (v_5 : Int32).toInt ≤ 19 from by omega)
    have hF : sgK WkX12_begins_20_f2 f f_7 := sgK.put hF ef_7 (by rfl)
    have q_8 : (f_7 0 48).toInt = v_5.toInt := (congrArg Int32.toInt (show f_7 0 48 = v_5 from (by rw [ef_7, sg_up_s, sgu_s])))
    have q_9 : (f_7 0 48).toInt = v_5.toInt := (congrArg Int32.toInt (show f_7 0 48 = v_5 from (by rw [ef_7, sg_up_s, sgu_s])))
    exact hret _ _ _ _ f_7 L Q dX12_begins_29 hP hS ⟨⟨hI, hF, rfl, rfl⟩, (by omega)⟩
  refine lv_aload_n hx hb dX12_begins_0 rfl (lv_at hl 0 rfl) ?_
  refine sg_get (ci := 12) (v := .int 2) (C := RX12) (T := TX12) (N := 55) hx hb hts (fun w h => List.mem_cons_of_mem _ (gx_12 w h)) hown hK hP 0 (by decide) rfl rfl 48 (by decide) (hts _ (List.mem_cons_of_mem _ mw_621)) (fun _ h9 => h9) (congrArg (fun z => some (Value.int z)) (show f 0 48 = 2 from hf_0_48)) dX12_begins_1 ?_
  refine lv_bipush (v := 24) hx hb dX12_begins_4 (by decide) ?_
  refine lv_icmp_ge (tgt := 19) hx hb dX12_begins_6 (by decide) (fun c => absurd c (by decide)) (fun c => ?_)
  refine lv_aload_n hx hb dX12_begins_9 rfl (lv_at hl 0 rfl) ?_
  refine sg_get (ci := 12) (v := .ref (h 21)) (C := RX12) (T := TX12) (N := 55) hx hb hts (fun w h => List.mem_cons_of_mem _ (gx_12 w h)) hown hK hP 0 (by decide) rfl rfl 47 (by decide) (hts _ (List.mem_cons_of_mem _ mw_718)) (fun _ h9 => h9) rfl dX12_begins_10 ?_
  refine lv_aload_n hx hb dX12_begins_13 rfl (lv_at hl 0 rfl) ?_
  refine sg_get (ci := 12) (v := .int 2) (C := RX12) (T := TX12) (N := 55) hx hb hts (fun w h => List.mem_cons_of_mem _ (gx_12 w h)) hown hK hP 0 (by decide) rfl rfl 48 (by decide) (hts _ (List.mem_cons_of_mem _ mw_621)) (fun _ h9 => h9) (congrArg (fun z => some (Value.int z)) (show f 0 48 = 2 from hf_0_48)) dX12_begins_14 ?_
  refine lv_iload_n hx hb dX12_begins_17 rfl (lv_at hl 1 rfl) ?_
  refine sg_iast hx hb hh hA hK hP hS 21 (by decide) 0 (fun _ => rfl) rfl (i := 2) (x := 20) (vp_in_iff.mpr (by decide)) dX12_begins_18 (fun f_10 H locs ef_10 hP hS => ?_)
  have hI : sgI loM hiM f_10 := by rw [ef_10]; exact sgI.put hI 21 (Int32.toNatClampNeg 2) (show 0 ≤ (20 : Int32).toInt ∧ (20 : Int32).toInt ≤ 81 from by decide)
  have hF : sgK WkX12_begins_20_f2 f f_10 := sgK.put hF ef_10 (by rfl)
  exact blk_19 f_10 _ _ _ (by have zz0_48 : (f_10 0 48).toInt = 2 := (congrArg Int32.toInt (show f_10 0 48 = 2 from (by rw [ef_10, sg_up_n (by decide)]; exact hf_0_48))).trans (by decide); omega) hI hF hP hS (lv_sub hl [0] rfl)

abbrev WkX12_setsAs_0_f3_f7 : List (Nat × Nat × Option Nat) := [(0, 0, some 48), (21, 21, none)]
set_option maxHeartbeats 4000000 in
set_option maxRecDepth 100000 in
theorem kX12_setsAs_0_f3_f7 (l : Launch) (D : va_G) (ca : Nat → ClassId) (za h : Nat → Nat) (hh : sgH 26 h) (f : sg_F) (L : sg_L) (Q : sg_Q) (hI : sgI loM hiM f) (x1 : Int32) (hf_0_48 : f 0 48 = 3) (hf_0_49 : f 0 49 = 7) (p0 : 3 ≤ (f 0 48).toInt ∧ (f 0 48).toInt ≤ 3) (sz : Nat) : Met l yX12_setsAs gwX12_setsAs { frames := 1, cells := 0, slots := 0, locals := 21 } (sgP D vwCl (tyX ca) 26 h (eM ca h) zcM za f L Q sz [.ref (h 0), .int 0, .int x1]) (sgQi D vwCl 26 h (eM ca h) sz (fun r f1 L1 Q1 => ((sgI loM hiM f1 ∧ sgK WkX12_setsAs_0_f3_f7 f f1 ∧ L1 = L ∧ Q1 = Q) ∧ True ∧ (4 ≤ (f1 0 48).toInt ∧ (f1 0 48).toInt ≤ 4)))) 0 0 (sgA 26 h sz) := by
  refine sg_ofWi (cc := cX12_setsAs) (maxL := 3) RX12 (by decide) rfl rfl (Nat.le_of_ble_eq_true rfl) ?_
  intro p e s m below meth cd Qz ls hx hb hml hown hts hK hZ hP hS hl hret
  have hA := sgY.self (n := 26) (h := h) (sz := s.heap.size)
  have hl : lv_has ls 3 [(0, .ref (h 0)), (1, .int 0), (2, .int x1)] := hl
  obtain ⟨H, hH⟩ : ∃ z : Heap, z = s.heap := ⟨_, rfl⟩
  obtain ⟨locs, hlo⟩ : ∃ z : List Loc, z = [] := ⟨_, rfl⟩
  have hP : va_P D vwCl (sgw 26 h (eM ca h) f L Q) H := by rw [hH]; exact hP
  have hS : va_S (sgA 26 h s.heap.size) s.heap H locs := by rw [hH, hlo]; exact hS
  suffices hgo : W p l e ({ frames := 1, cells := 0, slots := 0, locals := 21 }) s m ([.ref (h 0), .int 0, .int x1] : List Value).toArray below meth cd H locs 0 0 Qz (F0 m 0 ls []) by rw [hH, hlo] at hgo; exact hgo
  clear hH hlo
  have o_1 : (f 0 48).toInt = 3 := (congrArg Int32.toInt (show f 0 48 = 3 from hf_0_48)).trans (by decide)
  have hF : sgK WkX12_setsAs_0_f3_f7 f f := sgK.rf
  refine lv_iload_n hx hb dX12_setsAs_0 rfl (lv_at hl 1 rfl) ?_
  refine lv_iconst (v := 1) hx hb dX12_setsAs_1 (by decide) ?_
  refine lv_icmp_eq (tgt := 16) hx hb dX12_setsAs_2 (by decide) (fun c => absurd c (by decide)) (fun c => ?_)
  refine lv_iload_n hx hb dX12_setsAs_5 rfl (lv_at hl 1 rfl) ?_
  refine lv_iconst (v := 4) hx hb dX12_setsAs_6 (by decide) ?_
  refine lv_icmp_eq (tgt := 16) hx hb dX12_setsAs_7 (by decide) (fun c => absurd c (by decide)) (fun c => ?_)
  refine lv_iload_n hx hb dX12_setsAs_10 rfl (lv_at hl 1 rfl) ?_
  refine lv_bipush (v := 7) hx hb dX12_setsAs_11 (by decide) ?_
  refine lv_icmp_ne (tgt := 31) hx hb dX12_setsAs_13 (by decide) (fun c => ?_) (fun c => absurd c (by decide))
  refine lv_iload_n hx hb dX12_setsAs_31 rfl (lv_at hl 1 rfl) ?_
  refine lv_bipush (v := 6) hx hb dX12_setsAs_32 (by decide) ?_
  refine lv_icmp_ne (tgt := 52) hx hb dX12_setsAs_34 (by decide) (fun c => ?_) (fun c => absurd c (by decide))
  refine lv_aload_n hx hb dX12_setsAs_52 rfl (lv_at hl 0 rfl) ?_
  refine lv_iconst (v := 1) hx hb dX12_setsAs_53 (by decide) ?_
  have q_2 : (f 0 48).toInt = 3 := (congrArg Int32.toInt (show f 0 48 = 3 from hf_0_48)).trans (by decide)
  have q_3 : (f 0 48).toInt = 3 := (congrArg Int32.toInt (show f 0 48 = 3 from hf_0_48)).trans (by decide)
  refine sg_callv (va_runV (As := [.int 1]) (rest := []) ⟨hx, hb, hml, hown, hts⟩ (kX12_begins_1_f3 l D ca za h hh f L Q hI hf_0_48 (by have k0 : (1 : Int32).toInt = 1 := (by decide); omega) H.size) (cwV 1 hts (gw_V (fun _ h => List.mem_cons_of_mem _ h) mw_734 mw_735 mw_736 mw_619 mw_733) rfl rfl rfl (by decide +kernel) ⟨Nat.le_of_ble_eq_true rfl, Nat.le_of_ble_eq_true rfl⟩) (sg_preV (ci := 12) (C := RX12) (T := TX12) (N := 55) hA hK hP hS hZ 0 (by decide) rfl rfl) rfl rfl hl.1 rfl (lv_room (Nat.le_of_ble_eq_true rfl)) dX12_setsAs_54 ⟨Nat.le_refl _, Nat.le_refl _⟩) hA hS (fun f_4 L_5 Q_6 H locs hq hP hS => ?_)
  obtain ⟨⟨hI, hk_f_4, eL9, eQ9⟩, p_7⟩ := hq
  rw [eL9, eQ9] at hP; clear eL9 eQ9
  have hF : sgK WkX12_setsAs_0_f3_f7 f f_4 := sgK.tr hF hk_f_4 (by decide)
  obtain ⟨v_8, ev_8⟩ : ∃ z : Int32, z = f_4 0 48 := ⟨_, rfl⟩
  have q_9 : 0 ≤ v_8.toInt ∧ v_8.toInt ≤ 19 := by rw [ev_8]; exact hI 0 48
  have q_10 : (f_4 0 48).toInt = v_8.toInt := (congrArg Int32.toInt (show f_4 0 48 = v_8 from ev_8.symm))
  have q_11 : (f_4 0 48).toInt = v_8.toInt := (congrArg Int32.toInt (show f_4 0 48 = v_8 from ev_8.symm))
  refine lv_iload_n hx hb dX12_setsAs_57 rfl (lv_at hl 2 rfl) ?_
  refine lv_aload_n hx hb dX12_setsAs_58 rfl (lv_at hl 0 rfl) ?_
  refine sg_get (ci := 12) (v := .int (f_4 0 50)) (C := RX12) (T := TX12) (N := 55) hx hb hts (fun w h => List.mem_cons_of_mem _ (gx_12 w h)) hown hK hP 0 (by decide) rfl rfl 50 (by decide) (hts _ (List.mem_cons_of_mem _ mw_680)) (fun _ h9 => h9) rfl dX12_setsAs_59 ?_
  refine lv_topi (fun v_12 ev_12 => ?_)
  have q_13 : 0 ≤ v_12.toInt ∧ v_12.toInt ≤ 49 := by rw [ev_12]; exact hI 0 50
  refine lv_iadd hx hb dX12_setsAs_62 ?_
  refine lv_topi (fun v_14 ev_14 => ?_)
  have q_15 : (f_4 0 48).toInt = v_8.toInt := (congrArg Int32.toInt (show f_4 0 48 = v_8 from ev_8.symm))
  have q_16 : (f_4 0 48).toInt = v_8.toInt := (congrArg Int32.toInt (show f_4 0 48 = v_8 from ev_8.symm))
  exact hret _ _ _ _ (v_14) f_4 L Q dX12_setsAs_63 hP hS ⟨⟨hI, hF, rfl, rfl⟩, trivial, (by omega)⟩

abbrev WkX12_setsAs_7_f2_f7 : List (Nat × Nat × Option Nat) := [(0, 0, some 48), (21, 21, none)]
set_option maxHeartbeats 4000000 in
set_option maxRecDepth 100000 in
theorem kX12_setsAs_7_f2_f7 (l : Launch) (D : va_G) (ca : Nat → ClassId) (za h : Nat → Nat) (hh : sgH 26 h) (f : sg_F) (L : sg_L) (Q : sg_Q) (hI : sgI loM hiM f) (x1 : Int32) (hf_0_48 : f 0 48 = 2) (hf_0_49 : f 0 49 = 7) (p0 : 2 ≤ (f 0 48).toInt ∧ (f 0 48).toInt ≤ 2) (sz : Nat) : Met l yX12_setsAs gwX12_setsAs { frames := 2, cells := 0, slots := 0, locals := 43 } (sgP D vwCl (tyX ca) 26 h (eM ca h) zcM za f L Q sz [.ref (h 0), .int 7, .int x1]) (sgQi D vwCl 26 h (eM ca h) sz (fun r f1 L1 Q1 => ((sgI loM hiM f1 ∧ sgK WkX12_setsAs_7_f2_f7 f f1 ∧ L1 = L ∧ Q1 = Q) ∧ True ∧ (4 ≤ (f1 0 48).toInt ∧ (f1 0 48).toInt ≤ 4)))) 0 0 (sgA 26 h sz) := by
  refine sg_ofWi (cc := cX12_setsAs) (maxL := 3) RX12 (by decide) rfl rfl (Nat.le_of_ble_eq_true rfl) ?_
  intro p e s m below meth cd Qz ls hx hb hml hown hts hK hZ hP hS hl hret
  have hA := sgY.self (n := 26) (h := h) (sz := s.heap.size)
  have hl : lv_has ls 3 [(0, .ref (h 0)), (1, .int 7), (2, .int x1)] := hl
  obtain ⟨H, hH⟩ : ∃ z : Heap, z = s.heap := ⟨_, rfl⟩
  obtain ⟨locs, hlo⟩ : ∃ z : List Loc, z = [] := ⟨_, rfl⟩
  have hP : va_P D vwCl (sgw 26 h (eM ca h) f L Q) H := by rw [hH]; exact hP
  have hS : va_S (sgA 26 h s.heap.size) s.heap H locs := by rw [hH, hlo]; exact hS
  suffices hgo : W p l e ({ frames := 2, cells := 0, slots := 0, locals := 43 }) s m ([.ref (h 0), .int 7, .int x1] : List Value).toArray below meth cd H locs 0 0 Qz (F0 m 0 ls []) by rw [hH, hlo] at hgo; exact hgo
  clear hH hlo
  have o_1 : (f 0 48).toInt = 2 := (congrArg Int32.toInt (show f 0 48 = 2 from hf_0_48)).trans (by decide)
  have hF : sgK WkX12_setsAs_7_f2_f7 f f := sgK.rf
  have blk_16 : ∀ (fp_16 : sg_F) (H : Heap) (locs : List Loc) (ls : Array Slot), 2 ≤ (fp_16 0 48).toInt ∧ (fp_16 0 48).toInt ≤ 2 → 7 ≤ (fp_16 0 49).toInt ∧ (fp_16 0 49).toInt ≤ 7 → sgI loM hiM fp_16 → sgK WkX12_setsAs_7_f2_f7 f fp_16 → va_P D vwCl (sgw 26 h (eM ca h) fp_16 L Q) H → va_S (sgA 26 h s.heap.size) s.heap H locs → lv_has ls 3 [(0, .ref (h 0)), (2, .int x1)] → W p l e ({ frames := 2, cells := 0, slots := 0, locals := 43 }) s m ([.ref (h 0), .int 7, .int x1] : List Value).toArray below meth cd H locs 0 0 Qz (F0 m 16 ls []) := by
    intro fp_16 H locs ls hy0_16 hy1_16 hI hF hP hS hl
    obtain ⟨v_2, ev_2⟩ : ∃ z : Int32, z = fp_16 0 48 := ⟨_, rfl⟩
    have q_3 : 0 ≤ v_2.toInt ∧ v_2.toInt ≤ 19 := by rw [ev_2]; exact hI 0 48
    have q_4 : (fp_16 0 48).toInt = v_2.toInt := by rw [ev_2]
    obtain ⟨v_5, ev_5⟩ : ∃ z : Int32, z = fp_16 0 49 := ⟨_, rfl⟩
    have q_6 : 0 ≤ v_5.toInt ∧ v_5.toInt ≤ 7 := by rw [ev_5]; exact hI 0 49
    have q_7 : (fp_16 0 49).toInt = v_5.toInt := by rw [ev_5]
    have m_8 : fp_16 0 49 = 7 := (hF 0 49 (by decide)).trans hf_0_49
    refine lv_aload_n hx hb dX12_setsAs_16 rfl (lv_at hl 0 rfl) ?_
    refine lv_bipush (v := 20) hx hb dX12_setsAs_17 (by decide) ?_
    have c_9 : v_2 = 2 := Int32.toInt_inj.mp (by have k9 : (2 : Int32).toInt = 2 := (by decide); omega)
    have q_10 : (fp_16 0 48).toInt = 2 := (congrArg Int32.toInt (show fp_16 0 48 = 2 from (Eq.trans ev_2.symm c_9))).trans (by decide)
    have q_11 : (fp_16 0 48).toInt = 2 := (congrArg Int32.toInt (show fp_16 0 48 = 2 from (Eq.trans ev_2.symm c_9))).trans (by decide)
    refine sg_callv (va_runV (As := [.int 20]) (rest := []) ⟨hx, hb, hml, hown, hts⟩ (kX12_begins_20_f2 l D ca za h hh fp_16 L Q hI (Eq.trans ev_2.symm c_9) (by have k0 : (20 : Int32).toInt = 20 := (by decide); omega) H.size) (cwV 1 hts (gw_V (fun _ h => List.mem_cons_of_mem _ h) mw_734 mw_735 mw_736 mw_619 mw_733) rfl rfl rfl (by decide +kernel) ⟨Nat.le_of_ble_eq_true rfl, Nat.le_of_ble_eq_true rfl⟩) (sg_preV (ci := 12) (C := RX12) (T := TX12) (N := 55) hA hK hP hS hZ 0 (by decide) rfl rfl) rfl rfl hl.1 rfl (lv_room (Nat.le_of_ble_eq_true rfl)) dX12_setsAs_19 ⟨Nat.le_refl _, Nat.le_refl _⟩) hA hS (fun f_12 L_13 Q_14 H locs hq hP hS => ?_)
    obtain ⟨⟨hI, hk_f_12, eL9, eQ9⟩, p_15⟩ := hq
    rw [eL9, eQ9] at hP; clear eL9 eQ9
    have hF : sgK WkX12_setsAs_7_f2_f7 f f_12 := sgK.tr hF hk_f_12 (by decide)
    obtain ⟨v_16, ev_16⟩ : ∃ z : Int32, z = f_12 0 48 := ⟨_, rfl⟩
    have q_17 : 0 ≤ v_16.toInt ∧ v_16.toInt ≤ 19 := by rw [ev_16]; exact hI 0 48
    have q_18 : (f_12 0 48).toInt = v_16.toInt := (congrArg Int32.toInt (show f_12 0 48 = v_16 from ev_16.symm))
    have q_19 : (f_12 0 48).toInt = v_16.toInt := (congrArg Int32.toInt (show f_12 0 48 = v_16 from ev_16.symm))
    refine lv_aload_n hx hb dX12_setsAs_22 rfl (lv_at hl 0 rfl) ?_
    refine lv_iconst (v := 0) hx hb dX12_setsAs_23 (by decide) ?_
    refine lv_iload_n hx hb dX12_setsAs_24 rfl (lv_at hl 1 rfl) ?_
    have c_20 : v_16 = 3 := Int32.toInt_inj.mp (by have k9 : (3 : Int32).toInt = 3 := (by decide); omega)
    have q_21 : (f_12 0 48).toInt = 3 := (congrArg Int32.toInt (show f_12 0 48 = 3 from (Eq.trans ev_16.symm c_20))).trans (by decide)
    have q_22 : (f_12 0 48).toInt = 3 := (congrArg Int32.toInt (show f_12 0 48 = 3 from (Eq.trans ev_16.symm c_20))).trans (by decide)
    refine sg_calli (va_runV (As := [.int 0, .int x1]) (rest := []) ⟨hx, hb, hml, hown, hts⟩ (kX12_setsAs_0_f3_f7 l D ca za h hh f_12 L Q hI x1 (Eq.trans ev_16.symm c_20) ((hk_f_12 0 49 (by decide)).trans m_8) (by have k0 : (0 : Int32).toInt = 0 := (by decide); omega) H.size) (cwV 2 hts (gw_V (fun _ h => List.mem_cons_of_mem _ h) mw_744 mw_745 mw_746 mw_619 mw_743) rfl rfl rfl (by decide +kernel) ⟨Nat.le_of_ble_eq_true rfl, Nat.le_of_ble_eq_true rfl⟩) (sg_preV (ci := 12) (C := RX12) (T := TX12) (N := 55) hA hK hP hS hZ 0 (by decide) rfl rfl) rfl rfl hl.1 rfl (lv_room (Nat.le_of_ble_eq_true rfl)) dX12_setsAs_25 ⟨Nat.le_refl _, Nat.le_refl _⟩) hA hS (fun r_26 f_23 L_24 Q_25 H locs hq hP hS => ?_)
    obtain ⟨⟨hI, hk_f_23, eL9, eQ9⟩, hq, p_27⟩ := hq
    rw [eL9, eQ9] at hP; clear eL9 eQ9
    have hF : sgK WkX12_setsAs_7_f2_f7 f f_23 := sgK.tr hF hk_f_23 (by decide)
    obtain ⟨v_28, ev_28⟩ : ∃ z : Int32, z = f_23 0 48 := ⟨_, rfl⟩
    have q_29 : 0 ≤ v_28.toInt ∧ v_28.toInt ≤ 19 := by rw [ev_28]; exact hI 0 48
    have q_30 : (f_23 0 48).toInt = v_28.toInt := (congrArg Int32.toInt (show f_23 0 48 = v_28 from ev_28.symm))
    have q_31 : (f_23 0 48).toInt = v_28.toInt := (congrArg Int32.toInt (show f_23 0 48 = v_28 from ev_28.symm))
    have k_32 : (0 : Int32).toInt = 0 := by decide
    refine lv_iconst (v := 3) hx hb dX12_setsAs_28 (by decide) ?_
    refine lv_iadd hx hb dX12_setsAs_29 ?_
    refine lv_topi (fun v_33 ev_33 => ?_)
    have q_34 : (f_23 0 48).toInt = v_28.toInt := (congrArg Int32.toInt (show f_23 0 48 = v_28 from ev_28.symm))
    have q_35 : (f_23 0 48).toInt = v_28.toInt := (congrArg Int32.toInt (show f_23 0 48 = v_28 from ev_28.symm))
    exact hret _ _ _ _ (v_33) f_23 L Q dX12_setsAs_30 hP hS ⟨⟨hI, hF, rfl, rfl⟩, trivial, (by omega)⟩
  refine lv_iload_n hx hb dX12_setsAs_0 rfl (lv_at hl 1 rfl) ?_
  refine lv_iconst (v := 1) hx hb dX12_setsAs_1 (by decide) ?_
  refine lv_icmp_eq (tgt := 16) hx hb dX12_setsAs_2 (by decide) (fun c => absurd c (by decide)) (fun c => ?_)
  refine lv_iload_n hx hb dX12_setsAs_5 rfl (lv_at hl 1 rfl) ?_
  refine lv_iconst (v := 4) hx hb dX12_setsAs_6 (by decide) ?_
  refine lv_icmp_eq (tgt := 16) hx hb dX12_setsAs_7 (by decide) (fun c => absurd c (by decide)) (fun c => ?_)
  refine lv_iload_n hx hb dX12_setsAs_10 rfl (lv_at hl 1 rfl) ?_
  refine lv_bipush (v := 7) hx hb dX12_setsAs_11 (by decide) ?_
  refine lv_icmp_ne (tgt := 31) hx hb dX12_setsAs_13 (by decide) (fun c => absurd c (by decide)) (fun c => ?_)
  exact blk_16 f _ _ _ (by have zz0_48 : (f 0 48).toInt = 2 := (congrArg Int32.toInt (show f 0 48 = 2 from hf_0_48)).trans (by decide); omega) (by have zz0_49 : (f 0 49).toInt = 7 := (congrArg Int32.toInt (show f 0 49 = 7 from hf_0_49)).trans (by decide); omega) hI hF hP hS (lv_sub hl [0, 2] rfl)

abbrev WkX12_sitsAs_4_f1_f7 : List (Nat × Nat × Option Nat) := [(0, 0, some 48), (21, 21, none)]
set_option maxHeartbeats 4000000 in
set_option maxRecDepth 100000 in
theorem kX12_sitsAs_4_f1_f7 (l : Launch) (D : va_G) (ca : Nat → ClassId) (za h : Nat → Nat) (hh : sgH 26 h) (f : sg_F) (L : sg_L) (Q : sg_Q) (hI : sgI loM hiM f) (x1 : Int32) (hf_0_48 : f 0 48 = 1) (hf_0_49 : f 0 49 = 7) (p0 : 1 ≤ (f 0 48).toInt ∧ (f 0 48).toInt ≤ 1) (sz : Nat) : Met l yX12_sitsAs gwX12_sitsAs { frames := 3, cells := 0, slots := 0, locals := 65 } (sgP D vwCl (tyX ca) 26 h (eM ca h) zcM za f L Q sz [.ref (h 0), .int 4, .int x1]) (sgQi D vwCl 26 h (eM ca h) sz (fun r f1 L1 Q1 => ((sgI loM hiM f1 ∧ sgK WkX12_sitsAs_4_f1_f7 f f1 ∧ L1 = L ∧ Q1 = Q) ∧ True ∧ (4 ≤ (f1 0 48).toInt ∧ (f1 0 48).toInt ≤ 4)))) 0 0 (sgA 26 h sz) := by
  refine sg_ofWi (cc := cX12_sitsAs) (maxL := 4) RX12 (by decide) rfl rfl (Nat.le_of_ble_eq_true rfl) ?_
  intro p e s m below meth cd Qz ls hx hb hml hown hts hK hZ hP hS hl hret
  have hA := sgY.self (n := 26) (h := h) (sz := s.heap.size)
  have hl : lv_has ls 4 [(0, .ref (h 0)), (1, .int 4), (2, .int x1)] := hl
  obtain ⟨H, hH⟩ : ∃ z : Heap, z = s.heap := ⟨_, rfl⟩
  obtain ⟨locs, hlo⟩ : ∃ z : List Loc, z = [] := ⟨_, rfl⟩
  have hP : va_P D vwCl (sgw 26 h (eM ca h) f L Q) H := by rw [hH]; exact hP
  have hS : va_S (sgA 26 h s.heap.size) s.heap H locs := by rw [hH, hlo]; exact hS
  suffices hgo : W p l e ({ frames := 3, cells := 0, slots := 0, locals := 65 }) s m ([.ref (h 0), .int 4, .int x1] : List Value).toArray below meth cd H locs 0 0 Qz (F0 m 0 ls []) by rw [hH, hlo] at hgo; exact hgo
  clear hH hlo
  have o_1 : (f 0 48).toInt = 1 := (congrArg Int32.toInt (show f 0 48 = 1 from hf_0_48)).trans (by decide)
  have hF : sgK WkX12_sitsAs_4_f1_f7 f f := sgK.rf
  refine lv_iload_n hx hb dX12_sitsAs_0 rfl (lv_at hl 1 rfl) ?_
  refine lv_iconst (v := 3) hx hb dX12_sitsAs_1 (by decide) ?_
  refine lv_icmp_eq (tgt := 10) hx hb dX12_sitsAs_2 (by decide) (fun c => absurd c (by decide)) (fun c => ?_)
  refine lv_iload_n hx hb dX12_sitsAs_5 rfl (lv_at hl 1 rfl) ?_
  refine lv_iconst (v := 5) hx hb dX12_sitsAs_6 (by decide) ?_
  refine lv_icmp_ne (tgt := 25) hx hb dX12_sitsAs_7 (by decide) (fun c => ?_) (fun c => absurd c (by decide))
  refine lv_iload_n hx hb dX12_sitsAs_25 rfl (lv_at hl 1 rfl) ?_
  refine lv_iconst (v := 2) hx hb dX12_sitsAs_26 (by decide) ?_
  refine lv_icmp_ne (tgt := 44) hx hb dX12_sitsAs_27 (by decide) (fun c => ?_) (fun c => absurd c (by decide))
  refine lv_iload_n hx hb dX12_sitsAs_44 rfl (lv_at hl 1 rfl) ?_
  refine lv_bipush (v := 7) hx hb dX12_sitsAs_45 (by decide) ?_
  refine lv_icmp_ne (tgt := 75) hx hb dX12_sitsAs_47 (by decide) (fun c => ?_) (fun c => absurd c (by decide))
  refine lv_aload_n hx hb dX12_sitsAs_75 rfl (lv_at hl 0 rfl) ?_
  refine lv_bipush (v := 10) hx hb dX12_sitsAs_76 (by decide) ?_
  have q_2 : (f 0 48).toInt = 1 := (congrArg Int32.toInt (show f 0 48 = 1 from hf_0_48)).trans (by decide)
  have q_3 : (f 0 48).toInt = 1 := (congrArg Int32.toInt (show f 0 48 = 1 from hf_0_48)).trans (by decide)
  refine sg_callv (va_runV (As := [.int 10]) (rest := []) ⟨hx, hb, hml, hown, hts⟩ (kX12_begins_10_f1 l D ca za h hh f L Q hI hf_0_48 (by have k0 : (10 : Int32).toInt = 10 := (by decide); omega) H.size) (cwV 1 hts (gw_V (fun _ h => List.mem_cons_of_mem _ h) mw_734 mw_735 mw_736 mw_619 mw_733) rfl rfl rfl (by decide +kernel) ⟨Nat.le_of_ble_eq_true rfl, Nat.le_of_ble_eq_true rfl⟩) (sg_preV (ci := 12) (C := RX12) (T := TX12) (N := 55) hA hK hP hS hZ 0 (by decide) rfl rfl) rfl rfl hl.1 rfl (lv_room (Nat.le_of_ble_eq_true rfl)) dX12_sitsAs_78 ⟨Nat.le_refl _, Nat.le_refl _⟩) hA hS (fun f_4 L_5 Q_6 H locs hq hP hS => ?_)
  obtain ⟨⟨hI, hk_f_4, eL9, eQ9⟩, p_7⟩ := hq
  rw [eL9, eQ9] at hP; clear eL9 eQ9
  have hF : sgK WkX12_sitsAs_4_f1_f7 f f_4 := sgK.tr hF hk_f_4 (by decide)
  obtain ⟨v_8, ev_8⟩ : ∃ z : Int32, z = f_4 0 48 := ⟨_, rfl⟩
  have q_9 : 0 ≤ v_8.toInt ∧ v_8.toInt ≤ 19 := by rw [ev_8]; exact hI 0 48
  have q_10 : (f_4 0 48).toInt = v_8.toInt := (congrArg Int32.toInt (show f_4 0 48 = v_8 from ev_8.symm))
  have q_11 : (f_4 0 48).toInt = v_8.toInt := (congrArg Int32.toInt (show f_4 0 48 = v_8 from ev_8.symm))
  refine lv_aload_n hx hb dX12_sitsAs_81 rfl (lv_at hl 0 rfl) ?_
  refine lv_aload_n hx hb dX12_sitsAs_82 rfl (lv_at hl 0 rfl) ?_
  refine sg_get (ci := 12) (v := .int 7) (C := RX12) (T := TX12) (N := 55) hx hb hts (fun w h => List.mem_cons_of_mem _ (gx_12 w h)) hown hK hP 0 (by decide) rfl rfl 49 (by decide) (hts _ (List.mem_cons_of_mem _ mw_679)) (fun _ h9 => h9) (congrArg (fun z => some (Value.int z)) (show f_4 0 49 = 7 from ((hk_f_4 0 49 (by decide)).trans hf_0_49))) dX12_sitsAs_83 ?_
  refine lv_iload_n hx hb dX12_sitsAs_86 rfl (lv_at hl 2 rfl) ?_
  have c_12 : v_8 = 2 := Int32.toInt_inj.mp (by have k9 : (2 : Int32).toInt = 2 := (by decide); omega)
  have q_13 : (f_4 0 48).toInt = 2 := (congrArg Int32.toInt (show f_4 0 48 = 2 from (Eq.trans ev_8.symm c_12))).trans (by decide)
  have q_14 : (f_4 0 48).toInt = 2 := (congrArg Int32.toInt (show f_4 0 48 = 2 from (Eq.trans ev_8.symm c_12))).trans (by decide)
  refine sg_calli (va_runV (As := [.int 7, .int x1]) (rest := []) ⟨hx, hb, hml, hown, hts⟩ (kX12_setsAs_7_f2_f7 l D ca za h hh f_4 L Q hI x1 (Eq.trans ev_8.symm c_12) ((hk_f_4 0 49 (by decide)).trans hf_0_49) (by have k0 : (7 : Int32).toInt = 7 := (by decide); omega) H.size) (cwV 2 hts (gw_V (fun _ h => List.mem_cons_of_mem _ h) mw_744 mw_745 mw_746 mw_619 mw_743) rfl rfl rfl (by decide +kernel) ⟨Nat.le_of_ble_eq_true rfl, Nat.le_of_ble_eq_true rfl⟩) (sg_preV (ci := 12) (C := RX12) (T := TX12) (N := 55) hA hK hP hS hZ 0 (by decide) rfl rfl) rfl rfl hl.1 rfl (lv_room (Nat.le_of_ble_eq_true rfl)) dX12_sitsAs_87 ⟨Nat.le_refl _, Nat.le_refl _⟩) hA hS (fun r_18 f_15 L_16 Q_17 H locs hq hP hS => ?_)
  obtain ⟨⟨hI, hk_f_15, eL9, eQ9⟩, hq, p_19⟩ := hq
  rw [eL9, eQ9] at hP; clear eL9 eQ9
  have hF : sgK WkX12_sitsAs_4_f1_f7 f f_15 := sgK.tr hF hk_f_15 (by decide)
  obtain ⟨v_20, ev_20⟩ : ∃ z : Int32, z = f_15 0 48 := ⟨_, rfl⟩
  have q_21 : 0 ≤ v_20.toInt ∧ v_20.toInt ≤ 19 := by rw [ev_20]; exact hI 0 48
  have q_22 : (f_15 0 48).toInt = v_20.toInt := (congrArg Int32.toInt (show f_15 0 48 = v_20 from ev_20.symm))
  have q_23 : (f_15 0 48).toInt = v_20.toInt := (congrArg Int32.toInt (show f_15 0 48 = v_20 from ev_20.symm))
  have k_24 : (7 : Int32).toInt = 7 := by decide
  refine lv_iconst (v := 2) hx hb dX12_sitsAs_90 (by decide) ?_
  refine lv_imul hx hb dX12_sitsAs_91 ?_
  refine lv_topi (fun v_25 ev_25 => ?_)
  have q_26 : (f_15 0 48).toInt = v_20.toInt := (congrArg Int32.toInt (show f_15 0 48 = v_20 from ev_20.symm))
  have q_27 : (f_15 0 48).toInt = v_20.toInt := (congrArg Int32.toInt (show f_15 0 48 = v_20 from ev_20.symm))
  exact hret _ _ _ _ (v_25) f_15 L Q dX12_sitsAs_92 hP hS ⟨⟨hI, hF, rfl, rfl⟩, trivial, (by omega)⟩

abbrev WkX12_begins_50_f4 : List (Nat × Nat × Option Nat) := [(0, 0, some 48), (21, 21, none)]
set_option maxHeartbeats 4000000 in
set_option maxRecDepth 100000 in
theorem kX12_begins_50_f4 (l : Launch) (D : va_G) (ca : Nat → ClassId) (za h : Nat → Nat) (hh : sgH 26 h) (f : sg_F) (L : sg_L) (Q : sg_Q) (hI : sgI loM hiM f) (hf_0_48 : f 0 48 = 4) (p0 : 4 ≤ (f 0 48).toInt ∧ (f 0 48).toInt ≤ 4) (sz : Nat) : Met l yX12_begins gwX12_begins { frames := 0, cells := 0, slots := 0, locals := 0 } (sgP D vwCl (tyX ca) 26 h (eM ca h) zcM za f L Q sz [.ref (h 0), .int 50]) (sgQv D vwCl 26 h (eM ca h) sz (fun f1 L1 Q1 => ((sgI loM hiM f1 ∧ sgK WkX12_begins_50_f4 f f1 ∧ L1 = L ∧ Q1 = Q) ∧ (5 ≤ (f1 0 48).toInt ∧ (f1 0 48).toInt ≤ 5)))) 0 0 (sgA 26 h sz) := by
  refine sg_ofWv (cc := cX12_begins) (maxL := 2) RX12 (by decide) rfl rfl (Nat.le_of_ble_eq_true rfl) ?_
  intro p e s m below meth cd Qz ls hx hb hml hown hts hK hZ hP hS hl hret
  have hA := sgY.self (n := 26) (h := h) (sz := s.heap.size)
  have hl : lv_has ls 2 [(0, .ref (h 0)), (1, .int 50)] := hl
  obtain ⟨H, hH⟩ : ∃ z : Heap, z = s.heap := ⟨_, rfl⟩
  obtain ⟨locs, hlo⟩ : ∃ z : List Loc, z = [] := ⟨_, rfl⟩
  have hP : va_P D vwCl (sgw 26 h (eM ca h) f L Q) H := by rw [hH]; exact hP
  have hS : va_S (sgA 26 h s.heap.size) s.heap H locs := by rw [hH, hlo]; exact hS
  suffices hgo : W p l e ({ frames := 0, cells := 0, slots := 0, locals := 0 }) s m ([.ref (h 0), .int 50] : List Value).toArray below meth cd H locs 0 0 Qz (F0 m 0 ls []) by rw [hH, hlo] at hgo; exact hgo
  clear hH hlo
  have o_1 : (f 0 48).toInt = 4 := (congrArg Int32.toInt (show f 0 48 = 4 from hf_0_48)).trans (by decide)
  have hF : sgK WkX12_begins_50_f4 f f := sgK.rf
  have blk_19 : ∀ (fp_19 : sg_F) (H : Heap) (locs : List Loc) (ls : Array Slot), 4 ≤ (fp_19 0 48).toInt ∧ (fp_19 0 48).toInt ≤ 4 → sgI loM hiM fp_19 → sgK WkX12_begins_50_f4 f fp_19 → va_P D vwCl (sgw 26 h (eM ca h) fp_19 L Q) H → va_S (sgA 26 h s.heap.size) s.heap H locs → lv_has ls 2 [(0, .ref (h 0))] → W p l e ({ frames := 0, cells := 0, slots := 0, locals := 0 }) s m ([.ref (h 0), .int 50] : List Value).toArray below meth cd H locs 0 0 Qz (F0 m 19 ls []) := by
    intro fp_19 H locs ls hy0_19 hI hF hP hS hl
    obtain ⟨v_2, ev_2⟩ : ∃ z : Int32, z = fp_19 0 48 := ⟨_, rfl⟩
    have q_3 : 0 ≤ v_2.toInt ∧ v_2.toInt ≤ 19 := by rw [ev_2]; exact hI 0 48
    have q_4 : (fp_19 0 48).toInt = v_2.toInt := by rw [ev_2]
    refine lv_aload_n hx hb dX12_begins_19 rfl (lv_at hl 0 rfl) ?_
    refine lv_dup hx hb dX12_begins_20 rfl ?_
    refine sg_get (ci := 12) (v := .int v_2) (C := RX12) (T := TX12) (N := 55) hx hb hts (fun w h => List.mem_cons_of_mem _ (gx_12 w h)) hown hK hP 0 (by decide) rfl rfl 48 (by decide) (hts _ (List.mem_cons_of_mem _ mw_621)) (fun _ h9 => h9) (congrArg (fun z => some (Value.int z)) (show fp_19 0 48 = v_2 from ev_2.symm)) dX12_begins_21 ?_
    refine lv_iconst (v := 1) hx hb dX12_begins_24 (by decide) ?_
    refine lv_iadd hx hb dX12_begins_25 ?_
    refine lv_topi (fun v_5 ev_5 => ?_)
    have q_6 : v_5.toInt = v_2.toInt + 1 := by rw [ev_5]; have k1 : (1 : Int32).toInt = 1 := (by decide); exact (bn_addI (by omega) (by omega)).trans (by omega)
    refine sg_put (ci := 12) (x := v_5) (ty := .int) (C := RX12) (T := TX12) (N := 55) hx hb hts (fun w h => List.mem_cons_of_mem _ (gx_12 w h)) tyX12 tyX12_ok nmX12 hown hh hA hK hP hS 0 (by decide) rfl rfl 48 (by decide) (hts _ (List.mem_cons_of_mem _ mw_621)) (fun _ h9 => h9) rfl rfl (by decide +kernel) rfl rfl (Nat.le_of_ble_eq_true rfl) dX12_begins_26 (fun f_7 H locs ef_7 hP hS => ?_)
    have hI : sgI loM hiM f_7 := by rw [ef_7]; exact sgI.put hI 0 48 (show 0 ≤ (v_5 : Int32).toInt ∧ (v_5 : Int32).toInt ≤ 19 from by omega)
    have hF : sgK WkX12_begins_50_f4 f f_7 := sgK.put hF ef_7 (by rfl)
    have q_8 : (f_7 0 48).toInt = v_5.toInt := (congrArg Int32.toInt (show f_7 0 48 = v_5 from (by rw [ef_7, sg_up_s, sgu_s])))
    have q_9 : (f_7 0 48).toInt = v_5.toInt := (congrArg Int32.toInt (show f_7 0 48 = v_5 from (by rw [ef_7, sg_up_s, sgu_s])))
    exact hret _ _ _ _ f_7 L Q dX12_begins_29 hP hS ⟨⟨hI, hF, rfl, rfl⟩, (by omega)⟩
  refine lv_aload_n hx hb dX12_begins_0 rfl (lv_at hl 0 rfl) ?_
  refine sg_get (ci := 12) (v := .int 4) (C := RX12) (T := TX12) (N := 55) hx hb hts (fun w h => List.mem_cons_of_mem _ (gx_12 w h)) hown hK hP 0 (by decide) rfl rfl 48 (by decide) (hts _ (List.mem_cons_of_mem _ mw_621)) (fun _ h9 => h9) (congrArg (fun z => some (Value.int z)) (show f 0 48 = 4 from hf_0_48)) dX12_begins_1 ?_
  refine lv_bipush (v := 24) hx hb dX12_begins_4 (by decide) ?_
  refine lv_icmp_ge (tgt := 19) hx hb dX12_begins_6 (by decide) (fun c => absurd c (by decide)) (fun c => ?_)
  refine lv_aload_n hx hb dX12_begins_9 rfl (lv_at hl 0 rfl) ?_
  refine sg_get (ci := 12) (v := .ref (h 21)) (C := RX12) (T := TX12) (N := 55) hx hb hts (fun w h => List.mem_cons_of_mem _ (gx_12 w h)) hown hK hP 0 (by decide) rfl rfl 47 (by decide) (hts _ (List.mem_cons_of_mem _ mw_718)) (fun _ h9 => h9) rfl dX12_begins_10 ?_
  refine lv_aload_n hx hb dX12_begins_13 rfl (lv_at hl 0 rfl) ?_
  refine sg_get (ci := 12) (v := .int 4) (C := RX12) (T := TX12) (N := 55) hx hb hts (fun w h => List.mem_cons_of_mem _ (gx_12 w h)) hown hK hP 0 (by decide) rfl rfl 48 (by decide) (hts _ (List.mem_cons_of_mem _ mw_621)) (fun _ h9 => h9) (congrArg (fun z => some (Value.int z)) (show f 0 48 = 4 from hf_0_48)) dX12_begins_14 ?_
  refine lv_iload_n hx hb dX12_begins_17 rfl (lv_at hl 1 rfl) ?_
  refine sg_iast hx hb hh hA hK hP hS 21 (by decide) 0 (fun _ => rfl) rfl (i := 4) (x := 50) (vp_in_iff.mpr (by decide)) dX12_begins_18 (fun f_10 H locs ef_10 hP hS => ?_)
  have hI : sgI loM hiM f_10 := by rw [ef_10]; exact sgI.put hI 21 (Int32.toNatClampNeg 4) (show 0 ≤ (50 : Int32).toInt ∧ (50 : Int32).toInt ≤ 81 from by decide)
  have hF : sgK WkX12_begins_50_f4 f f_10 := sgK.put hF ef_10 (by rfl)
  exact blk_19 f_10 _ _ _ (by have zz0_48 : (f_10 0 48).toInt = 4 := (congrArg Int32.toInt (show f_10 0 48 = 4 from (by rw [ef_10, sg_up_n (by decide)]; exact hf_0_48))).trans (by decide); omega) hI hF hP hS (lv_sub hl [0] rfl)

abbrev WkX12_begins_11_f5 : List (Nat × Nat × Option Nat) := [(0, 0, some 48), (21, 21, none)]
set_option maxHeartbeats 4000000 in
set_option maxRecDepth 100000 in
theorem kX12_begins_11_f5 (l : Launch) (D : va_G) (ca : Nat → ClassId) (za h : Nat → Nat) (hh : sgH 26 h) (f : sg_F) (L : sg_L) (Q : sg_Q) (hI : sgI loM hiM f) (hf_0_48 : f 0 48 = 5) (p0 : 5 ≤ (f 0 48).toInt ∧ (f 0 48).toInt ≤ 5) (sz : Nat) : Met l yX12_begins gwX12_begins { frames := 0, cells := 0, slots := 0, locals := 0 } (sgP D vwCl (tyX ca) 26 h (eM ca h) zcM za f L Q sz [.ref (h 0), .int 11]) (sgQv D vwCl 26 h (eM ca h) sz (fun f1 L1 Q1 => ((sgI loM hiM f1 ∧ sgK WkX12_begins_11_f5 f f1 ∧ L1 = L ∧ Q1 = Q) ∧ (6 ≤ (f1 0 48).toInt ∧ (f1 0 48).toInt ≤ 6)))) 0 0 (sgA 26 h sz) := by
  refine sg_ofWv (cc := cX12_begins) (maxL := 2) RX12 (by decide) rfl rfl (Nat.le_of_ble_eq_true rfl) ?_
  intro p e s m below meth cd Qz ls hx hb hml hown hts hK hZ hP hS hl hret
  have hA := sgY.self (n := 26) (h := h) (sz := s.heap.size)
  have hl : lv_has ls 2 [(0, .ref (h 0)), (1, .int 11)] := hl
  obtain ⟨H, hH⟩ : ∃ z : Heap, z = s.heap := ⟨_, rfl⟩
  obtain ⟨locs, hlo⟩ : ∃ z : List Loc, z = [] := ⟨_, rfl⟩
  have hP : va_P D vwCl (sgw 26 h (eM ca h) f L Q) H := by rw [hH]; exact hP
  have hS : va_S (sgA 26 h s.heap.size) s.heap H locs := by rw [hH, hlo]; exact hS
  suffices hgo : W p l e ({ frames := 0, cells := 0, slots := 0, locals := 0 }) s m ([.ref (h 0), .int 11] : List Value).toArray below meth cd H locs 0 0 Qz (F0 m 0 ls []) by rw [hH, hlo] at hgo; exact hgo
  clear hH hlo
  have o_1 : (f 0 48).toInt = 5 := (congrArg Int32.toInt (show f 0 48 = 5 from hf_0_48)).trans (by decide)
  have hF : sgK WkX12_begins_11_f5 f f := sgK.rf
  have blk_19 : ∀ (fp_19 : sg_F) (H : Heap) (locs : List Loc) (ls : Array Slot), 5 ≤ (fp_19 0 48).toInt ∧ (fp_19 0 48).toInt ≤ 5 → sgI loM hiM fp_19 → sgK WkX12_begins_11_f5 f fp_19 → va_P D vwCl (sgw 26 h (eM ca h) fp_19 L Q) H → va_S (sgA 26 h s.heap.size) s.heap H locs → lv_has ls 2 [(0, .ref (h 0))] → W p l e ({ frames := 0, cells := 0, slots := 0, locals := 0 }) s m ([.ref (h 0), .int 11] : List Value).toArray below meth cd H locs 0 0 Qz (F0 m 19 ls []) := by
    intro fp_19 H locs ls hy0_19 hI hF hP hS hl
    obtain ⟨v_2, ev_2⟩ : ∃ z : Int32, z = fp_19 0 48 := ⟨_, rfl⟩
    have q_3 : 0 ≤ v_2.toInt ∧ v_2.toInt ≤ 19 := by rw [ev_2]; exact hI 0 48
    have q_4 : (fp_19 0 48).toInt = v_2.toInt := by rw [ev_2]
    refine lv_aload_n hx hb dX12_begins_19 rfl (lv_at hl 0 rfl) ?_
    refine lv_dup hx hb dX12_begins_20 rfl ?_
    refine sg_get (ci := 12) (v := .int v_2) (C := RX12) (T := TX12) (N := 55) hx hb hts (fun w h => List.mem_cons_of_mem _ (gx_12 w h)) hown hK hP 0 (by decide) rfl rfl 48 (by decide) (hts _ (List.mem_cons_of_mem _ mw_621)) (fun _ h9 => h9) (congrArg (fun z => some (Value.int z)) (show fp_19 0 48 = v_2 from ev_2.symm)) dX12_begins_21 ?_
    refine lv_iconst (v := 1) hx hb dX12_begins_24 (by decide) ?_
    refine lv_iadd hx hb dX12_begins_25 ?_
    refine lv_topi (fun v_5 ev_5 => ?_)
    have q_6 : v_5.toInt = v_2.toInt + 1 := by rw [ev_5]; have k1 : (1 : Int32).toInt = 1 := (by decide); exact (bn_addI (by omega) (by omega)).trans (by omega)
    refine sg_put (ci := 12) (x := v_5) (ty := .int) (C := RX12) (T := TX12) (N := 55) hx hb hts (fun w h => List.mem_cons_of_mem _ (gx_12 w h)) tyX12 tyX12_ok nmX12 hown hh hA hK hP hS 0 (by decide) rfl rfl 48 (by decide) (hts _ (List.mem_cons_of_mem _ mw_621)) (fun _ h9 => h9) rfl rfl (by decide +kernel) rfl rfl (Nat.le_of_ble_eq_true rfl) dX12_begins_26 (fun f_7 H locs ef_7 hP hS => ?_)
    have hI : sgI loM hiM f_7 := by rw [ef_7]; exact sgI.put hI 0 48 (show 0 ≤ (v_5 : Int32).toInt ∧ (v_5 : Int32).toInt ≤ 19 from by omega)
    have hF : sgK WkX12_begins_11_f5 f f_7 := sgK.put hF ef_7 (by rfl)
    have q_8 : (f_7 0 48).toInt = v_5.toInt := (congrArg Int32.toInt (show f_7 0 48 = v_5 from (by rw [ef_7, sg_up_s, sgu_s])))
    have q_9 : (f_7 0 48).toInt = v_5.toInt := (congrArg Int32.toInt (show f_7 0 48 = v_5 from (by rw [ef_7, sg_up_s, sgu_s])))
    exact hret _ _ _ _ f_7 L Q dX12_begins_29 hP hS ⟨⟨hI, hF, rfl, rfl⟩, (by omega)⟩
  refine lv_aload_n hx hb dX12_begins_0 rfl (lv_at hl 0 rfl) ?_
  refine sg_get (ci := 12) (v := .int 5) (C := RX12) (T := TX12) (N := 55) hx hb hts (fun w h => List.mem_cons_of_mem _ (gx_12 w h)) hown hK hP 0 (by decide) rfl rfl 48 (by decide) (hts _ (List.mem_cons_of_mem _ mw_621)) (fun _ h9 => h9) (congrArg (fun z => some (Value.int z)) (show f 0 48 = 5 from hf_0_48)) dX12_begins_1 ?_
  refine lv_bipush (v := 24) hx hb dX12_begins_4 (by decide) ?_
  refine lv_icmp_ge (tgt := 19) hx hb dX12_begins_6 (by decide) (fun c => absurd c (by decide)) (fun c => ?_)
  refine lv_aload_n hx hb dX12_begins_9 rfl (lv_at hl 0 rfl) ?_
  refine sg_get (ci := 12) (v := .ref (h 21)) (C := RX12) (T := TX12) (N := 55) hx hb hts (fun w h => List.mem_cons_of_mem _ (gx_12 w h)) hown hK hP 0 (by decide) rfl rfl 47 (by decide) (hts _ (List.mem_cons_of_mem _ mw_718)) (fun _ h9 => h9) rfl dX12_begins_10 ?_
  refine lv_aload_n hx hb dX12_begins_13 rfl (lv_at hl 0 rfl) ?_
  refine sg_get (ci := 12) (v := .int 5) (C := RX12) (T := TX12) (N := 55) hx hb hts (fun w h => List.mem_cons_of_mem _ (gx_12 w h)) hown hK hP 0 (by decide) rfl rfl 48 (by decide) (hts _ (List.mem_cons_of_mem _ mw_621)) (fun _ h9 => h9) (congrArg (fun z => some (Value.int z)) (show f 0 48 = 5 from hf_0_48)) dX12_begins_14 ?_
  refine lv_iload_n hx hb dX12_begins_17 rfl (lv_at hl 1 rfl) ?_
  refine sg_iast hx hb hh hA hK hP hS 21 (by decide) 0 (fun _ => rfl) rfl (i := 5) (x := 11) (vp_in_iff.mpr (by decide)) dX12_begins_18 (fun f_10 H locs ef_10 hP hS => ?_)
  have hI : sgI loM hiM f_10 := by rw [ef_10]; exact sgI.put hI 21 (Int32.toNatClampNeg 5) (show 0 ≤ (11 : Int32).toInt ∧ (11 : Int32).toInt ≤ 81 from by decide)
  have hF : sgK WkX12_begins_11_f5 f f_10 := sgK.put hF ef_10 (by rfl)
  exact blk_19 f_10 _ _ _ (by have zz0_48 : (f_10 0 48).toInt = 5 := (congrArg Int32.toInt (show f_10 0 48 = 5 from (by rw [ef_10, sg_up_n (by decide)]; exact hf_0_48))).trans (by decide); omega) hI hF hP hS (lv_sub hl [0] rfl)

abbrev WkX12_slipsAs_1_f5_f7 : List (Nat × Nat × Option Nat) := [(0, 0, some 48), (21, 21, none)]
set_option maxHeartbeats 4000000 in
set_option maxRecDepth 100000 in
theorem kX12_slipsAs_1_f5_f7 (l : Launch) (D : va_G) (ca : Nat → ClassId) (za h : Nat → Nat) (hh : sgH 26 h) (f : sg_F) (L : sg_L) (Q : sg_Q) (hI : sgI loM hiM f) (x1 : Int32) (hf_0_48 : f 0 48 = 5) (hf_0_49 : f 0 49 = 7) (b1 : 2 ≤ x1.toInt ∧ x1.toInt ≤ 2) (p0 : 5 ≤ (f 0 48).toInt ∧ (f 0 48).toInt ≤ 5) (sz : Nat) : Met l yX12_slipsAs gwX12_slipsAs { frames := 1, cells := 0, slots := 0, locals := 21 } (sgP D vwCl (tyX ca) 26 h (eM ca h) zcM za f L Q sz [.ref (h 0), .int 1, .int x1]) (sgQi D vwCl 26 h (eM ca h) sz (fun r f1 L1 Q1 => ((sgI loM hiM f1 ∧ sgK WkX12_slipsAs_1_f5_f7 f f1 ∧ L1 = L ∧ Q1 = Q) ∧ True ∧ (6 ≤ (f1 0 48).toInt ∧ (f1 0 48).toInt ≤ 6)))) 0 0 (sgA 26 h sz) := by
  refine sg_ofWi (cc := cX12_slipsAs) (maxL := 4) RX12 (by decide) rfl rfl (Nat.le_of_ble_eq_true rfl) ?_
  intro p e s m below meth cd Qz ls hx hb hml hown hts hK hZ hP hS hl hret
  have hA := sgY.self (n := 26) (h := h) (sz := s.heap.size)
  have hl : lv_has ls 4 [(0, .ref (h 0)), (1, .int 1), (2, .int x1)] := hl
  obtain ⟨H, hH⟩ : ∃ z : Heap, z = s.heap := ⟨_, rfl⟩
  obtain ⟨locs, hlo⟩ : ∃ z : List Loc, z = [] := ⟨_, rfl⟩
  have hP : va_P D vwCl (sgw 26 h (eM ca h) f L Q) H := by rw [hH]; exact hP
  have hS : va_S (sgA 26 h s.heap.size) s.heap H locs := by rw [hH, hlo]; exact hS
  suffices hgo : W p l e ({ frames := 1, cells := 0, slots := 0, locals := 21 }) s m ([.ref (h 0), .int 1, .int x1] : List Value).toArray below meth cd H locs 0 0 Qz (F0 m 0 ls []) by rw [hH, hlo] at hgo; exact hgo
  clear hH hlo
  have o_1 : (f 0 48).toInt = 5 := (congrArg Int32.toInt (show f 0 48 = 5 from hf_0_48)).trans (by decide)
  have hF : sgK WkX12_slipsAs_1_f5_f7 f f := sgK.rf
  refine lv_iload_n hx hb dX12_slipsAs_0 rfl (lv_at hl 1 rfl) ?_
  refine lv_iconst (v := 3) hx hb dX12_slipsAs_1 (by decide) ?_
  refine lv_icmp_eq (tgt := 10) hx hb dX12_slipsAs_2 (by decide) (fun c => absurd c (by decide)) (fun c => ?_)
  refine lv_iload_n hx hb dX12_slipsAs_5 rfl (lv_at hl 1 rfl) ?_
  refine lv_iconst (v := 5) hx hb dX12_slipsAs_6 (by decide) ?_
  refine lv_icmp_ne (tgt := 25) hx hb dX12_slipsAs_7 (by decide) (fun c => ?_) (fun c => absurd c (by decide))
  refine lv_iload_n hx hb dX12_slipsAs_25 rfl (lv_at hl 1 rfl) ?_
  refine lv_iconst (v := 4) hx hb dX12_slipsAs_26 (by decide) ?_
  refine lv_icmp_eq (tgt := 36) hx hb dX12_slipsAs_27 (by decide) (fun c => absurd c (by decide)) (fun c => ?_)
  refine lv_iload_n hx hb dX12_slipsAs_30 rfl (lv_at hl 1 rfl) ?_
  refine lv_bipush (v := 7) hx hb dX12_slipsAs_31 (by decide) ?_
  refine lv_icmp_ne (tgt := 61) hx hb dX12_slipsAs_33 (by decide) (fun c => ?_) (fun c => absurd c (by decide))
  refine lv_aload_n hx hb dX12_slipsAs_61 rfl (lv_at hl 0 rfl) ?_
  refine lv_bipush (v := 11) hx hb dX12_slipsAs_62 (by decide) ?_
  have q_2 : (f 0 48).toInt = 5 := (congrArg Int32.toInt (show f 0 48 = 5 from hf_0_48)).trans (by decide)
  have q_3 : (f 0 48).toInt = 5 := (congrArg Int32.toInt (show f 0 48 = 5 from hf_0_48)).trans (by decide)
  refine sg_callv (va_runV (As := [.int 11]) (rest := []) ⟨hx, hb, hml, hown, hts⟩ (kX12_begins_11_f5 l D ca za h hh f L Q hI hf_0_48 (by have k0 : (11 : Int32).toInt = 11 := (by decide); omega) H.size) (cwV 1 hts (gw_V (fun _ h => List.mem_cons_of_mem _ h) mw_734 mw_735 mw_736 mw_619 mw_733) rfl rfl rfl (by decide +kernel) ⟨Nat.le_of_ble_eq_true rfl, Nat.le_of_ble_eq_true rfl⟩) (sg_preV (ci := 12) (C := RX12) (T := TX12) (N := 55) hA hK hP hS hZ 0 (by decide) rfl rfl) rfl rfl hl.1 rfl (lv_room (Nat.le_of_ble_eq_true rfl)) dX12_slipsAs_64 ⟨Nat.le_refl _, Nat.le_refl _⟩) hA hS (fun f_4 L_5 Q_6 H locs hq hP hS => ?_)
  obtain ⟨⟨hI, hk_f_4, eL9, eQ9⟩, p_7⟩ := hq
  rw [eL9, eQ9] at hP; clear eL9 eQ9
  have hF : sgK WkX12_slipsAs_1_f5_f7 f f_4 := sgK.tr hF hk_f_4 (by decide)
  obtain ⟨v_8, ev_8⟩ : ∃ z : Int32, z = f_4 0 48 := ⟨_, rfl⟩
  have q_9 : 0 ≤ v_8.toInt ∧ v_8.toInt ≤ 19 := by rw [ev_8]; exact hI 0 48
  have q_10 : (f_4 0 48).toInt = v_8.toInt := (congrArg Int32.toInt (show f_4 0 48 = v_8 from ev_8.symm))
  have q_11 : (f_4 0 48).toInt = v_8.toInt := (congrArg Int32.toInt (show f_4 0 48 = v_8 from ev_8.symm))
  refine lv_iload_n hx hb dX12_slipsAs_67 rfl (lv_at hl 2 rfl) ?_
  refine lv_aload_n hx hb dX12_slipsAs_68 rfl (lv_at hl 0 rfl) ?_
  refine sg_get (ci := 12) (v := .int (f_4 0 50)) (C := RX12) (T := TX12) (N := 55) hx hb hts (fun w h => List.mem_cons_of_mem _ (gx_12 w h)) hown hK hP 0 (by decide) rfl rfl 50 (by decide) (hts _ (List.mem_cons_of_mem _ mw_680)) (fun _ h9 => h9) rfl dX12_slipsAs_69 ?_
  refine lv_topi (fun v_12 ev_12 => ?_)
  have q_13 : 0 ≤ v_12.toInt ∧ v_12.toInt ≤ 49 := by rw [ev_12]; exact hI 0 50
  refine lv_ixor hx hb dX12_slipsAs_72 ?_
  refine lv_topi (fun v_14 ev_14 => ?_)
  have q_15 : (f_4 0 48).toInt = v_8.toInt := (congrArg Int32.toInt (show f_4 0 48 = v_8 from ev_8.symm))
  have q_16 : (f_4 0 48).toInt = v_8.toInt := (congrArg Int32.toInt (show f_4 0 48 = v_8 from ev_8.symm))
  exact hret _ _ _ _ (v_14) f_4 L Q dX12_slipsAs_73 hP hS ⟨⟨hI, hF, rfl, rfl⟩, trivial, (by omega)⟩

abbrev WkX12_begins_20_f6 : List (Nat × Nat × Option Nat) := [(0, 0, some 48), (21, 21, none)]
set_option maxHeartbeats 4000000 in
set_option maxRecDepth 100000 in
theorem kX12_begins_20_f6 (l : Launch) (D : va_G) (ca : Nat → ClassId) (za h : Nat → Nat) (hh : sgH 26 h) (f : sg_F) (L : sg_L) (Q : sg_Q) (hI : sgI loM hiM f) (hf_0_48 : f 0 48 = 6) (p0 : 6 ≤ (f 0 48).toInt ∧ (f 0 48).toInt ≤ 6) (sz : Nat) : Met l yX12_begins gwX12_begins { frames := 0, cells := 0, slots := 0, locals := 0 } (sgP D vwCl (tyX ca) 26 h (eM ca h) zcM za f L Q sz [.ref (h 0), .int 20]) (sgQv D vwCl 26 h (eM ca h) sz (fun f1 L1 Q1 => ((sgI loM hiM f1 ∧ sgK WkX12_begins_20_f6 f f1 ∧ L1 = L ∧ Q1 = Q) ∧ (7 ≤ (f1 0 48).toInt ∧ (f1 0 48).toInt ≤ 7)))) 0 0 (sgA 26 h sz) := by
  refine sg_ofWv (cc := cX12_begins) (maxL := 2) RX12 (by decide) rfl rfl (Nat.le_of_ble_eq_true rfl) ?_
  intro p e s m below meth cd Qz ls hx hb hml hown hts hK hZ hP hS hl hret
  have hA := sgY.self (n := 26) (h := h) (sz := s.heap.size)
  have hl : lv_has ls 2 [(0, .ref (h 0)), (1, .int 20)] := hl
  obtain ⟨H, hH⟩ : ∃ z : Heap, z = s.heap := ⟨_, rfl⟩
  obtain ⟨locs, hlo⟩ : ∃ z : List Loc, z = [] := ⟨_, rfl⟩
  have hP : va_P D vwCl (sgw 26 h (eM ca h) f L Q) H := by rw [hH]; exact hP
  have hS : va_S (sgA 26 h s.heap.size) s.heap H locs := by rw [hH, hlo]; exact hS
  suffices hgo : W p l e ({ frames := 0, cells := 0, slots := 0, locals := 0 }) s m ([.ref (h 0), .int 20] : List Value).toArray below meth cd H locs 0 0 Qz (F0 m 0 ls []) by rw [hH, hlo] at hgo; exact hgo
  clear hH hlo
  have o_1 : (f 0 48).toInt = 6 := (congrArg Int32.toInt (show f 0 48 = 6 from hf_0_48)).trans (by decide)
  have hF : sgK WkX12_begins_20_f6 f f := sgK.rf
  have blk_19 : ∀ (fp_19 : sg_F) (H : Heap) (locs : List Loc) (ls : Array Slot), 6 ≤ (fp_19 0 48).toInt ∧ (fp_19 0 48).toInt ≤ 6 → sgI loM hiM fp_19 → sgK WkX12_begins_20_f6 f fp_19 → va_P D vwCl (sgw 26 h (eM ca h) fp_19 L Q) H → va_S (sgA 26 h s.heap.size) s.heap H locs → lv_has ls 2 [(0, .ref (h 0))] → W p l e ({ frames := 0, cells := 0, slots := 0, locals := 0 }) s m ([.ref (h 0), .int 20] : List Value).toArray below meth cd H locs 0 0 Qz (F0 m 19 ls []) := by
    intro fp_19 H locs ls hy0_19 hI hF hP hS hl
    obtain ⟨v_2, ev_2⟩ : ∃ z : Int32, z = fp_19 0 48 := ⟨_, rfl⟩
    have q_3 : 0 ≤ v_2.toInt ∧ v_2.toInt ≤ 19 := by rw [ev_2]; exact hI 0 48
    have q_4 : (fp_19 0 48).toInt = v_2.toInt := by rw [ev_2]
    refine lv_aload_n hx hb dX12_begins_19 rfl (lv_at hl 0 rfl) ?_
    refine lv_dup hx hb dX12_begins_20 rfl ?_
    refine sg_get (ci := 12) (v := .int v_2) (C := RX12) (T := TX12) (N := 55) hx hb hts (fun w h => List.mem_cons_of_mem _ (gx_12 w h)) hown hK hP 0 (by decide) rfl rfl 48 (by decide) (hts _ (List.mem_cons_of_mem _ mw_621)) (fun _ h9 => h9) (congrArg (fun z => some (Value.int z)) (show fp_19 0 48 = v_2 from ev_2.symm)) dX12_begins_21 ?_
    refine lv_iconst (v := 1) hx hb dX12_begins_24 (by decide) ?_
    refine lv_iadd hx hb dX12_begins_25 ?_
    refine lv_topi (fun v_5 ev_5 => ?_)
    have q_6 : v_5.toInt = v_2.toInt + 1 := by rw [ev_5]; have k1 : (1 : Int32).toInt = 1 := (by decide); exact (bn_addI (by omega) (by omega)).trans (by omega)
    refine sg_put (ci := 12) (x := v_5) (ty := .int) (C := RX12) (T := TX12) (N := 55) hx hb hts (fun w h => List.mem_cons_of_mem _ (gx_12 w h)) tyX12 tyX12_ok nmX12 hown hh hA hK hP hS 0 (by decide) rfl rfl 48 (by decide) (hts _ (List.mem_cons_of_mem _ mw_621)) (fun _ h9 => h9) rfl rfl (by decide +kernel) rfl rfl (Nat.le_of_ble_eq_true rfl) dX12_begins_26 (fun f_7 H locs ef_7 hP hS => ?_)
    have hI : sgI loM hiM f_7 := by rw [ef_7]; exact sgI.put hI 0 48 (show 0 ≤ (v_5 : Int32).toInt ∧ (v_5 : Int32).toInt ≤ 19 from by omega)
    have hF : sgK WkX12_begins_20_f6 f f_7 := sgK.put hF ef_7 (by rfl)
    have q_8 : (f_7 0 48).toInt = v_5.toInt := (congrArg Int32.toInt (show f_7 0 48 = v_5 from (by rw [ef_7, sg_up_s, sgu_s])))
    have q_9 : (f_7 0 48).toInt = v_5.toInt := (congrArg Int32.toInt (show f_7 0 48 = v_5 from (by rw [ef_7, sg_up_s, sgu_s])))
    exact hret _ _ _ _ f_7 L Q dX12_begins_29 hP hS ⟨⟨hI, hF, rfl, rfl⟩, (by omega)⟩
  refine lv_aload_n hx hb dX12_begins_0 rfl (lv_at hl 0 rfl) ?_
  refine sg_get (ci := 12) (v := .int 6) (C := RX12) (T := TX12) (N := 55) hx hb hts (fun w h => List.mem_cons_of_mem _ (gx_12 w h)) hown hK hP 0 (by decide) rfl rfl 48 (by decide) (hts _ (List.mem_cons_of_mem _ mw_621)) (fun _ h9 => h9) (congrArg (fun z => some (Value.int z)) (show f 0 48 = 6 from hf_0_48)) dX12_begins_1 ?_
  refine lv_bipush (v := 24) hx hb dX12_begins_4 (by decide) ?_
  refine lv_icmp_ge (tgt := 19) hx hb dX12_begins_6 (by decide) (fun c => absurd c (by decide)) (fun c => ?_)
  refine lv_aload_n hx hb dX12_begins_9 rfl (lv_at hl 0 rfl) ?_
  refine sg_get (ci := 12) (v := .ref (h 21)) (C := RX12) (T := TX12) (N := 55) hx hb hts (fun w h => List.mem_cons_of_mem _ (gx_12 w h)) hown hK hP 0 (by decide) rfl rfl 47 (by decide) (hts _ (List.mem_cons_of_mem _ mw_718)) (fun _ h9 => h9) rfl dX12_begins_10 ?_
  refine lv_aload_n hx hb dX12_begins_13 rfl (lv_at hl 0 rfl) ?_
  refine sg_get (ci := 12) (v := .int 6) (C := RX12) (T := TX12) (N := 55) hx hb hts (fun w h => List.mem_cons_of_mem _ (gx_12 w h)) hown hK hP 0 (by decide) rfl rfl 48 (by decide) (hts _ (List.mem_cons_of_mem _ mw_621)) (fun _ h9 => h9) (congrArg (fun z => some (Value.int z)) (show f 0 48 = 6 from hf_0_48)) dX12_begins_14 ?_
  refine lv_iload_n hx hb dX12_begins_17 rfl (lv_at hl 1 rfl) ?_
  refine sg_iast hx hb hh hA hK hP hS 21 (by decide) 0 (fun _ => rfl) rfl (i := 6) (x := 20) (vp_in_iff.mpr (by decide)) dX12_begins_18 (fun f_10 H locs ef_10 hP hS => ?_)
  have hI : sgI loM hiM f_10 := by rw [ef_10]; exact sgI.put hI 21 (Int32.toNatClampNeg 6) (show 0 ≤ (20 : Int32).toInt ∧ (20 : Int32).toInt ≤ 81 from by decide)
  have hF : sgK WkX12_begins_20_f6 f f_10 := sgK.put hF ef_10 (by rfl)
  exact blk_19 f_10 _ _ _ (by have zz0_48 : (f_10 0 48).toInt = 6 := (congrArg Int32.toInt (show f_10 0 48 = 6 from (by rw [ef_10, sg_up_n (by decide)]; exact hf_0_48))).trans (by decide); omega) hI hF hP hS (lv_sub hl [0] rfl)

abbrev WkX12_begins_1_f7 : List (Nat × Nat × Option Nat) := [(0, 0, some 48), (21, 21, none)]
set_option maxHeartbeats 4000000 in
set_option maxRecDepth 100000 in
theorem kX12_begins_1_f7 (l : Launch) (D : va_G) (ca : Nat → ClassId) (za h : Nat → Nat) (hh : sgH 26 h) (f : sg_F) (L : sg_L) (Q : sg_Q) (hI : sgI loM hiM f) (hf_0_48 : f 0 48 = 7) (p0 : 7 ≤ (f 0 48).toInt ∧ (f 0 48).toInt ≤ 7) (sz : Nat) : Met l yX12_begins gwX12_begins { frames := 0, cells := 0, slots := 0, locals := 0 } (sgP D vwCl (tyX ca) 26 h (eM ca h) zcM za f L Q sz [.ref (h 0), .int 1]) (sgQv D vwCl 26 h (eM ca h) sz (fun f1 L1 Q1 => ((sgI loM hiM f1 ∧ sgK WkX12_begins_1_f7 f f1 ∧ L1 = L ∧ Q1 = Q) ∧ (8 ≤ (f1 0 48).toInt ∧ (f1 0 48).toInt ≤ 8)))) 0 0 (sgA 26 h sz) := by
  refine sg_ofWv (cc := cX12_begins) (maxL := 2) RX12 (by decide) rfl rfl (Nat.le_of_ble_eq_true rfl) ?_
  intro p e s m below meth cd Qz ls hx hb hml hown hts hK hZ hP hS hl hret
  have hA := sgY.self (n := 26) (h := h) (sz := s.heap.size)
  have hl : lv_has ls 2 [(0, .ref (h 0)), (1, .int 1)] := hl
  obtain ⟨H, hH⟩ : ∃ z : Heap, z = s.heap := ⟨_, rfl⟩
  obtain ⟨locs, hlo⟩ : ∃ z : List Loc, z = [] := ⟨_, rfl⟩
  have hP : va_P D vwCl (sgw 26 h (eM ca h) f L Q) H := by rw [hH]; exact hP
  have hS : va_S (sgA 26 h s.heap.size) s.heap H locs := by rw [hH, hlo]; exact hS
  suffices hgo : W p l e ({ frames := 0, cells := 0, slots := 0, locals := 0 }) s m ([.ref (h 0), .int 1] : List Value).toArray below meth cd H locs 0 0 Qz (F0 m 0 ls []) by rw [hH, hlo] at hgo; exact hgo
  clear hH hlo
  have o_1 : (f 0 48).toInt = 7 := (congrArg Int32.toInt (show f 0 48 = 7 from hf_0_48)).trans (by decide)
  have hF : sgK WkX12_begins_1_f7 f f := sgK.rf
  have blk_19 : ∀ (fp_19 : sg_F) (H : Heap) (locs : List Loc) (ls : Array Slot), 7 ≤ (fp_19 0 48).toInt ∧ (fp_19 0 48).toInt ≤ 7 → sgI loM hiM fp_19 → sgK WkX12_begins_1_f7 f fp_19 → va_P D vwCl (sgw 26 h (eM ca h) fp_19 L Q) H → va_S (sgA 26 h s.heap.size) s.heap H locs → lv_has ls 2 [(0, .ref (h 0))] → W p l e ({ frames := 0, cells := 0, slots := 0, locals := 0 }) s m ([.ref (h 0), .int 1] : List Value).toArray below meth cd H locs 0 0 Qz (F0 m 19 ls []) := by
    intro fp_19 H locs ls hy0_19 hI hF hP hS hl
    obtain ⟨v_2, ev_2⟩ : ∃ z : Int32, z = fp_19 0 48 := ⟨_, rfl⟩
    have q_3 : 0 ≤ v_2.toInt ∧ v_2.toInt ≤ 19 := by rw [ev_2]; exact hI 0 48
    have q_4 : (fp_19 0 48).toInt = v_2.toInt := by rw [ev_2]
    refine lv_aload_n hx hb dX12_begins_19 rfl (lv_at hl 0 rfl) ?_
    refine lv_dup hx hb dX12_begins_20 rfl ?_
    refine sg_get (ci := 12) (v := .int v_2) (C := RX12) (T := TX12) (N := 55) hx hb hts (fun w h => List.mem_cons_of_mem _ (gx_12 w h)) hown hK hP 0 (by decide) rfl rfl 48 (by decide) (hts _ (List.mem_cons_of_mem _ mw_621)) (fun _ h9 => h9) (congrArg (fun z => some (Value.int z)) (show fp_19 0 48 = v_2 from ev_2.symm)) dX12_begins_21 ?_
    refine lv_iconst (v := 1) hx hb dX12_begins_24 (by decide) ?_
    refine lv_iadd hx hb dX12_begins_25 ?_
    refine lv_topi (fun v_5 ev_5 => ?_)
    have q_6 : v_5.toInt = v_2.toInt + 1 := by rw [ev_5]; have k1 : (1 : Int32).toInt = 1 := (by decide); exact (bn_addI (by omega) (by omega)).trans (by omega)
    refine sg_put (ci := 12) (x := v_5) (ty := .int) (C := RX12) (T := TX12) (N := 55) hx hb hts (fun w h => List.mem_cons_of_mem _ (gx_12 w h)) tyX12 tyX12_ok nmX12 hown hh hA hK hP hS 0 (by decide) rfl rfl 48 (by decide) (hts _ (List.mem_cons_of_mem _ mw_621)) (fun _ h9 => h9) rfl rfl (by decide +kernel) rfl rfl (Nat.le_of_ble_eq_true rfl) dX12_begins_26 (fun f_7 H locs ef_7 hP hS => ?_)
    have hI : sgI loM hiM f_7 := by rw [ef_7]; exact sgI.put hI 0 48 (show 0 ≤ (v_5 : Int32).toInt ∧ (v_5 : Int32).toInt ≤ 19 from by omega)
    have hF : sgK WkX12_begins_1_f7 f f_7 := sgK.put hF ef_7 (by rfl)
    have q_8 : (f_7 0 48).toInt = v_5.toInt := (congrArg Int32.toInt (show f_7 0 48 = v_5 from (by rw [ef_7, sg_up_s, sgu_s])))
    have q_9 : (f_7 0 48).toInt = v_5.toInt := (congrArg Int32.toInt (show f_7 0 48 = v_5 from (by rw [ef_7, sg_up_s, sgu_s])))
    exact hret _ _ _ _ f_7 L Q dX12_begins_29 hP hS ⟨⟨hI, hF, rfl, rfl⟩, (by omega)⟩
  refine lv_aload_n hx hb dX12_begins_0 rfl (lv_at hl 0 rfl) ?_
  refine sg_get (ci := 12) (v := .int 7) (C := RX12) (T := TX12) (N := 55) hx hb hts (fun w h => List.mem_cons_of_mem _ (gx_12 w h)) hown hK hP 0 (by decide) rfl rfl 48 (by decide) (hts _ (List.mem_cons_of_mem _ mw_621)) (fun _ h9 => h9) (congrArg (fun z => some (Value.int z)) (show f 0 48 = 7 from hf_0_48)) dX12_begins_1 ?_
  refine lv_bipush (v := 24) hx hb dX12_begins_4 (by decide) ?_
  refine lv_icmp_ge (tgt := 19) hx hb dX12_begins_6 (by decide) (fun c => absurd c (by decide)) (fun c => ?_)
  refine lv_aload_n hx hb dX12_begins_9 rfl (lv_at hl 0 rfl) ?_
  refine sg_get (ci := 12) (v := .ref (h 21)) (C := RX12) (T := TX12) (N := 55) hx hb hts (fun w h => List.mem_cons_of_mem _ (gx_12 w h)) hown hK hP 0 (by decide) rfl rfl 47 (by decide) (hts _ (List.mem_cons_of_mem _ mw_718)) (fun _ h9 => h9) rfl dX12_begins_10 ?_
  refine lv_aload_n hx hb dX12_begins_13 rfl (lv_at hl 0 rfl) ?_
  refine sg_get (ci := 12) (v := .int 7) (C := RX12) (T := TX12) (N := 55) hx hb hts (fun w h => List.mem_cons_of_mem _ (gx_12 w h)) hown hK hP 0 (by decide) rfl rfl 48 (by decide) (hts _ (List.mem_cons_of_mem _ mw_621)) (fun _ h9 => h9) (congrArg (fun z => some (Value.int z)) (show f 0 48 = 7 from hf_0_48)) dX12_begins_14 ?_
  refine lv_iload_n hx hb dX12_begins_17 rfl (lv_at hl 1 rfl) ?_
  refine sg_iast hx hb hh hA hK hP hS 21 (by decide) 0 (fun _ => rfl) rfl (i := 7) (x := 1) (vp_in_iff.mpr (by decide)) dX12_begins_18 (fun f_10 H locs ef_10 hP hS => ?_)
  have hI : sgI loM hiM f_10 := by rw [ef_10]; exact sgI.put hI 21 (Int32.toNatClampNeg 7) (show 0 ≤ (1 : Int32).toInt ∧ (1 : Int32).toInt ≤ 81 from by decide)
  have hF : sgK WkX12_begins_1_f7 f f_10 := sgK.put hF ef_10 (by rfl)
  exact blk_19 f_10 _ _ _ (by have zz0_48 : (f_10 0 48).toInt = 7 := (congrArg Int32.toInt (show f_10 0 48 = 7 from (by rw [ef_10, sg_up_n (by decide)]; exact hf_0_48))).trans (by decide); omega) hI hF hP hS (lv_sub hl [0] rfl)

abbrev WkX12_setsAs_0_f7_f7 : List (Nat × Nat × Option Nat) := [(0, 0, some 48), (21, 21, none)]
set_option maxHeartbeats 4000000 in
set_option maxRecDepth 100000 in
theorem kX12_setsAs_0_f7_f7 (l : Launch) (D : va_G) (ca : Nat → ClassId) (za h : Nat → Nat) (hh : sgH 26 h) (f : sg_F) (L : sg_L) (Q : sg_Q) (hI : sgI loM hiM f) (x1 : Int32) (hf_0_48 : f 0 48 = 7) (hf_0_49 : f 0 49 = 7) (b1 : 2 ≤ x1.toInt ∧ x1.toInt ≤ 2) (p0 : 7 ≤ (f 0 48).toInt ∧ (f 0 48).toInt ≤ 7) (sz : Nat) : Met l yX12_setsAs gwX12_setsAs { frames := 1, cells := 0, slots := 0, locals := 21 } (sgP D vwCl (tyX ca) 26 h (eM ca h) zcM za f L Q sz [.ref (h 0), .int 0, .int x1]) (sgQi D vwCl 26 h (eM ca h) sz (fun r f1 L1 Q1 => ((sgI loM hiM f1 ∧ sgK WkX12_setsAs_0_f7_f7 f f1 ∧ L1 = L ∧ Q1 = Q) ∧ (2 ≤ r.toInt ∧ r.toInt ≤ 51) ∧ (8 ≤ (f1 0 48).toInt ∧ (f1 0 48).toInt ≤ 8)))) 0 0 (sgA 26 h sz) := by
  refine sg_ofWi (cc := cX12_setsAs) (maxL := 3) RX12 (by decide) rfl rfl (Nat.le_of_ble_eq_true rfl) ?_
  intro p e s m below meth cd Qz ls hx hb hml hown hts hK hZ hP hS hl hret
  have hA := sgY.self (n := 26) (h := h) (sz := s.heap.size)
  have hl : lv_has ls 3 [(0, .ref (h 0)), (1, .int 0), (2, .int x1)] := hl
  obtain ⟨H, hH⟩ : ∃ z : Heap, z = s.heap := ⟨_, rfl⟩
  obtain ⟨locs, hlo⟩ : ∃ z : List Loc, z = [] := ⟨_, rfl⟩
  have hP : va_P D vwCl (sgw 26 h (eM ca h) f L Q) H := by rw [hH]; exact hP
  have hS : va_S (sgA 26 h s.heap.size) s.heap H locs := by rw [hH, hlo]; exact hS
  suffices hgo : W p l e ({ frames := 1, cells := 0, slots := 0, locals := 21 }) s m ([.ref (h 0), .int 0, .int x1] : List Value).toArray below meth cd H locs 0 0 Qz (F0 m 0 ls []) by rw [hH, hlo] at hgo; exact hgo
  clear hH hlo
  have o_1 : (f 0 48).toInt = 7 := (congrArg Int32.toInt (show f 0 48 = 7 from hf_0_48)).trans (by decide)
  have hF : sgK WkX12_setsAs_0_f7_f7 f f := sgK.rf
  refine lv_iload_n hx hb dX12_setsAs_0 rfl (lv_at hl 1 rfl) ?_
  refine lv_iconst (v := 1) hx hb dX12_setsAs_1 (by decide) ?_
  refine lv_icmp_eq (tgt := 16) hx hb dX12_setsAs_2 (by decide) (fun c => absurd c (by decide)) (fun c => ?_)
  refine lv_iload_n hx hb dX12_setsAs_5 rfl (lv_at hl 1 rfl) ?_
  refine lv_iconst (v := 4) hx hb dX12_setsAs_6 (by decide) ?_
  refine lv_icmp_eq (tgt := 16) hx hb dX12_setsAs_7 (by decide) (fun c => absurd c (by decide)) (fun c => ?_)
  refine lv_iload_n hx hb dX12_setsAs_10 rfl (lv_at hl 1 rfl) ?_
  refine lv_bipush (v := 7) hx hb dX12_setsAs_11 (by decide) ?_
  refine lv_icmp_ne (tgt := 31) hx hb dX12_setsAs_13 (by decide) (fun c => ?_) (fun c => absurd c (by decide))
  refine lv_iload_n hx hb dX12_setsAs_31 rfl (lv_at hl 1 rfl) ?_
  refine lv_bipush (v := 6) hx hb dX12_setsAs_32 (by decide) ?_
  refine lv_icmp_ne (tgt := 52) hx hb dX12_setsAs_34 (by decide) (fun c => ?_) (fun c => absurd c (by decide))
  refine lv_aload_n hx hb dX12_setsAs_52 rfl (lv_at hl 0 rfl) ?_
  refine lv_iconst (v := 1) hx hb dX12_setsAs_53 (by decide) ?_
  have q_2 : (f 0 48).toInt = 7 := (congrArg Int32.toInt (show f 0 48 = 7 from hf_0_48)).trans (by decide)
  have q_3 : (f 0 48).toInt = 7 := (congrArg Int32.toInt (show f 0 48 = 7 from hf_0_48)).trans (by decide)
  refine sg_callv (va_runV (As := [.int 1]) (rest := []) ⟨hx, hb, hml, hown, hts⟩ (kX12_begins_1_f7 l D ca za h hh f L Q hI hf_0_48 (by have k0 : (1 : Int32).toInt = 1 := (by decide); omega) H.size) (cwV 1 hts (gw_V (fun _ h => List.mem_cons_of_mem _ h) mw_734 mw_735 mw_736 mw_619 mw_733) rfl rfl rfl (by decide +kernel) ⟨Nat.le_of_ble_eq_true rfl, Nat.le_of_ble_eq_true rfl⟩) (sg_preV (ci := 12) (C := RX12) (T := TX12) (N := 55) hA hK hP hS hZ 0 (by decide) rfl rfl) rfl rfl hl.1 rfl (lv_room (Nat.le_of_ble_eq_true rfl)) dX12_setsAs_54 ⟨Nat.le_refl _, Nat.le_refl _⟩) hA hS (fun f_4 L_5 Q_6 H locs hq hP hS => ?_)
  obtain ⟨⟨hI, hk_f_4, eL9, eQ9⟩, p_7⟩ := hq
  rw [eL9, eQ9] at hP; clear eL9 eQ9
  have hF : sgK WkX12_setsAs_0_f7_f7 f f_4 := sgK.tr hF hk_f_4 (by decide)
  obtain ⟨v_8, ev_8⟩ : ∃ z : Int32, z = f_4 0 48 := ⟨_, rfl⟩
  have q_9 : 0 ≤ v_8.toInt ∧ v_8.toInt ≤ 19 := by rw [ev_8]; exact hI 0 48
  have q_10 : (f_4 0 48).toInt = v_8.toInt := (congrArg Int32.toInt (show f_4 0 48 = v_8 from ev_8.symm))
  have q_11 : (f_4 0 48).toInt = v_8.toInt := (congrArg Int32.toInt (show f_4 0 48 = v_8 from ev_8.symm))
  refine lv_iload_n hx hb dX12_setsAs_57 rfl (lv_at hl 2 rfl) ?_
  refine lv_aload_n hx hb dX12_setsAs_58 rfl (lv_at hl 0 rfl) ?_
  refine sg_get (ci := 12) (v := .int (f_4 0 50)) (C := RX12) (T := TX12) (N := 55) hx hb hts (fun w h => List.mem_cons_of_mem _ (gx_12 w h)) hown hK hP 0 (by decide) rfl rfl 50 (by decide) (hts _ (List.mem_cons_of_mem _ mw_680)) (fun _ h9 => h9) rfl dX12_setsAs_59 ?_
  refine lv_topi (fun v_12 ev_12 => ?_)
  have q_13 : 0 ≤ v_12.toInt ∧ v_12.toInt ≤ 49 := by rw [ev_12]; exact hI 0 50
  refine lv_iadd hx hb dX12_setsAs_62 ?_
  refine lv_topi (fun v_14 ev_14 => ?_)
  have q_15 : v_14.toInt = x1.toInt + v_12.toInt := by rw [ev_14]; exact (bn_addI (by omega) (by omega)).trans (by omega)
  have q_16 : (f_4 0 48).toInt = v_8.toInt := (congrArg Int32.toInt (show f_4 0 48 = v_8 from ev_8.symm))
  have q_17 : (f_4 0 48).toInt = v_8.toInt := (congrArg Int32.toInt (show f_4 0 48 = v_8 from ev_8.symm))
  exact hret _ _ _ _ (v_14) f_4 L Q dX12_setsAs_63 hP hS ⟨⟨hI, hF, rfl, rfl⟩, (by omega), (by omega)⟩

abbrev WkX12_setsAs_7_f6_f7 : List (Nat × Nat × Option Nat) := [(0, 0, some 48), (21, 21, none)]
set_option maxHeartbeats 4000000 in
set_option maxRecDepth 100000 in
theorem kX12_setsAs_7_f6_f7 (l : Launch) (D : va_G) (ca : Nat → ClassId) (za h : Nat → Nat) (hh : sgH 26 h) (f : sg_F) (L : sg_L) (Q : sg_Q) (hI : sgI loM hiM f) (x1 : Int32) (hf_0_48 : f 0 48 = 6) (hf_0_49 : f 0 49 = 7) (b1 : 2 ≤ x1.toInt ∧ x1.toInt ≤ 2) (p0 : 6 ≤ (f 0 48).toInt ∧ (f 0 48).toInt ≤ 6) (sz : Nat) : Met l yX12_setsAs gwX12_setsAs { frames := 2, cells := 0, slots := 0, locals := 43 } (sgP D vwCl (tyX ca) 26 h (eM ca h) zcM za f L Q sz [.ref (h 0), .int 7, .int x1]) (sgQi D vwCl 26 h (eM ca h) sz (fun r f1 L1 Q1 => ((sgI loM hiM f1 ∧ sgK WkX12_setsAs_7_f6_f7 f f1 ∧ L1 = L ∧ Q1 = Q) ∧ (5 ≤ r.toInt ∧ r.toInt ≤ 54) ∧ (8 ≤ (f1 0 48).toInt ∧ (f1 0 48).toInt ≤ 8)))) 0 0 (sgA 26 h sz) := by
  refine sg_ofWi (cc := cX12_setsAs) (maxL := 3) RX12 (by decide) rfl rfl (Nat.le_of_ble_eq_true rfl) ?_
  intro p e s m below meth cd Qz ls hx hb hml hown hts hK hZ hP hS hl hret
  have hA := sgY.self (n := 26) (h := h) (sz := s.heap.size)
  have hl : lv_has ls 3 [(0, .ref (h 0)), (1, .int 7), (2, .int x1)] := hl
  obtain ⟨H, hH⟩ : ∃ z : Heap, z = s.heap := ⟨_, rfl⟩
  obtain ⟨locs, hlo⟩ : ∃ z : List Loc, z = [] := ⟨_, rfl⟩
  have hP : va_P D vwCl (sgw 26 h (eM ca h) f L Q) H := by rw [hH]; exact hP
  have hS : va_S (sgA 26 h s.heap.size) s.heap H locs := by rw [hH, hlo]; exact hS
  suffices hgo : W p l e ({ frames := 2, cells := 0, slots := 0, locals := 43 }) s m ([.ref (h 0), .int 7, .int x1] : List Value).toArray below meth cd H locs 0 0 Qz (F0 m 0 ls []) by rw [hH, hlo] at hgo; exact hgo
  clear hH hlo
  have o_1 : (f 0 48).toInt = 6 := (congrArg Int32.toInt (show f 0 48 = 6 from hf_0_48)).trans (by decide)
  have hF : sgK WkX12_setsAs_7_f6_f7 f f := sgK.rf
  have blk_16 : ∀ (fp_16 : sg_F) (H : Heap) (locs : List Loc) (ls : Array Slot), 6 ≤ (fp_16 0 48).toInt ∧ (fp_16 0 48).toInt ≤ 6 → 7 ≤ (fp_16 0 49).toInt ∧ (fp_16 0 49).toInt ≤ 7 → sgI loM hiM fp_16 → sgK WkX12_setsAs_7_f6_f7 f fp_16 → va_P D vwCl (sgw 26 h (eM ca h) fp_16 L Q) H → va_S (sgA 26 h s.heap.size) s.heap H locs → lv_has ls 3 [(0, .ref (h 0)), (2, .int x1)] → W p l e ({ frames := 2, cells := 0, slots := 0, locals := 43 }) s m ([.ref (h 0), .int 7, .int x1] : List Value).toArray below meth cd H locs 0 0 Qz (F0 m 16 ls []) := by
    intro fp_16 H locs ls hy0_16 hy1_16 hI hF hP hS hl
    obtain ⟨v_2, ev_2⟩ : ∃ z : Int32, z = fp_16 0 48 := ⟨_, rfl⟩
    have q_3 : 0 ≤ v_2.toInt ∧ v_2.toInt ≤ 19 := by rw [ev_2]; exact hI 0 48
    have q_4 : (fp_16 0 48).toInt = v_2.toInt := by rw [ev_2]
    obtain ⟨v_5, ev_5⟩ : ∃ z : Int32, z = fp_16 0 49 := ⟨_, rfl⟩
    have q_6 : 0 ≤ v_5.toInt ∧ v_5.toInt ≤ 7 := by rw [ev_5]; exact hI 0 49
    have q_7 : (fp_16 0 49).toInt = v_5.toInt := by rw [ev_5]
    have m_8 : fp_16 0 49 = 7 := (hF 0 49 (by decide)).trans hf_0_49
    refine lv_aload_n hx hb dX12_setsAs_16 rfl (lv_at hl 0 rfl) ?_
    refine lv_bipush (v := 20) hx hb dX12_setsAs_17 (by decide) ?_
    have c_9 : v_2 = 6 := Int32.toInt_inj.mp (by have k9 : (6 : Int32).toInt = 6 := (by decide); omega)
    have q_10 : (fp_16 0 48).toInt = 6 := (congrArg Int32.toInt (show fp_16 0 48 = 6 from (Eq.trans ev_2.symm c_9))).trans (by decide)
    have q_11 : (fp_16 0 48).toInt = 6 := (congrArg Int32.toInt (show fp_16 0 48 = 6 from (Eq.trans ev_2.symm c_9))).trans (by decide)
    refine sg_callv (va_runV (As := [.int 20]) (rest := []) ⟨hx, hb, hml, hown, hts⟩ (kX12_begins_20_f6 l D ca za h hh fp_16 L Q hI (Eq.trans ev_2.symm c_9) (by have k0 : (20 : Int32).toInt = 20 := (by decide); omega) H.size) (cwV 1 hts (gw_V (fun _ h => List.mem_cons_of_mem _ h) mw_734 mw_735 mw_736 mw_619 mw_733) rfl rfl rfl (by decide +kernel) ⟨Nat.le_of_ble_eq_true rfl, Nat.le_of_ble_eq_true rfl⟩) (sg_preV (ci := 12) (C := RX12) (T := TX12) (N := 55) hA hK hP hS hZ 0 (by decide) rfl rfl) rfl rfl hl.1 rfl (lv_room (Nat.le_of_ble_eq_true rfl)) dX12_setsAs_19 ⟨Nat.le_refl _, Nat.le_refl _⟩) hA hS (fun f_12 L_13 Q_14 H locs hq hP hS => ?_)
    obtain ⟨⟨hI, hk_f_12, eL9, eQ9⟩, p_15⟩ := hq
    rw [eL9, eQ9] at hP; clear eL9 eQ9
    have hF : sgK WkX12_setsAs_7_f6_f7 f f_12 := sgK.tr hF hk_f_12 (by decide)
    obtain ⟨v_16, ev_16⟩ : ∃ z : Int32, z = f_12 0 48 := ⟨_, rfl⟩
    have q_17 : 0 ≤ v_16.toInt ∧ v_16.toInt ≤ 19 := by rw [ev_16]; exact hI 0 48
    have q_18 : (f_12 0 48).toInt = v_16.toInt := (congrArg Int32.toInt (show f_12 0 48 = v_16 from ev_16.symm))
    have q_19 : (f_12 0 48).toInt = v_16.toInt := (congrArg Int32.toInt (show f_12 0 48 = v_16 from ev_16.symm))
    refine lv_aload_n hx hb dX12_setsAs_22 rfl (lv_at hl 0 rfl) ?_
    refine lv_iconst (v := 0) hx hb dX12_setsAs_23 (by decide) ?_
    refine lv_iload_n hx hb dX12_setsAs_24 rfl (lv_at hl 1 rfl) ?_
    have c_20 : v_16 = 7 := Int32.toInt_inj.mp (by have k9 : (7 : Int32).toInt = 7 := (by decide); omega)
    have q_21 : (f_12 0 48).toInt = 7 := (congrArg Int32.toInt (show f_12 0 48 = 7 from (Eq.trans ev_16.symm c_20))).trans (by decide)
    have q_22 : (f_12 0 48).toInt = 7 := (congrArg Int32.toInt (show f_12 0 48 = 7 from (Eq.trans ev_16.symm c_20))).trans (by decide)
    refine sg_calli (va_runV (As := [.int 0, .int x1]) (rest := []) ⟨hx, hb, hml, hown, hts⟩ (kX12_setsAs_0_f7_f7 l D ca za h hh f_12 L Q hI x1 (Eq.trans ev_16.symm c_20) ((hk_f_12 0 49 (by decide)).trans m_8) (by omega) (by have k0 : (0 : Int32).toInt = 0 := (by decide); omega) H.size) (cwV 2 hts (gw_V (fun _ h => List.mem_cons_of_mem _ h) mw_744 mw_745 mw_746 mw_619 mw_743) rfl rfl rfl (by decide +kernel) ⟨Nat.le_of_ble_eq_true rfl, Nat.le_of_ble_eq_true rfl⟩) (sg_preV (ci := 12) (C := RX12) (T := TX12) (N := 55) hA hK hP hS hZ 0 (by decide) rfl rfl) rfl rfl hl.1 rfl (lv_room (Nat.le_of_ble_eq_true rfl)) dX12_setsAs_25 ⟨Nat.le_refl _, Nat.le_refl _⟩) hA hS (fun r_26 f_23 L_24 Q_25 H locs hq hP hS => ?_)
    obtain ⟨⟨hI, hk_f_23, eL9, eQ9⟩, hq, p_27⟩ := hq
    rw [eL9, eQ9] at hP; clear eL9 eQ9
    have hF : sgK WkX12_setsAs_7_f6_f7 f f_23 := sgK.tr hF hk_f_23 (by decide)
    obtain ⟨v_28, ev_28⟩ : ∃ z : Int32, z = f_23 0 48 := ⟨_, rfl⟩
    have q_29 : 0 ≤ v_28.toInt ∧ v_28.toInt ≤ 19 := by rw [ev_28]; exact hI 0 48
    have q_30 : (f_23 0 48).toInt = v_28.toInt := (congrArg Int32.toInt (show f_23 0 48 = v_28 from ev_28.symm))
    have q_31 : (f_23 0 48).toInt = v_28.toInt := (congrArg Int32.toInt (show f_23 0 48 = v_28 from ev_28.symm))
    have k_32 : (0 : Int32).toInt = 0 := by decide
    refine lv_iconst (v := 3) hx hb dX12_setsAs_28 (by decide) ?_
    refine lv_iadd hx hb dX12_setsAs_29 ?_
    refine lv_topi (fun v_33 ev_33 => ?_)
    have q_34 : v_33.toInt = r_26.toInt + 3 := by rw [ev_33]; have k1 : (3 : Int32).toInt = 3 := (by decide); exact (bn_addI (by omega) (by omega)).trans (by omega)
    have q_35 : (f_23 0 48).toInt = v_28.toInt := (congrArg Int32.toInt (show f_23 0 48 = v_28 from ev_28.symm))
    have q_36 : (f_23 0 48).toInt = v_28.toInt := (congrArg Int32.toInt (show f_23 0 48 = v_28 from ev_28.symm))
    exact hret _ _ _ _ (v_33) f_23 L Q dX12_setsAs_30 hP hS ⟨⟨hI, hF, rfl, rfl⟩, (by omega), (by omega)⟩
  refine lv_iload_n hx hb dX12_setsAs_0 rfl (lv_at hl 1 rfl) ?_
  refine lv_iconst (v := 1) hx hb dX12_setsAs_1 (by decide) ?_
  refine lv_icmp_eq (tgt := 16) hx hb dX12_setsAs_2 (by decide) (fun c => absurd c (by decide)) (fun c => ?_)
  refine lv_iload_n hx hb dX12_setsAs_5 rfl (lv_at hl 1 rfl) ?_
  refine lv_iconst (v := 4) hx hb dX12_setsAs_6 (by decide) ?_
  refine lv_icmp_eq (tgt := 16) hx hb dX12_setsAs_7 (by decide) (fun c => absurd c (by decide)) (fun c => ?_)
  refine lv_iload_n hx hb dX12_setsAs_10 rfl (lv_at hl 1 rfl) ?_
  refine lv_bipush (v := 7) hx hb dX12_setsAs_11 (by decide) ?_
  refine lv_icmp_ne (tgt := 31) hx hb dX12_setsAs_13 (by decide) (fun c => absurd c (by decide)) (fun c => ?_)
  exact blk_16 f _ _ _ (by have zz0_48 : (f 0 48).toInt = 6 := (congrArg Int32.toInt (show f 0 48 = 6 from hf_0_48)).trans (by decide); omega) (by have zz0_49 : (f 0 49).toInt = 7 := (congrArg Int32.toInt (show f 0 49 = 7 from hf_0_49)).trans (by decide); omega) hI hF hP hS (lv_sub hl [0, 2] rfl)

abbrev WkX12_slipsAs_7_f4_f7 : List (Nat × Nat × Option Nat) := [(0, 0, some 48), (21, 21, none)]
set_option maxHeartbeats 4000000 in
set_option maxRecDepth 100000 in
theorem kX12_slipsAs_7_f4_f7 (l : Launch) (D : va_G) (ca : Nat → ClassId) (za h : Nat → Nat) (hh : sgH 26 h) (f : sg_F) (L : sg_L) (Q : sg_Q) (hI : sgI loM hiM f) (x1 : Int32) (hf_0_48 : f 0 48 = 4) (hf_0_49 : f 0 49 = 7) (b1 : 2 ≤ x1.toInt ∧ x1.toInt ≤ 2) (p0 : 4 ≤ (f 0 48).toInt ∧ (f 0 48).toInt ≤ 4) (sz : Nat) : Met l yX12_slipsAs gwX12_slipsAs { frames := 3, cells := 0, slots := 0, locals := 65 } (sgP D vwCl (tyX ca) 26 h (eM ca h) zcM za f L Q sz [.ref (h 0), .int 7, .int x1]) (sgQi D vwCl 26 h (eM ca h) sz (fun r f1 L1 Q1 => ((sgI loM hiM f1 ∧ sgK WkX12_slipsAs_7_f4_f7 f f1 ∧ L1 = L ∧ Q1 = Q) ∧ True ∧ (8 ≤ (f1 0 48).toInt ∧ (f1 0 48).toInt ≤ 8)))) 0 0 (sgA 26 h sz) := by
  refine sg_ofWi (cc := cX12_slipsAs) (maxL := 4) RX12 (by decide) rfl rfl (Nat.le_of_ble_eq_true rfl) ?_
  intro p e s m below meth cd Qz ls hx hb hml hown hts hK hZ hP hS hl hret
  have hA := sgY.self (n := 26) (h := h) (sz := s.heap.size)
  have hl : lv_has ls 4 [(0, .ref (h 0)), (1, .int 7), (2, .int x1)] := hl
  obtain ⟨H, hH⟩ : ∃ z : Heap, z = s.heap := ⟨_, rfl⟩
  obtain ⟨locs, hlo⟩ : ∃ z : List Loc, z = [] := ⟨_, rfl⟩
  have hP : va_P D vwCl (sgw 26 h (eM ca h) f L Q) H := by rw [hH]; exact hP
  have hS : va_S (sgA 26 h s.heap.size) s.heap H locs := by rw [hH, hlo]; exact hS
  suffices hgo : W p l e ({ frames := 3, cells := 0, slots := 0, locals := 65 }) s m ([.ref (h 0), .int 7, .int x1] : List Value).toArray below meth cd H locs 0 0 Qz (F0 m 0 ls []) by rw [hH, hlo] at hgo; exact hgo
  clear hH hlo
  have o_1 : (f 0 48).toInt = 4 := (congrArg Int32.toInt (show f 0 48 = 4 from hf_0_48)).trans (by decide)
  have hF : sgK WkX12_slipsAs_7_f4_f7 f f := sgK.rf
  have blk_36 : ∀ (fp_36 : sg_F) (H : Heap) (locs : List Loc) (ls : Array Slot), 4 ≤ (fp_36 0 48).toInt ∧ (fp_36 0 48).toInt ≤ 4 → 7 ≤ (fp_36 0 49).toInt ∧ (fp_36 0 49).toInt ≤ 7 → sgI loM hiM fp_36 → sgK WkX12_slipsAs_7_f4_f7 f fp_36 → va_P D vwCl (sgw 26 h (eM ca h) fp_36 L Q) H → va_S (sgA 26 h s.heap.size) s.heap H locs → lv_has ls 4 [(0, .ref (h 0)), (2, .int x1)] → W p l e ({ frames := 3, cells := 0, slots := 0, locals := 65 }) s m ([.ref (h 0), .int 7, .int x1] : List Value).toArray below meth cd H locs 0 0 Qz (F0 m 36 ls []) := by
    intro fp_36 H locs ls hy0_36 hy1_36 hI hF hP hS hl
    obtain ⟨v_2, ev_2⟩ : ∃ z : Int32, z = fp_36 0 48 := ⟨_, rfl⟩
    have q_3 : 0 ≤ v_2.toInt ∧ v_2.toInt ≤ 19 := by rw [ev_2]; exact hI 0 48
    have q_4 : (fp_36 0 48).toInt = v_2.toInt := by rw [ev_2]
    obtain ⟨v_5, ev_5⟩ : ∃ z : Int32, z = fp_36 0 49 := ⟨_, rfl⟩
    have q_6 : 0 ≤ v_5.toInt ∧ v_5.toInt ≤ 7 := by rw [ev_5]; exact hI 0 49
    have q_7 : (fp_36 0 49).toInt = v_5.toInt := by rw [ev_5]
    have m_8 : fp_36 0 49 = 7 := (hF 0 49 (by decide)).trans hf_0_49
    refine lv_aload_n hx hb dX12_slipsAs_36 rfl (lv_at hl 0 rfl) ?_
    refine lv_bipush (v := 50) hx hb dX12_slipsAs_37 (by decide) ?_
    have c_9 : v_2 = 4 := Int32.toInt_inj.mp (by have k9 : (4 : Int32).toInt = 4 := (by decide); omega)
    have q_10 : (fp_36 0 48).toInt = 4 := (congrArg Int32.toInt (show fp_36 0 48 = 4 from (Eq.trans ev_2.symm c_9))).trans (by decide)
    have q_11 : (fp_36 0 48).toInt = 4 := (congrArg Int32.toInt (show fp_36 0 48 = 4 from (Eq.trans ev_2.symm c_9))).trans (by decide)
    refine sg_callv (va_runV (As := [.int 50]) (rest := []) ⟨hx, hb, hml, hown, hts⟩ (kX12_begins_50_f4 l D ca za h hh fp_36 L Q hI (Eq.trans ev_2.symm c_9) (by have k0 : (50 : Int32).toInt = 50 := (by decide); omega) H.size) (cwV 1 hts (gw_V (fun _ h => List.mem_cons_of_mem _ h) mw_734 mw_735 mw_736 mw_619 mw_733) rfl rfl rfl (by decide +kernel) ⟨Nat.le_of_ble_eq_true rfl, Nat.le_of_ble_eq_true rfl⟩) (sg_preV (ci := 12) (C := RX12) (T := TX12) (N := 55) hA hK hP hS hZ 0 (by decide) rfl rfl) rfl rfl hl.1 rfl (lv_room (Nat.le_of_ble_eq_true rfl)) dX12_slipsAs_39 ⟨Nat.le_refl _, Nat.le_refl _⟩) hA hS (fun f_12 L_13 Q_14 H locs hq hP hS => ?_)
    obtain ⟨⟨hI, hk_f_12, eL9, eQ9⟩, p_15⟩ := hq
    rw [eL9, eQ9] at hP; clear eL9 eQ9
    have hF : sgK WkX12_slipsAs_7_f4_f7 f f_12 := sgK.tr hF hk_f_12 (by decide)
    obtain ⟨v_16, ev_16⟩ : ∃ z : Int32, z = f_12 0 48 := ⟨_, rfl⟩
    have q_17 : 0 ≤ v_16.toInt ∧ v_16.toInt ≤ 19 := by rw [ev_16]; exact hI 0 48
    have q_18 : (f_12 0 48).toInt = v_16.toInt := (congrArg Int32.toInt (show f_12 0 48 = v_16 from ev_16.symm))
    have q_19 : (f_12 0 48).toInt = v_16.toInt := (congrArg Int32.toInt (show f_12 0 48 = v_16 from ev_16.symm))
    refine lv_aload_n hx hb dX12_slipsAs_42 rfl (lv_at hl 0 rfl) ?_
    refine lv_iconst (v := 1) hx hb dX12_slipsAs_43 (by decide) ?_
    refine lv_iload_n hx hb dX12_slipsAs_44 rfl (lv_at hl 1 rfl) ?_
    have c_20 : v_16 = 5 := Int32.toInt_inj.mp (by have k9 : (5 : Int32).toInt = 5 := (by decide); omega)
    have q_21 : (f_12 0 48).toInt = 5 := (congrArg Int32.toInt (show f_12 0 48 = 5 from (Eq.trans ev_16.symm c_20))).trans (by decide)
    have q_22 : (f_12 0 48).toInt = 5 := (congrArg Int32.toInt (show f_12 0 48 = 5 from (Eq.trans ev_16.symm c_20))).trans (by decide)
    refine sg_calli (va_runV (As := [.int 1, .int x1]) (rest := []) ⟨hx, hb, hml, hown, hts⟩ (kX12_slipsAs_1_f5_f7 l D ca za h hh f_12 L Q hI x1 (Eq.trans ev_16.symm c_20) ((hk_f_12 0 49 (by decide)).trans m_8) (by omega) (by have k0 : (1 : Int32).toInt = 1 := (by decide); omega) H.size) (cwV 2 hts (gw_V (fun _ h => List.mem_cons_of_mem _ h) mw_748 mw_749 mw_750 mw_619 mw_747) rfl rfl rfl (by decide +kernel) ⟨Nat.le_of_ble_eq_true rfl, Nat.le_of_ble_eq_true rfl⟩) (sg_preV (ci := 12) (C := RX12) (T := TX12) (N := 55) hA hK hP hS hZ 0 (by decide) rfl rfl) rfl rfl hl.1 rfl (lv_room (Nat.le_of_ble_eq_true rfl)) dX12_slipsAs_45 ⟨Nat.le_refl _, Nat.le_refl _⟩) hA hS (fun r_26 f_23 L_24 Q_25 H locs hq hP hS => ?_)
    obtain ⟨⟨hI, hk_f_23, eL9, eQ9⟩, hq, p_27⟩ := hq
    rw [eL9, eQ9] at hP; clear eL9 eQ9
    have hF : sgK WkX12_slipsAs_7_f4_f7 f f_23 := sgK.tr hF hk_f_23 (by decide)
    obtain ⟨v_28, ev_28⟩ : ∃ z : Int32, z = f_23 0 48 := ⟨_, rfl⟩
    have q_29 : 0 ≤ v_28.toInt ∧ v_28.toInt ≤ 19 := by rw [ev_28]; exact hI 0 48
    have q_30 : (f_23 0 48).toInt = v_28.toInt := (congrArg Int32.toInt (show f_23 0 48 = v_28 from ev_28.symm))
    have q_31 : (f_23 0 48).toInt = v_28.toInt := (congrArg Int32.toInt (show f_23 0 48 = v_28 from ev_28.symm))
    have k_32 : (1 : Int32).toInt = 1 := by decide
    refine lv_istore_n (lv' := [(3, .int r_26), (0, .ref (h 0)), (2, .int x1)]) hx hb dX12_slipsAs_48 rfl hl (by decide) rfl (fun ls hl => ?_)
    refine lv_iload_n hx hb dX12_slipsAs_49 rfl (lv_at hl 0 rfl) ?_
    refine lv_aload_n hx hb dX12_slipsAs_50 rfl (lv_at hl 1 rfl) ?_
    refine lv_aload_n hx hb dX12_slipsAs_51 rfl (lv_at hl 1 rfl) ?_
    refine sg_get (ci := 12) (v := .int 7) (C := RX12) (T := TX12) (N := 55) hx hb hts (fun w h => List.mem_cons_of_mem _ (gx_12 w h)) hown hK hP 0 (by decide) rfl rfl 49 (by decide) (hts _ (List.mem_cons_of_mem _ mw_679)) (fun _ h9 => h9) (congrArg (fun z => some (Value.int z)) (show f_23 0 49 = 7 from ((hk_f_23 0 49 (by decide)).trans ((hk_f_12 0 49 (by decide)).trans m_8)))) dX12_slipsAs_52 ?_
    refine lv_iconst (v := 2) hx hb dX12_slipsAs_55 (by decide) ?_
    have c_33 : v_28 = 6 := Int32.toInt_inj.mp (by have k9 : (6 : Int32).toInt = 6 := (by decide); omega)
    have q_34 : (f_23 0 48).toInt = 6 := (congrArg Int32.toInt (show f_23 0 48 = 6 from (Eq.trans ev_28.symm c_33))).trans (by decide)
    have q_35 : (f_23 0 48).toInt = 6 := (congrArg Int32.toInt (show f_23 0 48 = 6 from (Eq.trans ev_28.symm c_33))).trans (by decide)
    refine sg_calli (va_runV (As := [.int 7, .int 2]) (rest := [.int r_26]) ⟨hx, hb, hml, hown, hts⟩ (kX12_setsAs_7_f6_f7 l D ca za h hh f_23 L Q hI 2 (Eq.trans ev_28.symm c_33) ((hk_f_23 0 49 (by decide)).trans ((hk_f_12 0 49 (by decide)).trans m_8)) (by decide) (by have k0 : (7 : Int32).toInt = 7 := (by decide); have k1 : (2 : Int32).toInt = 2 := (by decide); omega) H.size) (cwV 2 hts (gw_V (fun _ h => List.mem_cons_of_mem _ h) mw_744 mw_745 mw_746 mw_619 mw_743) rfl rfl rfl (by decide +kernel) ⟨Nat.le_of_ble_eq_true rfl, Nat.le_of_ble_eq_true rfl⟩) (sg_preV (ci := 12) (C := RX12) (T := TX12) (N := 55) hA hK hP hS hZ 0 (by decide) rfl rfl) rfl rfl hl.1 rfl (lv_room (Nat.le_of_ble_eq_true rfl)) dX12_slipsAs_56 ⟨Nat.le_refl _, Nat.le_refl _⟩) hA hS (fun r_39 f_36 L_37 Q_38 H locs hq hP hS => ?_)
    obtain ⟨⟨hI, hk_f_36, eL9, eQ9⟩, hq, p_40⟩ := hq
    rw [eL9, eQ9] at hP; clear eL9 eQ9
    have hF : sgK WkX12_slipsAs_7_f4_f7 f f_36 := sgK.tr hF hk_f_36 (by decide)
    obtain ⟨v_41, ev_41⟩ : ∃ z : Int32, z = f_36 0 48 := ⟨_, rfl⟩
    have q_42 : 0 ≤ v_41.toInt ∧ v_41.toInt ≤ 19 := by rw [ev_41]; exact hI 0 48
    have q_43 : (f_36 0 48).toInt = v_41.toInt := (congrArg Int32.toInt (show f_36 0 48 = v_41 from ev_41.symm))
    have q_44 : (f_36 0 48).toInt = v_41.toInt := (congrArg Int32.toInt (show f_36 0 48 = v_41 from ev_41.symm))
    have k_45 : (7 : Int32).toInt = 7 := by decide
    have k_46 : (2 : Int32).toInt = 2 := by decide
    refine lv_isub hx hb dX12_slipsAs_59 ?_
    refine lv_topi (fun v_47 ev_47 => ?_)
    have q_48 : (f_36 0 48).toInt = v_41.toInt := (congrArg Int32.toInt (show f_36 0 48 = v_41 from ev_41.symm))
    have q_49 : (f_36 0 48).toInt = v_41.toInt := (congrArg Int32.toInt (show f_36 0 48 = v_41 from ev_41.symm))
    exact hret _ _ _ _ (v_47) f_36 L Q dX12_slipsAs_60 hP hS ⟨⟨hI, hF, rfl, rfl⟩, trivial, (by omega)⟩
  refine lv_iload_n hx hb dX12_slipsAs_0 rfl (lv_at hl 1 rfl) ?_
  refine lv_iconst (v := 3) hx hb dX12_slipsAs_1 (by decide) ?_
  refine lv_icmp_eq (tgt := 10) hx hb dX12_slipsAs_2 (by decide) (fun c => absurd c (by decide)) (fun c => ?_)
  refine lv_iload_n hx hb dX12_slipsAs_5 rfl (lv_at hl 1 rfl) ?_
  refine lv_iconst (v := 5) hx hb dX12_slipsAs_6 (by decide) ?_
  refine lv_icmp_ne (tgt := 25) hx hb dX12_slipsAs_7 (by decide) (fun c => ?_) (fun c => absurd c (by decide))
  refine lv_iload_n hx hb dX12_slipsAs_25 rfl (lv_at hl 1 rfl) ?_
  refine lv_iconst (v := 4) hx hb dX12_slipsAs_26 (by decide) ?_
  refine lv_icmp_eq (tgt := 36) hx hb dX12_slipsAs_27 (by decide) (fun c => absurd c (by decide)) (fun c => ?_)
  refine lv_iload_n hx hb dX12_slipsAs_30 rfl (lv_at hl 1 rfl) ?_
  refine lv_bipush (v := 7) hx hb dX12_slipsAs_31 (by decide) ?_
  refine lv_icmp_ne (tgt := 61) hx hb dX12_slipsAs_33 (by decide) (fun c => absurd c (by decide)) (fun c => ?_)
  exact blk_36 f _ _ _ (by have zz0_48 : (f 0 48).toInt = 4 := (congrArg Int32.toInt (show f 0 48 = 4 from hf_0_48)).trans (by decide); omega) (by have zz0_49 : (f 0 49).toInt = 7 := (congrArg Int32.toInt (show f 0 49 = 7 from hf_0_49)).trans (by decide); omega) hI hF hP hS (lv_sub hl [0, 2] rfl)

abbrev WkX12_sitsAs_7_f0_f7 : List (Nat × Nat × Option Nat) := [(0, 0, some 48), (21, 21, none)]
set_option maxHeartbeats 4000000 in
set_option maxRecDepth 100000 in
theorem kX12_sitsAs_7_f0_f7 (l : Launch) (D : va_G) (ca : Nat → ClassId) (za h : Nat → Nat) (hh : sgH 26 h) (f : sg_F) (L : sg_L) (Q : sg_Q) (hI : sgI loM hiM f) (x1 : Int32) (hf_0_48 : f 0 48 = 0) (hf_0_49 : f 0 49 = 7) (p0 : 0 ≤ (f 0 48).toInt ∧ (f 0 48).toInt ≤ 0) (sz : Nat) : Met l yX12_sitsAs gwX12_sitsAs { frames := 4, cells := 0, slots := 0, locals := 88 } (sgP D vwCl (tyX ca) 26 h (eM ca h) zcM za f L Q sz [.ref (h 0), .int 7, .int x1]) (sgQi D vwCl 26 h (eM ca h) sz (fun r f1 L1 Q1 => ((sgI loM hiM f1 ∧ sgK WkX12_sitsAs_7_f0_f7 f f1 ∧ L1 = L ∧ Q1 = Q) ∧ True ∧ (8 ≤ (f1 0 48).toInt ∧ (f1 0 48).toInt ≤ 8)))) 0 0 (sgA 26 h sz) := by
  refine sg_ofWi (cc := cX12_sitsAs) (maxL := 4) RX12 (by decide) rfl rfl (Nat.le_of_ble_eq_true rfl) ?_
  intro p e s m below meth cd Qz ls hx hb hml hown hts hK hZ hP hS hl hret
  have hA := sgY.self (n := 26) (h := h) (sz := s.heap.size)
  have hl : lv_has ls 4 [(0, .ref (h 0)), (1, .int 7), (2, .int x1)] := hl
  obtain ⟨H, hH⟩ : ∃ z : Heap, z = s.heap := ⟨_, rfl⟩
  obtain ⟨locs, hlo⟩ : ∃ z : List Loc, z = [] := ⟨_, rfl⟩
  have hP : va_P D vwCl (sgw 26 h (eM ca h) f L Q) H := by rw [hH]; exact hP
  have hS : va_S (sgA 26 h s.heap.size) s.heap H locs := by rw [hH, hlo]; exact hS
  suffices hgo : W p l e ({ frames := 4, cells := 0, slots := 0, locals := 88 }) s m ([.ref (h 0), .int 7, .int x1] : List Value).toArray below meth cd H locs 0 0 Qz (F0 m 0 ls []) by rw [hH, hlo] at hgo; exact hgo
  clear hH hlo
  have o_1 : (f 0 48).toInt = 0 := (congrArg Int32.toInt (show f 0 48 = 0 from hf_0_48)).trans (by decide)
  have hF : sgK WkX12_sitsAs_7_f0_f7 f f := sgK.rf
  refine lv_iload_n hx hb dX12_sitsAs_0 rfl (lv_at hl 1 rfl) ?_
  refine lv_iconst (v := 3) hx hb dX12_sitsAs_1 (by decide) ?_
  refine lv_icmp_eq (tgt := 10) hx hb dX12_sitsAs_2 (by decide) (fun c => absurd c (by decide)) (fun c => ?_)
  refine lv_iload_n hx hb dX12_sitsAs_5 rfl (lv_at hl 1 rfl) ?_
  refine lv_iconst (v := 5) hx hb dX12_sitsAs_6 (by decide) ?_
  refine lv_icmp_ne (tgt := 25) hx hb dX12_sitsAs_7 (by decide) (fun c => ?_) (fun c => absurd c (by decide))
  refine lv_iload_n hx hb dX12_sitsAs_25 rfl (lv_at hl 1 rfl) ?_
  refine lv_iconst (v := 2) hx hb dX12_sitsAs_26 (by decide) ?_
  refine lv_icmp_ne (tgt := 44) hx hb dX12_sitsAs_27 (by decide) (fun c => ?_) (fun c => absurd c (by decide))
  refine lv_iload_n hx hb dX12_sitsAs_44 rfl (lv_at hl 1 rfl) ?_
  refine lv_bipush (v := 7) hx hb dX12_sitsAs_45 (by decide) ?_
  refine lv_icmp_ne (tgt := 75) hx hb dX12_sitsAs_47 (by decide) (fun c => absurd c (by decide)) (fun c => ?_)
  refine lv_aload_n hx hb dX12_sitsAs_50 rfl (lv_at hl 0 rfl) ?_
  refine lv_bipush (v := 80) hx hb dX12_sitsAs_51 (by decide) ?_
  have q_2 : (f 0 48).toInt = 0 := (congrArg Int32.toInt (show f 0 48 = 0 from hf_0_48)).trans (by decide)
  have q_3 : (f 0 48).toInt = 0 := (congrArg Int32.toInt (show f 0 48 = 0 from hf_0_48)).trans (by decide)
  refine sg_callv (va_runV (As := [.int 80]) (rest := []) ⟨hx, hb, hml, hown, hts⟩ (kX12_begins_80_f0 l D ca za h hh f L Q hI hf_0_48 (by have k0 : (80 : Int32).toInt = 80 := (by decide); omega) H.size) (cwV 1 hts (gw_V (fun _ h => List.mem_cons_of_mem _ h) mw_734 mw_735 mw_736 mw_619 mw_733) rfl rfl rfl (by decide +kernel) ⟨Nat.le_of_ble_eq_true rfl, Nat.le_of_ble_eq_true rfl⟩) (sg_preV (ci := 12) (C := RX12) (T := TX12) (N := 55) hA hK hP hS hZ 0 (by decide) rfl rfl) rfl rfl hl.1 rfl (lv_room (Nat.le_of_ble_eq_true rfl)) dX12_sitsAs_53 ⟨Nat.le_refl _, Nat.le_refl _⟩) hA hS (fun f_4 L_5 Q_6 H locs hq hP hS => ?_)
  obtain ⟨⟨hI, hk_f_4, eL9, eQ9⟩, p_7⟩ := hq
  rw [eL9, eQ9] at hP; clear eL9 eQ9
  have hF : sgK WkX12_sitsAs_7_f0_f7 f f_4 := sgK.tr hF hk_f_4 (by decide)
  obtain ⟨v_8, ev_8⟩ : ∃ z : Int32, z = f_4 0 48 := ⟨_, rfl⟩
  have q_9 : 0 ≤ v_8.toInt ∧ v_8.toInt ≤ 19 := by rw [ev_8]; exact hI 0 48
  have q_10 : (f_4 0 48).toInt = v_8.toInt := (congrArg Int32.toInt (show f_4 0 48 = v_8 from ev_8.symm))
  have q_11 : (f_4 0 48).toInt = v_8.toInt := (congrArg Int32.toInt (show f_4 0 48 = v_8 from ev_8.symm))
  refine lv_aload_n hx hb dX12_sitsAs_56 rfl (lv_at hl 0 rfl) ?_
  refine lv_iconst (v := 4) hx hb dX12_sitsAs_57 (by decide) ?_
  refine lv_iload_n hx hb dX12_sitsAs_58 rfl (lv_at hl 2 rfl) ?_
  have c_12 : v_8 = 1 := Int32.toInt_inj.mp (by have k9 : (1 : Int32).toInt = 1 := (by decide); omega)
  have q_13 : (f_4 0 48).toInt = 1 := (congrArg Int32.toInt (show f_4 0 48 = 1 from (Eq.trans ev_8.symm c_12))).trans (by decide)
  have q_14 : (f_4 0 48).toInt = 1 := (congrArg Int32.toInt (show f_4 0 48 = 1 from (Eq.trans ev_8.symm c_12))).trans (by decide)
  refine sg_calli (va_runV (As := [.int 4, .int x1]) (rest := []) ⟨hx, hb, hml, hown, hts⟩ (kX12_sitsAs_4_f1_f7 l D ca za h hh f_4 L Q hI x1 (Eq.trans ev_8.symm c_12) ((hk_f_4 0 49 (by decide)).trans hf_0_49) (by have k0 : (4 : Int32).toInt = 4 := (by decide); omega) H.size) (cwV 2 hts (gw_V (fun _ h => List.mem_cons_of_mem _ h) mw_801 mw_802 mw_803 mw_619 mw_800) rfl rfl rfl (by decide +kernel) ⟨Nat.le_of_ble_eq_true rfl, Nat.le_of_ble_eq_true rfl⟩) (sg_preV (ci := 12) (C := RX12) (T := TX12) (N := 55) hA hK hP hS hZ 0 (by decide) rfl rfl) rfl rfl hl.1 rfl (lv_room (Nat.le_of_ble_eq_true rfl)) dX12_sitsAs_59 ⟨Nat.le_refl _, Nat.le_refl _⟩) hA hS (fun r_18 f_15 L_16 Q_17 H locs hq hP hS => ?_)
  obtain ⟨⟨hI, hk_f_15, eL9, eQ9⟩, hq, p_19⟩ := hq
  rw [eL9, eQ9] at hP; clear eL9 eQ9
  have hF : sgK WkX12_sitsAs_7_f0_f7 f f_15 := sgK.tr hF hk_f_15 (by decide)
  obtain ⟨v_20, ev_20⟩ : ∃ z : Int32, z = f_15 0 48 := ⟨_, rfl⟩
  have q_21 : 0 ≤ v_20.toInt ∧ v_20.toInt ≤ 19 := by rw [ev_20]; exact hI 0 48
  have q_22 : (f_15 0 48).toInt = v_20.toInt := (congrArg Int32.toInt (show f_15 0 48 = v_20 from ev_20.symm))
  have q_23 : (f_15 0 48).toInt = v_20.toInt := (congrArg Int32.toInt (show f_15 0 48 = v_20 from ev_20.symm))
  have k_24 : (4 : Int32).toInt = 4 := by decide
  refine lv_istore_n (lv' := [(3, .int r_18), (0, .ref (h 0)), (1, .int 7), (2, .int x1)]) hx hb dX12_sitsAs_62 rfl hl (by decide) rfl (fun ls hl => ?_)
  refine lv_iload_n hx hb dX12_sitsAs_63 rfl (lv_at hl 0 rfl) ?_
  refine lv_aload_n hx hb dX12_sitsAs_64 rfl (lv_at hl 1 rfl) ?_
  refine lv_aload_n hx hb dX12_sitsAs_65 rfl (lv_at hl 1 rfl) ?_
  refine sg_get (ci := 12) (v := .int 7) (C := RX12) (T := TX12) (N := 55) hx hb hts (fun w h => List.mem_cons_of_mem _ (gx_12 w h)) hown hK hP 0 (by decide) rfl rfl 49 (by decide) (hts _ (List.mem_cons_of_mem _ mw_679)) (fun _ h9 => h9) (congrArg (fun z => some (Value.int z)) (show f_15 0 49 = 7 from ((hk_f_15 0 49 (by decide)).trans ((hk_f_4 0 49 (by decide)).trans hf_0_49)))) dX12_sitsAs_66 ?_
  refine lv_iconst (v := 2) hx hb dX12_sitsAs_69 (by decide) ?_
  have c_25 : v_20 = 4 := Int32.toInt_inj.mp (by have k9 : (4 : Int32).toInt = 4 := (by decide); omega)
  have q_26 : (f_15 0 48).toInt = 4 := (congrArg Int32.toInt (show f_15 0 48 = 4 from (Eq.trans ev_20.symm c_25))).trans (by decide)
  have q_27 : (f_15 0 48).toInt = 4 := (congrArg Int32.toInt (show f_15 0 48 = 4 from (Eq.trans ev_20.symm c_25))).trans (by decide)
  refine sg_calli (va_runV (As := [.int 7, .int 2]) (rest := [.int r_18]) ⟨hx, hb, hml, hown, hts⟩ (kX12_slipsAs_7_f4_f7 l D ca za h hh f_15 L Q hI 2 (Eq.trans ev_20.symm c_25) ((hk_f_15 0 49 (by decide)).trans ((hk_f_4 0 49 (by decide)).trans hf_0_49)) (by decide) (by have k0 : (7 : Int32).toInt = 7 := (by decide); have k1 : (2 : Int32).toInt = 2 := (by decide); omega) H.size) (cwV 2 hts (gw_V (fun _ h => List.mem_cons_of_mem _ h) mw_748 mw_749 mw_750 mw_619 mw_747) rfl rfl rfl (by decide +kernel) ⟨Nat.le_of_ble_eq_true rfl, Nat.le_of_ble_eq_true rfl⟩) (sg_preV (ci := 12) (C := RX12) (T := TX12) (N := 55) hA hK hP hS hZ 0 (by decide) rfl rfl) rfl rfl hl.1 rfl (lv_room (Nat.le_of_ble_eq_true rfl)) dX12_sitsAs_70 ⟨Nat.le_refl _, Nat.le_refl _⟩) hA hS (fun r_31 f_28 L_29 Q_30 H locs hq hP hS => ?_)
  obtain ⟨⟨hI, hk_f_28, eL9, eQ9⟩, hq, p_32⟩ := hq
  rw [eL9, eQ9] at hP; clear eL9 eQ9
  have hF : sgK WkX12_sitsAs_7_f0_f7 f f_28 := sgK.tr hF hk_f_28 (by decide)
  obtain ⟨v_33, ev_33⟩ : ∃ z : Int32, z = f_28 0 48 := ⟨_, rfl⟩
  have q_34 : 0 ≤ v_33.toInt ∧ v_33.toInt ≤ 19 := by rw [ev_33]; exact hI 0 48
  have q_35 : (f_28 0 48).toInt = v_33.toInt := (congrArg Int32.toInt (show f_28 0 48 = v_33 from ev_33.symm))
  have q_36 : (f_28 0 48).toInt = v_33.toInt := (congrArg Int32.toInt (show f_28 0 48 = v_33 from ev_33.symm))
  have k_37 : (7 : Int32).toInt = 7 := by decide
  have k_38 : (2 : Int32).toInt = 2 := by decide
  refine lv_iadd hx hb dX12_sitsAs_73 ?_
  refine lv_topi (fun v_39 ev_39 => ?_)
  have q_40 : (f_28 0 48).toInt = v_33.toInt := (congrArg Int32.toInt (show f_28 0 48 = v_33 from ev_33.symm))
  have q_41 : (f_28 0 48).toInt = v_33.toInt := (congrArg Int32.toInt (show f_28 0 48 = v_33 from ev_33.symm))
  exact hret _ _ _ _ (v_39) f_28 L Q dX12_sitsAs_74 hP hS ⟨⟨hI, hF, rfl, rfl⟩, trivial, (by omega)⟩

abbrev WkX12_begins_11_f0 : List (Nat × Nat × Option Nat) := [(0, 0, some 48), (21, 21, none)]
set_option maxHeartbeats 4000000 in
set_option maxRecDepth 100000 in
theorem kX12_begins_11_f0 (l : Launch) (D : va_G) (ca : Nat → ClassId) (za h : Nat → Nat) (hh : sgH 26 h) (f : sg_F) (L : sg_L) (Q : sg_Q) (hI : sgI loM hiM f) (hf_0_48 : f 0 48 = 0) (p0 : 0 ≤ (f 0 48).toInt ∧ (f 0 48).toInt ≤ 0) (sz : Nat) : Met l yX12_begins gwX12_begins { frames := 0, cells := 0, slots := 0, locals := 0 } (sgP D vwCl (tyX ca) 26 h (eM ca h) zcM za f L Q sz [.ref (h 0), .int 11]) (sgQv D vwCl 26 h (eM ca h) sz (fun f1 L1 Q1 => ((sgI loM hiM f1 ∧ sgK WkX12_begins_11_f0 f f1 ∧ L1 = L ∧ Q1 = Q) ∧ (1 ≤ (f1 0 48).toInt ∧ (f1 0 48).toInt ≤ 1)))) 0 0 (sgA 26 h sz) := by
  refine sg_ofWv (cc := cX12_begins) (maxL := 2) RX12 (by decide) rfl rfl (Nat.le_of_ble_eq_true rfl) ?_
  intro p e s m below meth cd Qz ls hx hb hml hown hts hK hZ hP hS hl hret
  have hA := sgY.self (n := 26) (h := h) (sz := s.heap.size)
  have hl : lv_has ls 2 [(0, .ref (h 0)), (1, .int 11)] := hl
  obtain ⟨H, hH⟩ : ∃ z : Heap, z = s.heap := ⟨_, rfl⟩
  obtain ⟨locs, hlo⟩ : ∃ z : List Loc, z = [] := ⟨_, rfl⟩
  have hP : va_P D vwCl (sgw 26 h (eM ca h) f L Q) H := by rw [hH]; exact hP
  have hS : va_S (sgA 26 h s.heap.size) s.heap H locs := by rw [hH, hlo]; exact hS
  suffices hgo : W p l e ({ frames := 0, cells := 0, slots := 0, locals := 0 }) s m ([.ref (h 0), .int 11] : List Value).toArray below meth cd H locs 0 0 Qz (F0 m 0 ls []) by rw [hH, hlo] at hgo; exact hgo
  clear hH hlo
  have o_1 : (f 0 48).toInt = 0 := (congrArg Int32.toInt (show f 0 48 = 0 from hf_0_48)).trans (by decide)
  have hF : sgK WkX12_begins_11_f0 f f := sgK.rf
  have blk_19 : ∀ (fp_19 : sg_F) (H : Heap) (locs : List Loc) (ls : Array Slot), 0 ≤ (fp_19 0 48).toInt ∧ (fp_19 0 48).toInt ≤ 0 → sgI loM hiM fp_19 → sgK WkX12_begins_11_f0 f fp_19 → va_P D vwCl (sgw 26 h (eM ca h) fp_19 L Q) H → va_S (sgA 26 h s.heap.size) s.heap H locs → lv_has ls 2 [(0, .ref (h 0))] → W p l e ({ frames := 0, cells := 0, slots := 0, locals := 0 }) s m ([.ref (h 0), .int 11] : List Value).toArray below meth cd H locs 0 0 Qz (F0 m 19 ls []) := by
    intro fp_19 H locs ls hy0_19 hI hF hP hS hl
    obtain ⟨v_2, ev_2⟩ : ∃ z : Int32, z = fp_19 0 48 := ⟨_, rfl⟩
    have q_3 : 0 ≤ v_2.toInt ∧ v_2.toInt ≤ 19 := by rw [ev_2]; exact hI 0 48
    have q_4 : (fp_19 0 48).toInt = v_2.toInt := by rw [ev_2]
    refine lv_aload_n hx hb dX12_begins_19 rfl (lv_at hl 0 rfl) ?_
    refine lv_dup hx hb dX12_begins_20 rfl ?_
    refine sg_get (ci := 12) (v := .int v_2) (C := RX12) (T := TX12) (N := 55) hx hb hts (fun w h => List.mem_cons_of_mem _ (gx_12 w h)) hown hK hP 0 (by decide) rfl rfl 48 (by decide) (hts _ (List.mem_cons_of_mem _ mw_621)) (fun _ h9 => h9) (congrArg (fun z => some (Value.int z)) (show fp_19 0 48 = v_2 from ev_2.symm)) dX12_begins_21 ?_
    refine lv_iconst (v := 1) hx hb dX12_begins_24 (by decide) ?_
    refine lv_iadd hx hb dX12_begins_25 ?_
    refine lv_topi (fun v_5 ev_5 => ?_)
    have q_6 : v_5.toInt = v_2.toInt + 1 := by rw [ev_5]; have k1 : (1 : Int32).toInt = 1 := (by decide); exact (bn_addI (by omega) (by omega)).trans (by omega)
    refine sg_put (ci := 12) (x := v_5) (ty := .int) (C := RX12) (T := TX12) (N := 55) hx hb hts (fun w h => List.mem_cons_of_mem _ (gx_12 w h)) tyX12 tyX12_ok nmX12 hown hh hA hK hP hS 0 (by decide) rfl rfl 48 (by decide) (hts _ (List.mem_cons_of_mem _ mw_621)) (fun _ h9 => h9) rfl rfl (by decide +kernel) rfl rfl (Nat.le_of_ble_eq_true rfl) dX12_begins_26 (fun f_7 H locs ef_7 hP hS => ?_)
    have hI : sgI loM hiM f_7 := by rw [ef_7]; exact sgI.put hI 0 48 (show 0 ≤ (v_5 : Int32).toInt ∧ (v_5 : Int32).toInt ≤ 19 from by omega)
    have hF : sgK WkX12_begins_11_f0 f f_7 := sgK.put hF ef_7 (by rfl)
    have q_8 : (f_7 0 48).toInt = v_5.toInt := (congrArg Int32.toInt (show f_7 0 48 = v_5 from (by rw [ef_7, sg_up_s, sgu_s])))
    have q_9 : (f_7 0 48).toInt = v_5.toInt := (congrArg Int32.toInt (show f_7 0 48 = v_5 from (by rw [ef_7, sg_up_s, sgu_s])))
    exact hret _ _ _ _ f_7 L Q dX12_begins_29 hP hS ⟨⟨hI, hF, rfl, rfl⟩, (by omega)⟩
  refine lv_aload_n hx hb dX12_begins_0 rfl (lv_at hl 0 rfl) ?_
  refine sg_get (ci := 12) (v := .int 0) (C := RX12) (T := TX12) (N := 55) hx hb hts (fun w h => List.mem_cons_of_mem _ (gx_12 w h)) hown hK hP 0 (by decide) rfl rfl 48 (by decide) (hts _ (List.mem_cons_of_mem _ mw_621)) (fun _ h9 => h9) (congrArg (fun z => some (Value.int z)) (show f 0 48 = 0 from hf_0_48)) dX12_begins_1 ?_
  refine lv_bipush (v := 24) hx hb dX12_begins_4 (by decide) ?_
  refine lv_icmp_ge (tgt := 19) hx hb dX12_begins_6 (by decide) (fun c => absurd c (by decide)) (fun c => ?_)
  refine lv_aload_n hx hb dX12_begins_9 rfl (lv_at hl 0 rfl) ?_
  refine sg_get (ci := 12) (v := .ref (h 21)) (C := RX12) (T := TX12) (N := 55) hx hb hts (fun w h => List.mem_cons_of_mem _ (gx_12 w h)) hown hK hP 0 (by decide) rfl rfl 47 (by decide) (hts _ (List.mem_cons_of_mem _ mw_718)) (fun _ h9 => h9) rfl dX12_begins_10 ?_
  refine lv_aload_n hx hb dX12_begins_13 rfl (lv_at hl 0 rfl) ?_
  refine sg_get (ci := 12) (v := .int 0) (C := RX12) (T := TX12) (N := 55) hx hb hts (fun w h => List.mem_cons_of_mem _ (gx_12 w h)) hown hK hP 0 (by decide) rfl rfl 48 (by decide) (hts _ (List.mem_cons_of_mem _ mw_621)) (fun _ h9 => h9) (congrArg (fun z => some (Value.int z)) (show f 0 48 = 0 from hf_0_48)) dX12_begins_14 ?_
  refine lv_iload_n hx hb dX12_begins_17 rfl (lv_at hl 1 rfl) ?_
  refine sg_iast hx hb hh hA hK hP hS 21 (by decide) 0 (fun _ => rfl) rfl (i := 0) (x := 11) (vp_in_iff.mpr (by decide)) dX12_begins_18 (fun f_10 H locs ef_10 hP hS => ?_)
  have hI : sgI loM hiM f_10 := by rw [ef_10]; exact sgI.put hI 21 (Int32.toNatClampNeg 0) (show 0 ≤ (11 : Int32).toInt ∧ (11 : Int32).toInt ≤ 81 from by decide)
  have hF : sgK WkX12_begins_11_f0 f f_10 := sgK.put hF ef_10 (by rfl)
  exact blk_19 f_10 _ _ _ (by have zz0_48 : (f_10 0 48).toInt = 0 := (congrArg Int32.toInt (show f_10 0 48 = 0 from (by rw [ef_10, sg_up_n (by decide)]; exact hf_0_48))).trans (by decide); omega) hI hF hP hS (lv_sub hl [0] rfl)

abbrev WkX12_slipsAs_0_f0_f0 : List (Nat × Nat × Option Nat) := [(0, 0, some 48), (21, 21, none)]
set_option maxHeartbeats 4000000 in
set_option maxRecDepth 100000 in
theorem kX12_slipsAs_0_f0_f0 (l : Launch) (D : va_G) (ca : Nat → ClassId) (za h : Nat → Nat) (hh : sgH 26 h) (f : sg_F) (L : sg_L) (Q : sg_Q) (hI : sgI loM hiM f) (x1 : Int32) (hf_0_48 : f 0 48 = 0) (hf_0_49 : f 0 49 = 0) (p0 : 0 ≤ (f 0 48).toInt ∧ (f 0 48).toInt ≤ 0) (sz : Nat) : Met l yX12_slipsAs gwX12_slipsAs { frames := 1, cells := 0, slots := 0, locals := 21 } (sgP D vwCl (tyX ca) 26 h (eM ca h) zcM za f L Q sz [.ref (h 0), .int 0, .int x1]) (sgQi D vwCl 26 h (eM ca h) sz (fun r f1 L1 Q1 => ((sgI loM hiM f1 ∧ sgK WkX12_slipsAs_0_f0_f0 f f1 ∧ L1 = L ∧ Q1 = Q) ∧ True ∧ (1 ≤ (f1 0 48).toInt ∧ (f1 0 48).toInt ≤ 1)))) 0 0 (sgA 26 h sz) := by
  refine sg_ofWi (cc := cX12_slipsAs) (maxL := 4) RX12 (by decide) rfl rfl (Nat.le_of_ble_eq_true rfl) ?_
  intro p e s m below meth cd Qz ls hx hb hml hown hts hK hZ hP hS hl hret
  have hA := sgY.self (n := 26) (h := h) (sz := s.heap.size)
  have hl : lv_has ls 4 [(0, .ref (h 0)), (1, .int 0), (2, .int x1)] := hl
  obtain ⟨H, hH⟩ : ∃ z : Heap, z = s.heap := ⟨_, rfl⟩
  obtain ⟨locs, hlo⟩ : ∃ z : List Loc, z = [] := ⟨_, rfl⟩
  have hP : va_P D vwCl (sgw 26 h (eM ca h) f L Q) H := by rw [hH]; exact hP
  have hS : va_S (sgA 26 h s.heap.size) s.heap H locs := by rw [hH, hlo]; exact hS
  suffices hgo : W p l e ({ frames := 1, cells := 0, slots := 0, locals := 21 }) s m ([.ref (h 0), .int 0, .int x1] : List Value).toArray below meth cd H locs 0 0 Qz (F0 m 0 ls []) by rw [hH, hlo] at hgo; exact hgo
  clear hH hlo
  have o_1 : (f 0 48).toInt = 0 := (congrArg Int32.toInt (show f 0 48 = 0 from hf_0_48)).trans (by decide)
  have hF : sgK WkX12_slipsAs_0_f0_f0 f f := sgK.rf
  refine lv_iload_n hx hb dX12_slipsAs_0 rfl (lv_at hl 1 rfl) ?_
  refine lv_iconst (v := 3) hx hb dX12_slipsAs_1 (by decide) ?_
  refine lv_icmp_eq (tgt := 10) hx hb dX12_slipsAs_2 (by decide) (fun c => absurd c (by decide)) (fun c => ?_)
  refine lv_iload_n hx hb dX12_slipsAs_5 rfl (lv_at hl 1 rfl) ?_
  refine lv_iconst (v := 5) hx hb dX12_slipsAs_6 (by decide) ?_
  refine lv_icmp_ne (tgt := 25) hx hb dX12_slipsAs_7 (by decide) (fun c => ?_) (fun c => absurd c (by decide))
  refine lv_iload_n hx hb dX12_slipsAs_25 rfl (lv_at hl 1 rfl) ?_
  refine lv_iconst (v := 4) hx hb dX12_slipsAs_26 (by decide) ?_
  refine lv_icmp_eq (tgt := 36) hx hb dX12_slipsAs_27 (by decide) (fun c => absurd c (by decide)) (fun c => ?_)
  refine lv_iload_n hx hb dX12_slipsAs_30 rfl (lv_at hl 1 rfl) ?_
  refine lv_bipush (v := 7) hx hb dX12_slipsAs_31 (by decide) ?_
  refine lv_icmp_ne (tgt := 61) hx hb dX12_slipsAs_33 (by decide) (fun c => ?_) (fun c => absurd c (by decide))
  refine lv_aload_n hx hb dX12_slipsAs_61 rfl (lv_at hl 0 rfl) ?_
  refine lv_bipush (v := 11) hx hb dX12_slipsAs_62 (by decide) ?_
  have q_2 : (f 0 48).toInt = 0 := (congrArg Int32.toInt (show f 0 48 = 0 from hf_0_48)).trans (by decide)
  have q_3 : (f 0 48).toInt = 0 := (congrArg Int32.toInt (show f 0 48 = 0 from hf_0_48)).trans (by decide)
  refine sg_callv (va_runV (As := [.int 11]) (rest := []) ⟨hx, hb, hml, hown, hts⟩ (kX12_begins_11_f0 l D ca za h hh f L Q hI hf_0_48 (by have k0 : (11 : Int32).toInt = 11 := (by decide); omega) H.size) (cwV 1 hts (gw_V (fun _ h => List.mem_cons_of_mem _ h) mw_734 mw_735 mw_736 mw_619 mw_733) rfl rfl rfl (by decide +kernel) ⟨Nat.le_of_ble_eq_true rfl, Nat.le_of_ble_eq_true rfl⟩) (sg_preV (ci := 12) (C := RX12) (T := TX12) (N := 55) hA hK hP hS hZ 0 (by decide) rfl rfl) rfl rfl hl.1 rfl (lv_room (Nat.le_of_ble_eq_true rfl)) dX12_slipsAs_64 ⟨Nat.le_refl _, Nat.le_refl _⟩) hA hS (fun f_4 L_5 Q_6 H locs hq hP hS => ?_)
  obtain ⟨⟨hI, hk_f_4, eL9, eQ9⟩, p_7⟩ := hq
  rw [eL9, eQ9] at hP; clear eL9 eQ9
  have hF : sgK WkX12_slipsAs_0_f0_f0 f f_4 := sgK.tr hF hk_f_4 (by decide)
  obtain ⟨v_8, ev_8⟩ : ∃ z : Int32, z = f_4 0 48 := ⟨_, rfl⟩
  have q_9 : 0 ≤ v_8.toInt ∧ v_8.toInt ≤ 19 := by rw [ev_8]; exact hI 0 48
  have q_10 : (f_4 0 48).toInt = v_8.toInt := (congrArg Int32.toInt (show f_4 0 48 = v_8 from ev_8.symm))
  have q_11 : (f_4 0 48).toInt = v_8.toInt := (congrArg Int32.toInt (show f_4 0 48 = v_8 from ev_8.symm))
  refine lv_iload_n hx hb dX12_slipsAs_67 rfl (lv_at hl 2 rfl) ?_
  refine lv_aload_n hx hb dX12_slipsAs_68 rfl (lv_at hl 0 rfl) ?_
  refine sg_get (ci := 12) (v := .int (f_4 0 50)) (C := RX12) (T := TX12) (N := 55) hx hb hts (fun w h => List.mem_cons_of_mem _ (gx_12 w h)) hown hK hP 0 (by decide) rfl rfl 50 (by decide) (hts _ (List.mem_cons_of_mem _ mw_680)) (fun _ h9 => h9) rfl dX12_slipsAs_69 ?_
  refine lv_topi (fun v_12 ev_12 => ?_)
  have q_13 : 0 ≤ v_12.toInt ∧ v_12.toInt ≤ 49 := by rw [ev_12]; exact hI 0 50
  refine lv_ixor hx hb dX12_slipsAs_72 ?_
  refine lv_topi (fun v_14 ev_14 => ?_)
  have q_15 : (f_4 0 48).toInt = v_8.toInt := (congrArg Int32.toInt (show f_4 0 48 = v_8 from ev_8.symm))
  have q_16 : (f_4 0 48).toInt = v_8.toInt := (congrArg Int32.toInt (show f_4 0 48 = v_8 from ev_8.symm))
  exact hret _ _ _ _ (v_14) f_4 L Q dX12_slipsAs_73 hP hS ⟨⟨hI, hF, rfl, rfl⟩, trivial, (by omega)⟩

abbrev WkX12_slipsAs_1_f0_f1 : List (Nat × Nat × Option Nat) := [(0, 0, some 48), (21, 21, none)]
set_option maxHeartbeats 4000000 in
set_option maxRecDepth 100000 in
theorem kX12_slipsAs_1_f0_f1 (l : Launch) (D : va_G) (ca : Nat → ClassId) (za h : Nat → Nat) (hh : sgH 26 h) (f : sg_F) (L : sg_L) (Q : sg_Q) (hI : sgI loM hiM f) (x1 : Int32) (hf_0_48 : f 0 48 = 0) (hf_0_49 : f 0 49 = 1) (p0 : 0 ≤ (f 0 48).toInt ∧ (f 0 48).toInt ≤ 0) (sz : Nat) : Met l yX12_slipsAs gwX12_slipsAs { frames := 1, cells := 0, slots := 0, locals := 21 } (sgP D vwCl (tyX ca) 26 h (eM ca h) zcM za f L Q sz [.ref (h 0), .int 1, .int x1]) (sgQi D vwCl 26 h (eM ca h) sz (fun r f1 L1 Q1 => ((sgI loM hiM f1 ∧ sgK WkX12_slipsAs_1_f0_f1 f f1 ∧ L1 = L ∧ Q1 = Q) ∧ True ∧ (1 ≤ (f1 0 48).toInt ∧ (f1 0 48).toInt ≤ 1)))) 0 0 (sgA 26 h sz) := by
  refine sg_ofWi (cc := cX12_slipsAs) (maxL := 4) RX12 (by decide) rfl rfl (Nat.le_of_ble_eq_true rfl) ?_
  intro p e s m below meth cd Qz ls hx hb hml hown hts hK hZ hP hS hl hret
  have hA := sgY.self (n := 26) (h := h) (sz := s.heap.size)
  have hl : lv_has ls 4 [(0, .ref (h 0)), (1, .int 1), (2, .int x1)] := hl
  obtain ⟨H, hH⟩ : ∃ z : Heap, z = s.heap := ⟨_, rfl⟩
  obtain ⟨locs, hlo⟩ : ∃ z : List Loc, z = [] := ⟨_, rfl⟩
  have hP : va_P D vwCl (sgw 26 h (eM ca h) f L Q) H := by rw [hH]; exact hP
  have hS : va_S (sgA 26 h s.heap.size) s.heap H locs := by rw [hH, hlo]; exact hS
  suffices hgo : W p l e ({ frames := 1, cells := 0, slots := 0, locals := 21 }) s m ([.ref (h 0), .int 1, .int x1] : List Value).toArray below meth cd H locs 0 0 Qz (F0 m 0 ls []) by rw [hH, hlo] at hgo; exact hgo
  clear hH hlo
  have o_1 : (f 0 48).toInt = 0 := (congrArg Int32.toInt (show f 0 48 = 0 from hf_0_48)).trans (by decide)
  have hF : sgK WkX12_slipsAs_1_f0_f1 f f := sgK.rf
  refine lv_iload_n hx hb dX12_slipsAs_0 rfl (lv_at hl 1 rfl) ?_
  refine lv_iconst (v := 3) hx hb dX12_slipsAs_1 (by decide) ?_
  refine lv_icmp_eq (tgt := 10) hx hb dX12_slipsAs_2 (by decide) (fun c => absurd c (by decide)) (fun c => ?_)
  refine lv_iload_n hx hb dX12_slipsAs_5 rfl (lv_at hl 1 rfl) ?_
  refine lv_iconst (v := 5) hx hb dX12_slipsAs_6 (by decide) ?_
  refine lv_icmp_ne (tgt := 25) hx hb dX12_slipsAs_7 (by decide) (fun c => ?_) (fun c => absurd c (by decide))
  refine lv_iload_n hx hb dX12_slipsAs_25 rfl (lv_at hl 1 rfl) ?_
  refine lv_iconst (v := 4) hx hb dX12_slipsAs_26 (by decide) ?_
  refine lv_icmp_eq (tgt := 36) hx hb dX12_slipsAs_27 (by decide) (fun c => absurd c (by decide)) (fun c => ?_)
  refine lv_iload_n hx hb dX12_slipsAs_30 rfl (lv_at hl 1 rfl) ?_
  refine lv_bipush (v := 7) hx hb dX12_slipsAs_31 (by decide) ?_
  refine lv_icmp_ne (tgt := 61) hx hb dX12_slipsAs_33 (by decide) (fun c => ?_) (fun c => absurd c (by decide))
  refine lv_aload_n hx hb dX12_slipsAs_61 rfl (lv_at hl 0 rfl) ?_
  refine lv_bipush (v := 11) hx hb dX12_slipsAs_62 (by decide) ?_
  have q_2 : (f 0 48).toInt = 0 := (congrArg Int32.toInt (show f 0 48 = 0 from hf_0_48)).trans (by decide)
  have q_3 : (f 0 48).toInt = 0 := (congrArg Int32.toInt (show f 0 48 = 0 from hf_0_48)).trans (by decide)
  refine sg_callv (va_runV (As := [.int 11]) (rest := []) ⟨hx, hb, hml, hown, hts⟩ (kX12_begins_11_f0 l D ca za h hh f L Q hI hf_0_48 (by have k0 : (11 : Int32).toInt = 11 := (by decide); omega) H.size) (cwV 1 hts (gw_V (fun _ h => List.mem_cons_of_mem _ h) mw_734 mw_735 mw_736 mw_619 mw_733) rfl rfl rfl (by decide +kernel) ⟨Nat.le_of_ble_eq_true rfl, Nat.le_of_ble_eq_true rfl⟩) (sg_preV (ci := 12) (C := RX12) (T := TX12) (N := 55) hA hK hP hS hZ 0 (by decide) rfl rfl) rfl rfl hl.1 rfl (lv_room (Nat.le_of_ble_eq_true rfl)) dX12_slipsAs_64 ⟨Nat.le_refl _, Nat.le_refl _⟩) hA hS (fun f_4 L_5 Q_6 H locs hq hP hS => ?_)
  obtain ⟨⟨hI, hk_f_4, eL9, eQ9⟩, p_7⟩ := hq
  rw [eL9, eQ9] at hP; clear eL9 eQ9
  have hF : sgK WkX12_slipsAs_1_f0_f1 f f_4 := sgK.tr hF hk_f_4 (by decide)
  obtain ⟨v_8, ev_8⟩ : ∃ z : Int32, z = f_4 0 48 := ⟨_, rfl⟩
  have q_9 : 0 ≤ v_8.toInt ∧ v_8.toInt ≤ 19 := by rw [ev_8]; exact hI 0 48
  have q_10 : (f_4 0 48).toInt = v_8.toInt := (congrArg Int32.toInt (show f_4 0 48 = v_8 from ev_8.symm))
  have q_11 : (f_4 0 48).toInt = v_8.toInt := (congrArg Int32.toInt (show f_4 0 48 = v_8 from ev_8.symm))
  refine lv_iload_n hx hb dX12_slipsAs_67 rfl (lv_at hl 2 rfl) ?_
  refine lv_aload_n hx hb dX12_slipsAs_68 rfl (lv_at hl 0 rfl) ?_
  refine sg_get (ci := 12) (v := .int (f_4 0 50)) (C := RX12) (T := TX12) (N := 55) hx hb hts (fun w h => List.mem_cons_of_mem _ (gx_12 w h)) hown hK hP 0 (by decide) rfl rfl 50 (by decide) (hts _ (List.mem_cons_of_mem _ mw_680)) (fun _ h9 => h9) rfl dX12_slipsAs_69 ?_
  refine lv_topi (fun v_12 ev_12 => ?_)
  have q_13 : 0 ≤ v_12.toInt ∧ v_12.toInt ≤ 49 := by rw [ev_12]; exact hI 0 50
  refine lv_ixor hx hb dX12_slipsAs_72 ?_
  refine lv_topi (fun v_14 ev_14 => ?_)
  have q_15 : (f_4 0 48).toInt = v_8.toInt := (congrArg Int32.toInt (show f_4 0 48 = v_8 from ev_8.symm))
  have q_16 : (f_4 0 48).toInt = v_8.toInt := (congrArg Int32.toInt (show f_4 0 48 = v_8 from ev_8.symm))
  exact hret _ _ _ _ (v_14) f_4 L Q dX12_slipsAs_73 hP hS ⟨⟨hI, hF, rfl, rfl⟩, trivial, (by omega)⟩

abbrev WkX12_slipsAs_2_f0_f2 : List (Nat × Nat × Option Nat) := [(0, 0, some 48), (21, 21, none)]
set_option maxHeartbeats 4000000 in
set_option maxRecDepth 100000 in
theorem kX12_slipsAs_2_f0_f2 (l : Launch) (D : va_G) (ca : Nat → ClassId) (za h : Nat → Nat) (hh : sgH 26 h) (f : sg_F) (L : sg_L) (Q : sg_Q) (hI : sgI loM hiM f) (x1 : Int32) (hf_0_48 : f 0 48 = 0) (hf_0_49 : f 0 49 = 2) (p0 : 0 ≤ (f 0 48).toInt ∧ (f 0 48).toInt ≤ 0) (sz : Nat) : Met l yX12_slipsAs gwX12_slipsAs { frames := 1, cells := 0, slots := 0, locals := 21 } (sgP D vwCl (tyX ca) 26 h (eM ca h) zcM za f L Q sz [.ref (h 0), .int 2, .int x1]) (sgQi D vwCl 26 h (eM ca h) sz (fun r f1 L1 Q1 => ((sgI loM hiM f1 ∧ sgK WkX12_slipsAs_2_f0_f2 f f1 ∧ L1 = L ∧ Q1 = Q) ∧ True ∧ (1 ≤ (f1 0 48).toInt ∧ (f1 0 48).toInt ≤ 1)))) 0 0 (sgA 26 h sz) := by
  refine sg_ofWi (cc := cX12_slipsAs) (maxL := 4) RX12 (by decide) rfl rfl (Nat.le_of_ble_eq_true rfl) ?_
  intro p e s m below meth cd Qz ls hx hb hml hown hts hK hZ hP hS hl hret
  have hA := sgY.self (n := 26) (h := h) (sz := s.heap.size)
  have hl : lv_has ls 4 [(0, .ref (h 0)), (1, .int 2), (2, .int x1)] := hl
  obtain ⟨H, hH⟩ : ∃ z : Heap, z = s.heap := ⟨_, rfl⟩
  obtain ⟨locs, hlo⟩ : ∃ z : List Loc, z = [] := ⟨_, rfl⟩
  have hP : va_P D vwCl (sgw 26 h (eM ca h) f L Q) H := by rw [hH]; exact hP
  have hS : va_S (sgA 26 h s.heap.size) s.heap H locs := by rw [hH, hlo]; exact hS
  suffices hgo : W p l e ({ frames := 1, cells := 0, slots := 0, locals := 21 }) s m ([.ref (h 0), .int 2, .int x1] : List Value).toArray below meth cd H locs 0 0 Qz (F0 m 0 ls []) by rw [hH, hlo] at hgo; exact hgo
  clear hH hlo
  have o_1 : (f 0 48).toInt = 0 := (congrArg Int32.toInt (show f 0 48 = 0 from hf_0_48)).trans (by decide)
  have hF : sgK WkX12_slipsAs_2_f0_f2 f f := sgK.rf
  refine lv_iload_n hx hb dX12_slipsAs_0 rfl (lv_at hl 1 rfl) ?_
  refine lv_iconst (v := 3) hx hb dX12_slipsAs_1 (by decide) ?_
  refine lv_icmp_eq (tgt := 10) hx hb dX12_slipsAs_2 (by decide) (fun c => absurd c (by decide)) (fun c => ?_)
  refine lv_iload_n hx hb dX12_slipsAs_5 rfl (lv_at hl 1 rfl) ?_
  refine lv_iconst (v := 5) hx hb dX12_slipsAs_6 (by decide) ?_
  refine lv_icmp_ne (tgt := 25) hx hb dX12_slipsAs_7 (by decide) (fun c => ?_) (fun c => absurd c (by decide))
  refine lv_iload_n hx hb dX12_slipsAs_25 rfl (lv_at hl 1 rfl) ?_
  refine lv_iconst (v := 4) hx hb dX12_slipsAs_26 (by decide) ?_
  refine lv_icmp_eq (tgt := 36) hx hb dX12_slipsAs_27 (by decide) (fun c => absurd c (by decide)) (fun c => ?_)
  refine lv_iload_n hx hb dX12_slipsAs_30 rfl (lv_at hl 1 rfl) ?_
  refine lv_bipush (v := 7) hx hb dX12_slipsAs_31 (by decide) ?_
  refine lv_icmp_ne (tgt := 61) hx hb dX12_slipsAs_33 (by decide) (fun c => ?_) (fun c => absurd c (by decide))
  refine lv_aload_n hx hb dX12_slipsAs_61 rfl (lv_at hl 0 rfl) ?_
  refine lv_bipush (v := 11) hx hb dX12_slipsAs_62 (by decide) ?_
  have q_2 : (f 0 48).toInt = 0 := (congrArg Int32.toInt (show f 0 48 = 0 from hf_0_48)).trans (by decide)
  have q_3 : (f 0 48).toInt = 0 := (congrArg Int32.toInt (show f 0 48 = 0 from hf_0_48)).trans (by decide)
  refine sg_callv (va_runV (As := [.int 11]) (rest := []) ⟨hx, hb, hml, hown, hts⟩ (kX12_begins_11_f0 l D ca za h hh f L Q hI hf_0_48 (by have k0 : (11 : Int32).toInt = 11 := (by decide); omega) H.size) (cwV 1 hts (gw_V (fun _ h => List.mem_cons_of_mem _ h) mw_734 mw_735 mw_736 mw_619 mw_733) rfl rfl rfl (by decide +kernel) ⟨Nat.le_of_ble_eq_true rfl, Nat.le_of_ble_eq_true rfl⟩) (sg_preV (ci := 12) (C := RX12) (T := TX12) (N := 55) hA hK hP hS hZ 0 (by decide) rfl rfl) rfl rfl hl.1 rfl (lv_room (Nat.le_of_ble_eq_true rfl)) dX12_slipsAs_64 ⟨Nat.le_refl _, Nat.le_refl _⟩) hA hS (fun f_4 L_5 Q_6 H locs hq hP hS => ?_)
  obtain ⟨⟨hI, hk_f_4, eL9, eQ9⟩, p_7⟩ := hq
  rw [eL9, eQ9] at hP; clear eL9 eQ9
  have hF : sgK WkX12_slipsAs_2_f0_f2 f f_4 := sgK.tr hF hk_f_4 (by decide)
  obtain ⟨v_8, ev_8⟩ : ∃ z : Int32, z = f_4 0 48 := ⟨_, rfl⟩
  have q_9 : 0 ≤ v_8.toInt ∧ v_8.toInt ≤ 19 := by rw [ev_8]; exact hI 0 48
  have q_10 : (f_4 0 48).toInt = v_8.toInt := (congrArg Int32.toInt (show f_4 0 48 = v_8 from ev_8.symm))
  have q_11 : (f_4 0 48).toInt = v_8.toInt := (congrArg Int32.toInt (show f_4 0 48 = v_8 from ev_8.symm))
  refine lv_iload_n hx hb dX12_slipsAs_67 rfl (lv_at hl 2 rfl) ?_
  refine lv_aload_n hx hb dX12_slipsAs_68 rfl (lv_at hl 0 rfl) ?_
  refine sg_get (ci := 12) (v := .int (f_4 0 50)) (C := RX12) (T := TX12) (N := 55) hx hb hts (fun w h => List.mem_cons_of_mem _ (gx_12 w h)) hown hK hP 0 (by decide) rfl rfl 50 (by decide) (hts _ (List.mem_cons_of_mem _ mw_680)) (fun _ h9 => h9) rfl dX12_slipsAs_69 ?_
  refine lv_topi (fun v_12 ev_12 => ?_)
  have q_13 : 0 ≤ v_12.toInt ∧ v_12.toInt ≤ 49 := by rw [ev_12]; exact hI 0 50
  refine lv_ixor hx hb dX12_slipsAs_72 ?_
  refine lv_topi (fun v_14 ev_14 => ?_)
  have q_15 : (f_4 0 48).toInt = v_8.toInt := (congrArg Int32.toInt (show f_4 0 48 = v_8 from ev_8.symm))
  have q_16 : (f_4 0 48).toInt = v_8.toInt := (congrArg Int32.toInt (show f_4 0 48 = v_8 from ev_8.symm))
  exact hret _ _ _ _ (v_14) f_4 L Q dX12_slipsAs_73 hP hS ⟨⟨hI, hF, rfl, rfl⟩, trivial, (by omega)⟩

abbrev WkX12_begins_40_f0 : List (Nat × Nat × Option Nat) := [(0, 0, some 48), (21, 21, none)]
set_option maxHeartbeats 4000000 in
set_option maxRecDepth 100000 in
theorem kX12_begins_40_f0 (l : Launch) (D : va_G) (ca : Nat → ClassId) (za h : Nat → Nat) (hh : sgH 26 h) (f : sg_F) (L : sg_L) (Q : sg_Q) (hI : sgI loM hiM f) (hf_0_48 : f 0 48 = 0) (p0 : 0 ≤ (f 0 48).toInt ∧ (f 0 48).toInt ≤ 0) (sz : Nat) : Met l yX12_begins gwX12_begins { frames := 0, cells := 0, slots := 0, locals := 0 } (sgP D vwCl (tyX ca) 26 h (eM ca h) zcM za f L Q sz [.ref (h 0), .int 40]) (sgQv D vwCl 26 h (eM ca h) sz (fun f1 L1 Q1 => ((sgI loM hiM f1 ∧ sgK WkX12_begins_40_f0 f f1 ∧ L1 = L ∧ Q1 = Q) ∧ (1 ≤ (f1 0 48).toInt ∧ (f1 0 48).toInt ≤ 1)))) 0 0 (sgA 26 h sz) := by
  refine sg_ofWv (cc := cX12_begins) (maxL := 2) RX12 (by decide) rfl rfl (Nat.le_of_ble_eq_true rfl) ?_
  intro p e s m below meth cd Qz ls hx hb hml hown hts hK hZ hP hS hl hret
  have hA := sgY.self (n := 26) (h := h) (sz := s.heap.size)
  have hl : lv_has ls 2 [(0, .ref (h 0)), (1, .int 40)] := hl
  obtain ⟨H, hH⟩ : ∃ z : Heap, z = s.heap := ⟨_, rfl⟩
  obtain ⟨locs, hlo⟩ : ∃ z : List Loc, z = [] := ⟨_, rfl⟩
  have hP : va_P D vwCl (sgw 26 h (eM ca h) f L Q) H := by rw [hH]; exact hP
  have hS : va_S (sgA 26 h s.heap.size) s.heap H locs := by rw [hH, hlo]; exact hS
  suffices hgo : W p l e ({ frames := 0, cells := 0, slots := 0, locals := 0 }) s m ([.ref (h 0), .int 40] : List Value).toArray below meth cd H locs 0 0 Qz (F0 m 0 ls []) by rw [hH, hlo] at hgo; exact hgo
  clear hH hlo
  have o_1 : (f 0 48).toInt = 0 := (congrArg Int32.toInt (show f 0 48 = 0 from hf_0_48)).trans (by decide)
  have hF : sgK WkX12_begins_40_f0 f f := sgK.rf
  have blk_19 : ∀ (fp_19 : sg_F) (H : Heap) (locs : List Loc) (ls : Array Slot), 0 ≤ (fp_19 0 48).toInt ∧ (fp_19 0 48).toInt ≤ 0 → sgI loM hiM fp_19 → sgK WkX12_begins_40_f0 f fp_19 → va_P D vwCl (sgw 26 h (eM ca h) fp_19 L Q) H → va_S (sgA 26 h s.heap.size) s.heap H locs → lv_has ls 2 [(0, .ref (h 0))] → W p l e ({ frames := 0, cells := 0, slots := 0, locals := 0 }) s m ([.ref (h 0), .int 40] : List Value).toArray below meth cd H locs 0 0 Qz (F0 m 19 ls []) := by
    intro fp_19 H locs ls hy0_19 hI hF hP hS hl
    obtain ⟨v_2, ev_2⟩ : ∃ z : Int32, z = fp_19 0 48 := ⟨_, rfl⟩
    have q_3 : 0 ≤ v_2.toInt ∧ v_2.toInt ≤ 19 := by rw [ev_2]; exact hI 0 48
    have q_4 : (fp_19 0 48).toInt = v_2.toInt := by rw [ev_2]
    refine lv_aload_n hx hb dX12_begins_19 rfl (lv_at hl 0 rfl) ?_
    refine lv_dup hx hb dX12_begins_20 rfl ?_
    refine sg_get (ci := 12) (v := .int v_2) (C := RX12) (T := TX12) (N := 55) hx hb hts (fun w h => List.mem_cons_of_mem _ (gx_12 w h)) hown hK hP 0 (by decide) rfl rfl 48 (by decide) (hts _ (List.mem_cons_of_mem _ mw_621)) (fun _ h9 => h9) (congrArg (fun z => some (Value.int z)) (show fp_19 0 48 = v_2 from ev_2.symm)) dX12_begins_21 ?_
    refine lv_iconst (v := 1) hx hb dX12_begins_24 (by decide) ?_
    refine lv_iadd hx hb dX12_begins_25 ?_
    refine lv_topi (fun v_5 ev_5 => ?_)
    have q_6 : v_5.toInt = v_2.toInt + 1 := by rw [ev_5]; have k1 : (1 : Int32).toInt = 1 := (by decide); exact (bn_addI (by omega) (by omega)).trans (by omega)
    refine sg_put (ci := 12) (x := v_5) (ty := .int) (C := RX12) (T := TX12) (N := 55) hx hb hts (fun w h => List.mem_cons_of_mem _ (gx_12 w h)) tyX12 tyX12_ok nmX12 hown hh hA hK hP hS 0 (by decide) rfl rfl 48 (by decide) (hts _ (List.mem_cons_of_mem _ mw_621)) (fun _ h9 => h9) rfl rfl (by decide +kernel) rfl rfl (Nat.le_of_ble_eq_true rfl) dX12_begins_26 (fun f_7 H locs ef_7 hP hS => ?_)
    have hI : sgI loM hiM f_7 := by rw [ef_7]; exact sgI.put hI 0 48 (show 0 ≤ (v_5 : Int32).toInt ∧ (v_5 : Int32).toInt ≤ 19 from by omega)
    have hF : sgK WkX12_begins_40_f0 f f_7 := sgK.put hF ef_7 (by rfl)
    have q_8 : (f_7 0 48).toInt = v_5.toInt := (congrArg Int32.toInt (show f_7 0 48 = v_5 from (by rw [ef_7, sg_up_s, sgu_s])))
    have q_9 : (f_7 0 48).toInt = v_5.toInt := (congrArg Int32.toInt (show f_7 0 48 = v_5 from (by rw [ef_7, sg_up_s, sgu_s])))
    exact hret _ _ _ _ f_7 L Q dX12_begins_29 hP hS ⟨⟨hI, hF, rfl, rfl⟩, (by omega)⟩
  refine lv_aload_n hx hb dX12_begins_0 rfl (lv_at hl 0 rfl) ?_
  refine sg_get (ci := 12) (v := .int 0) (C := RX12) (T := TX12) (N := 55) hx hb hts (fun w h => List.mem_cons_of_mem _ (gx_12 w h)) hown hK hP 0 (by decide) rfl rfl 48 (by decide) (hts _ (List.mem_cons_of_mem _ mw_621)) (fun _ h9 => h9) (congrArg (fun z => some (Value.int z)) (show f 0 48 = 0 from hf_0_48)) dX12_begins_1 ?_
  refine lv_bipush (v := 24) hx hb dX12_begins_4 (by decide) ?_
  refine lv_icmp_ge (tgt := 19) hx hb dX12_begins_6 (by decide) (fun c => absurd c (by decide)) (fun c => ?_)
  refine lv_aload_n hx hb dX12_begins_9 rfl (lv_at hl 0 rfl) ?_
  refine sg_get (ci := 12) (v := .ref (h 21)) (C := RX12) (T := TX12) (N := 55) hx hb hts (fun w h => List.mem_cons_of_mem _ (gx_12 w h)) hown hK hP 0 (by decide) rfl rfl 47 (by decide) (hts _ (List.mem_cons_of_mem _ mw_718)) (fun _ h9 => h9) rfl dX12_begins_10 ?_
  refine lv_aload_n hx hb dX12_begins_13 rfl (lv_at hl 0 rfl) ?_
  refine sg_get (ci := 12) (v := .int 0) (C := RX12) (T := TX12) (N := 55) hx hb hts (fun w h => List.mem_cons_of_mem _ (gx_12 w h)) hown hK hP 0 (by decide) rfl rfl 48 (by decide) (hts _ (List.mem_cons_of_mem _ mw_621)) (fun _ h9 => h9) (congrArg (fun z => some (Value.int z)) (show f 0 48 = 0 from hf_0_48)) dX12_begins_14 ?_
  refine lv_iload_n hx hb dX12_begins_17 rfl (lv_at hl 1 rfl) ?_
  refine sg_iast hx hb hh hA hK hP hS 21 (by decide) 0 (fun _ => rfl) rfl (i := 0) (x := 40) (vp_in_iff.mpr (by decide)) dX12_begins_18 (fun f_10 H locs ef_10 hP hS => ?_)
  have hI : sgI loM hiM f_10 := by rw [ef_10]; exact sgI.put hI 21 (Int32.toNatClampNeg 0) (show 0 ≤ (40 : Int32).toInt ∧ (40 : Int32).toInt ≤ 81 from by decide)
  have hF : sgK WkX12_begins_40_f0 f f_10 := sgK.put hF ef_10 (by rfl)
  exact blk_19 f_10 _ _ _ (by have zz0_48 : (f_10 0 48).toInt = 0 := (congrArg Int32.toInt (show f_10 0 48 = 0 from (by rw [ef_10, sg_up_n (by decide)]; exact hf_0_48))).trans (by decide); omega) hI hF hP hS (lv_sub hl [0] rfl)

abbrev WkX12_begins_11_f1 : List (Nat × Nat × Option Nat) := [(0, 0, some 48), (21, 21, none)]
set_option maxHeartbeats 4000000 in
set_option maxRecDepth 100000 in
theorem kX12_begins_11_f1 (l : Launch) (D : va_G) (ca : Nat → ClassId) (za h : Nat → Nat) (hh : sgH 26 h) (f : sg_F) (L : sg_L) (Q : sg_Q) (hI : sgI loM hiM f) (hf_0_48 : f 0 48 = 1) (p0 : 1 ≤ (f 0 48).toInt ∧ (f 0 48).toInt ≤ 1) (sz : Nat) : Met l yX12_begins gwX12_begins { frames := 0, cells := 0, slots := 0, locals := 0 } (sgP D vwCl (tyX ca) 26 h (eM ca h) zcM za f L Q sz [.ref (h 0), .int 11]) (sgQv D vwCl 26 h (eM ca h) sz (fun f1 L1 Q1 => ((sgI loM hiM f1 ∧ sgK WkX12_begins_11_f1 f f1 ∧ L1 = L ∧ Q1 = Q) ∧ (2 ≤ (f1 0 48).toInt ∧ (f1 0 48).toInt ≤ 2)))) 0 0 (sgA 26 h sz) := by
  refine sg_ofWv (cc := cX12_begins) (maxL := 2) RX12 (by decide) rfl rfl (Nat.le_of_ble_eq_true rfl) ?_
  intro p e s m below meth cd Qz ls hx hb hml hown hts hK hZ hP hS hl hret
  have hA := sgY.self (n := 26) (h := h) (sz := s.heap.size)
  have hl : lv_has ls 2 [(0, .ref (h 0)), (1, .int 11)] := hl
  obtain ⟨H, hH⟩ : ∃ z : Heap, z = s.heap := ⟨_, rfl⟩
  obtain ⟨locs, hlo⟩ : ∃ z : List Loc, z = [] := ⟨_, rfl⟩
  have hP : va_P D vwCl (sgw 26 h (eM ca h) f L Q) H := by rw [hH]; exact hP
  have hS : va_S (sgA 26 h s.heap.size) s.heap H locs := by rw [hH, hlo]; exact hS
  suffices hgo : W p l e ({ frames := 0, cells := 0, slots := 0, locals := 0 }) s m ([.ref (h 0), .int 11] : List Value).toArray below meth cd H locs 0 0 Qz (F0 m 0 ls []) by rw [hH, hlo] at hgo; exact hgo
  clear hH hlo
  have o_1 : (f 0 48).toInt = 1 := (congrArg Int32.toInt (show f 0 48 = 1 from hf_0_48)).trans (by decide)
  have hF : sgK WkX12_begins_11_f1 f f := sgK.rf
  have blk_19 : ∀ (fp_19 : sg_F) (H : Heap) (locs : List Loc) (ls : Array Slot), 1 ≤ (fp_19 0 48).toInt ∧ (fp_19 0 48).toInt ≤ 1 → sgI loM hiM fp_19 → sgK WkX12_begins_11_f1 f fp_19 → va_P D vwCl (sgw 26 h (eM ca h) fp_19 L Q) H → va_S (sgA 26 h s.heap.size) s.heap H locs → lv_has ls 2 [(0, .ref (h 0))] → W p l e ({ frames := 0, cells := 0, slots := 0, locals := 0 }) s m ([.ref (h 0), .int 11] : List Value).toArray below meth cd H locs 0 0 Qz (F0 m 19 ls []) := by
    intro fp_19 H locs ls hy0_19 hI hF hP hS hl
    obtain ⟨v_2, ev_2⟩ : ∃ z : Int32, z = fp_19 0 48 := ⟨_, rfl⟩
    have q_3 : 0 ≤ v_2.toInt ∧ v_2.toInt ≤ 19 := by rw [ev_2]; exact hI 0 48
    have q_4 : (fp_19 0 48).toInt = v_2.toInt := by rw [ev_2]
    refine lv_aload_n hx hb dX12_begins_19 rfl (lv_at hl 0 rfl) ?_
    refine lv_dup hx hb dX12_begins_20 rfl ?_
    refine sg_get (ci := 12) (v := .int v_2) (C := RX12) (T := TX12) (N := 55) hx hb hts (fun w h => List.mem_cons_of_mem _ (gx_12 w h)) hown hK hP 0 (by decide) rfl rfl 48 (by decide) (hts _ (List.mem_cons_of_mem _ mw_621)) (fun _ h9 => h9) (congrArg (fun z => some (Value.int z)) (show fp_19 0 48 = v_2 from ev_2.symm)) dX12_begins_21 ?_
    refine lv_iconst (v := 1) hx hb dX12_begins_24 (by decide) ?_
    refine lv_iadd hx hb dX12_begins_25 ?_
    refine lv_topi (fun v_5 ev_5 => ?_)
    have q_6 : v_5.toInt = v_2.toInt + 1 := by rw [ev_5]; have k1 : (1 : Int32).toInt = 1 := (by decide); exact (bn_addI (by omega) (by omega)).trans (by omega)
    refine sg_put (ci := 12) (x := v_5) (ty := .int) (C := RX12) (T := TX12) (N := 55) hx hb hts (fun w h => List.mem_cons_of_mem _ (gx_12 w h)) tyX12 tyX12_ok nmX12 hown hh hA hK hP hS 0 (by decide) rfl rfl 48 (by decide) (hts _ (List.mem_cons_of_mem _ mw_621)) (fun _ h9 => h9) rfl rfl (by decide +kernel) rfl rfl (Nat.le_of_ble_eq_true rfl) dX12_begins_26 (fun f_7 H locs ef_7 hP hS => ?_)
    have hI : sgI loM hiM f_7 := by rw [ef_7]; exact sgI.put hI 0 48 (show 0 ≤ (v_5 : Int32).toInt ∧ (v_5 : Int32).toInt ≤ 19 from by omega)
    have hF : sgK WkX12_begins_11_f1 f f_7 := sgK.put hF ef_7 (by rfl)
    have q_8 : (f_7 0 48).toInt = v_5.toInt := (congrArg Int32.toInt (show f_7 0 48 = v_5 from (by rw [ef_7, sg_up_s, sgu_s])))
    have q_9 : (f_7 0 48).toInt = v_5.toInt := (congrArg Int32.toInt (show f_7 0 48 = v_5 from (by rw [ef_7, sg_up_s, sgu_s])))
    exact hret _ _ _ _ f_7 L Q dX12_begins_29 hP hS ⟨⟨hI, hF, rfl, rfl⟩, (by omega)⟩
  refine lv_aload_n hx hb dX12_begins_0 rfl (lv_at hl 0 rfl) ?_
  refine sg_get (ci := 12) (v := .int 1) (C := RX12) (T := TX12) (N := 55) hx hb hts (fun w h => List.mem_cons_of_mem _ (gx_12 w h)) hown hK hP 0 (by decide) rfl rfl 48 (by decide) (hts _ (List.mem_cons_of_mem _ mw_621)) (fun _ h9 => h9) (congrArg (fun z => some (Value.int z)) (show f 0 48 = 1 from hf_0_48)) dX12_begins_1 ?_
  refine lv_bipush (v := 24) hx hb dX12_begins_4 (by decide) ?_
  refine lv_icmp_ge (tgt := 19) hx hb dX12_begins_6 (by decide) (fun c => absurd c (by decide)) (fun c => ?_)
  refine lv_aload_n hx hb dX12_begins_9 rfl (lv_at hl 0 rfl) ?_
  refine sg_get (ci := 12) (v := .ref (h 21)) (C := RX12) (T := TX12) (N := 55) hx hb hts (fun w h => List.mem_cons_of_mem _ (gx_12 w h)) hown hK hP 0 (by decide) rfl rfl 47 (by decide) (hts _ (List.mem_cons_of_mem _ mw_718)) (fun _ h9 => h9) rfl dX12_begins_10 ?_
  refine lv_aload_n hx hb dX12_begins_13 rfl (lv_at hl 0 rfl) ?_
  refine sg_get (ci := 12) (v := .int 1) (C := RX12) (T := TX12) (N := 55) hx hb hts (fun w h => List.mem_cons_of_mem _ (gx_12 w h)) hown hK hP 0 (by decide) rfl rfl 48 (by decide) (hts _ (List.mem_cons_of_mem _ mw_621)) (fun _ h9 => h9) (congrArg (fun z => some (Value.int z)) (show f 0 48 = 1 from hf_0_48)) dX12_begins_14 ?_
  refine lv_iload_n hx hb dX12_begins_17 rfl (lv_at hl 1 rfl) ?_
  refine sg_iast hx hb hh hA hK hP hS 21 (by decide) 0 (fun _ => rfl) rfl (i := 1) (x := 11) (vp_in_iff.mpr (by decide)) dX12_begins_18 (fun f_10 H locs ef_10 hP hS => ?_)
  have hI : sgI loM hiM f_10 := by rw [ef_10]; exact sgI.put hI 21 (Int32.toNatClampNeg 1) (show 0 ≤ (11 : Int32).toInt ∧ (11 : Int32).toInt ≤ 81 from by decide)
  have hF : sgK WkX12_begins_11_f1 f f_10 := sgK.put hF ef_10 (by rfl)
  exact blk_19 f_10 _ _ _ (by have zz0_48 : (f_10 0 48).toInt = 1 := (congrArg Int32.toInt (show f_10 0 48 = 1 from (by rw [ef_10, sg_up_n (by decide)]; exact hf_0_48))).trans (by decide); omega) hI hF hP hS (lv_sub hl [0] rfl)

abbrev WkX12_slipsAs_2_f1_f3 : List (Nat × Nat × Option Nat) := [(0, 0, some 48), (21, 21, none)]
set_option maxHeartbeats 4000000 in
set_option maxRecDepth 100000 in
theorem kX12_slipsAs_2_f1_f3 (l : Launch) (D : va_G) (ca : Nat → ClassId) (za h : Nat → Nat) (hh : sgH 26 h) (f : sg_F) (L : sg_L) (Q : sg_Q) (hI : sgI loM hiM f) (x1 : Int32) (hf_0_48 : f 0 48 = 1) (hf_0_49 : f 0 49 = 3) (p0 : 1 ≤ (f 0 48).toInt ∧ (f 0 48).toInt ≤ 1) (sz : Nat) : Met l yX12_slipsAs gwX12_slipsAs { frames := 1, cells := 0, slots := 0, locals := 21 } (sgP D vwCl (tyX ca) 26 h (eM ca h) zcM za f L Q sz [.ref (h 0), .int 2, .int x1]) (sgQi D vwCl 26 h (eM ca h) sz (fun r f1 L1 Q1 => ((sgI loM hiM f1 ∧ sgK WkX12_slipsAs_2_f1_f3 f f1 ∧ L1 = L ∧ Q1 = Q) ∧ True ∧ (2 ≤ (f1 0 48).toInt ∧ (f1 0 48).toInt ≤ 2)))) 0 0 (sgA 26 h sz) := by
  refine sg_ofWi (cc := cX12_slipsAs) (maxL := 4) RX12 (by decide) rfl rfl (Nat.le_of_ble_eq_true rfl) ?_
  intro p e s m below meth cd Qz ls hx hb hml hown hts hK hZ hP hS hl hret
  have hA := sgY.self (n := 26) (h := h) (sz := s.heap.size)
  have hl : lv_has ls 4 [(0, .ref (h 0)), (1, .int 2), (2, .int x1)] := hl
  obtain ⟨H, hH⟩ : ∃ z : Heap, z = s.heap := ⟨_, rfl⟩
  obtain ⟨locs, hlo⟩ : ∃ z : List Loc, z = [] := ⟨_, rfl⟩
  have hP : va_P D vwCl (sgw 26 h (eM ca h) f L Q) H := by rw [hH]; exact hP
  have hS : va_S (sgA 26 h s.heap.size) s.heap H locs := by rw [hH, hlo]; exact hS
  suffices hgo : W p l e ({ frames := 1, cells := 0, slots := 0, locals := 21 }) s m ([.ref (h 0), .int 2, .int x1] : List Value).toArray below meth cd H locs 0 0 Qz (F0 m 0 ls []) by rw [hH, hlo] at hgo; exact hgo
  clear hH hlo
  have o_1 : (f 0 48).toInt = 1 := (congrArg Int32.toInt (show f 0 48 = 1 from hf_0_48)).trans (by decide)
  have hF : sgK WkX12_slipsAs_2_f1_f3 f f := sgK.rf
  refine lv_iload_n hx hb dX12_slipsAs_0 rfl (lv_at hl 1 rfl) ?_
  refine lv_iconst (v := 3) hx hb dX12_slipsAs_1 (by decide) ?_
  refine lv_icmp_eq (tgt := 10) hx hb dX12_slipsAs_2 (by decide) (fun c => absurd c (by decide)) (fun c => ?_)
  refine lv_iload_n hx hb dX12_slipsAs_5 rfl (lv_at hl 1 rfl) ?_
  refine lv_iconst (v := 5) hx hb dX12_slipsAs_6 (by decide) ?_
  refine lv_icmp_ne (tgt := 25) hx hb dX12_slipsAs_7 (by decide) (fun c => ?_) (fun c => absurd c (by decide))
  refine lv_iload_n hx hb dX12_slipsAs_25 rfl (lv_at hl 1 rfl) ?_
  refine lv_iconst (v := 4) hx hb dX12_slipsAs_26 (by decide) ?_
  refine lv_icmp_eq (tgt := 36) hx hb dX12_slipsAs_27 (by decide) (fun c => absurd c (by decide)) (fun c => ?_)
  refine lv_iload_n hx hb dX12_slipsAs_30 rfl (lv_at hl 1 rfl) ?_
  refine lv_bipush (v := 7) hx hb dX12_slipsAs_31 (by decide) ?_
  refine lv_icmp_ne (tgt := 61) hx hb dX12_slipsAs_33 (by decide) (fun c => ?_) (fun c => absurd c (by decide))
  refine lv_aload_n hx hb dX12_slipsAs_61 rfl (lv_at hl 0 rfl) ?_
  refine lv_bipush (v := 11) hx hb dX12_slipsAs_62 (by decide) ?_
  have q_2 : (f 0 48).toInt = 1 := (congrArg Int32.toInt (show f 0 48 = 1 from hf_0_48)).trans (by decide)
  have q_3 : (f 0 48).toInt = 1 := (congrArg Int32.toInt (show f 0 48 = 1 from hf_0_48)).trans (by decide)
  refine sg_callv (va_runV (As := [.int 11]) (rest := []) ⟨hx, hb, hml, hown, hts⟩ (kX12_begins_11_f1 l D ca za h hh f L Q hI hf_0_48 (by have k0 : (11 : Int32).toInt = 11 := (by decide); omega) H.size) (cwV 1 hts (gw_V (fun _ h => List.mem_cons_of_mem _ h) mw_734 mw_735 mw_736 mw_619 mw_733) rfl rfl rfl (by decide +kernel) ⟨Nat.le_of_ble_eq_true rfl, Nat.le_of_ble_eq_true rfl⟩) (sg_preV (ci := 12) (C := RX12) (T := TX12) (N := 55) hA hK hP hS hZ 0 (by decide) rfl rfl) rfl rfl hl.1 rfl (lv_room (Nat.le_of_ble_eq_true rfl)) dX12_slipsAs_64 ⟨Nat.le_refl _, Nat.le_refl _⟩) hA hS (fun f_4 L_5 Q_6 H locs hq hP hS => ?_)
  obtain ⟨⟨hI, hk_f_4, eL9, eQ9⟩, p_7⟩ := hq
  rw [eL9, eQ9] at hP; clear eL9 eQ9
  have hF : sgK WkX12_slipsAs_2_f1_f3 f f_4 := sgK.tr hF hk_f_4 (by decide)
  obtain ⟨v_8, ev_8⟩ : ∃ z : Int32, z = f_4 0 48 := ⟨_, rfl⟩
  have q_9 : 0 ≤ v_8.toInt ∧ v_8.toInt ≤ 19 := by rw [ev_8]; exact hI 0 48
  have q_10 : (f_4 0 48).toInt = v_8.toInt := (congrArg Int32.toInt (show f_4 0 48 = v_8 from ev_8.symm))
  have q_11 : (f_4 0 48).toInt = v_8.toInt := (congrArg Int32.toInt (show f_4 0 48 = v_8 from ev_8.symm))
  refine lv_iload_n hx hb dX12_slipsAs_67 rfl (lv_at hl 2 rfl) ?_
  refine lv_aload_n hx hb dX12_slipsAs_68 rfl (lv_at hl 0 rfl) ?_
  refine sg_get (ci := 12) (v := .int (f_4 0 50)) (C := RX12) (T := TX12) (N := 55) hx hb hts (fun w h => List.mem_cons_of_mem _ (gx_12 w h)) hown hK hP 0 (by decide) rfl rfl 50 (by decide) (hts _ (List.mem_cons_of_mem _ mw_680)) (fun _ h9 => h9) rfl dX12_slipsAs_69 ?_
  refine lv_topi (fun v_12 ev_12 => ?_)
  have q_13 : 0 ≤ v_12.toInt ∧ v_12.toInt ≤ 49 := by rw [ev_12]; exact hI 0 50
  refine lv_ixor hx hb dX12_slipsAs_72 ?_
  refine lv_topi (fun v_14 ev_14 => ?_)
  have q_15 : (f_4 0 48).toInt = v_8.toInt := (congrArg Int32.toInt (show f_4 0 48 = v_8 from ev_8.symm))
  have q_16 : (f_4 0 48).toInt = v_8.toInt := (congrArg Int32.toInt (show f_4 0 48 = v_8 from ev_8.symm))
  exact hret _ _ _ _ (v_14) f_4 L Q dX12_slipsAs_73 hP hS ⟨⟨hI, hF, rfl, rfl⟩, trivial, (by omega)⟩

abbrev WkX12_slipsAs_3_f0_f3 : List (Nat × Nat × Option Nat) := [(0, 0, some 48), (21, 21, none)]
set_option maxHeartbeats 4000000 in
set_option maxRecDepth 100000 in
theorem kX12_slipsAs_3_f0_f3 (l : Launch) (D : va_G) (ca : Nat → ClassId) (za h : Nat → Nat) (hh : sgH 26 h) (f : sg_F) (L : sg_L) (Q : sg_Q) (hI : sgI loM hiM f) (x1 : Int32) (hf_0_48 : f 0 48 = 0) (hf_0_49 : f 0 49 = 3) (p0 : 0 ≤ (f 0 48).toInt ∧ (f 0 48).toInt ≤ 0) (sz : Nat) : Met l yX12_slipsAs gwX12_slipsAs { frames := 2, cells := 0, slots := 0, locals := 44 } (sgP D vwCl (tyX ca) 26 h (eM ca h) zcM za f L Q sz [.ref (h 0), .int 3, .int x1]) (sgQi D vwCl 26 h (eM ca h) sz (fun r f1 L1 Q1 => ((sgI loM hiM f1 ∧ sgK WkX12_slipsAs_3_f0_f3 f f1 ∧ L1 = L ∧ Q1 = Q) ∧ True ∧ (2 ≤ (f1 0 48).toInt ∧ (f1 0 48).toInt ≤ 2)))) 0 0 (sgA 26 h sz) := by
  refine sg_ofWi (cc := cX12_slipsAs) (maxL := 4) RX12 (by decide) rfl rfl (Nat.le_of_ble_eq_true rfl) ?_
  intro p e s m below meth cd Qz ls hx hb hml hown hts hK hZ hP hS hl hret
  have hA := sgY.self (n := 26) (h := h) (sz := s.heap.size)
  have hl : lv_has ls 4 [(0, .ref (h 0)), (1, .int 3), (2, .int x1)] := hl
  obtain ⟨H, hH⟩ : ∃ z : Heap, z = s.heap := ⟨_, rfl⟩
  obtain ⟨locs, hlo⟩ : ∃ z : List Loc, z = [] := ⟨_, rfl⟩
  have hP : va_P D vwCl (sgw 26 h (eM ca h) f L Q) H := by rw [hH]; exact hP
  have hS : va_S (sgA 26 h s.heap.size) s.heap H locs := by rw [hH, hlo]; exact hS
  suffices hgo : W p l e ({ frames := 2, cells := 0, slots := 0, locals := 44 }) s m ([.ref (h 0), .int 3, .int x1] : List Value).toArray below meth cd H locs 0 0 Qz (F0 m 0 ls []) by rw [hH, hlo] at hgo; exact hgo
  clear hH hlo
  have o_1 : (f 0 48).toInt = 0 := (congrArg Int32.toInt (show f 0 48 = 0 from hf_0_48)).trans (by decide)
  have hF : sgK WkX12_slipsAs_3_f0_f3 f f := sgK.rf
  have blk_10 : ∀ (fp_10 : sg_F) (H : Heap) (locs : List Loc) (ls : Array Slot), 0 ≤ (fp_10 0 48).toInt ∧ (fp_10 0 48).toInt ≤ 0 → 3 ≤ (fp_10 0 49).toInt ∧ (fp_10 0 49).toInt ≤ 3 → sgI loM hiM fp_10 → sgK WkX12_slipsAs_3_f0_f3 f fp_10 → va_P D vwCl (sgw 26 h (eM ca h) fp_10 L Q) H → va_S (sgA 26 h s.heap.size) s.heap H locs → lv_has ls 4 [(0, .ref (h 0)), (2, .int x1)] → W p l e ({ frames := 2, cells := 0, slots := 0, locals := 44 }) s m ([.ref (h 0), .int 3, .int x1] : List Value).toArray below meth cd H locs 0 0 Qz (F0 m 10 ls []) := by
    intro fp_10 H locs ls hy0_10 hy1_10 hI hF hP hS hl
    obtain ⟨v_2, ev_2⟩ : ∃ z : Int32, z = fp_10 0 48 := ⟨_, rfl⟩
    have q_3 : 0 ≤ v_2.toInt ∧ v_2.toInt ≤ 19 := by rw [ev_2]; exact hI 0 48
    have q_4 : (fp_10 0 48).toInt = v_2.toInt := by rw [ev_2]
    obtain ⟨v_5, ev_5⟩ : ∃ z : Int32, z = fp_10 0 49 := ⟨_, rfl⟩
    have q_6 : 0 ≤ v_5.toInt ∧ v_5.toInt ≤ 7 := by rw [ev_5]; exact hI 0 49
    have q_7 : (fp_10 0 49).toInt = v_5.toInt := by rw [ev_5]
    have m_8 : fp_10 0 49 = 3 := (hF 0 49 (by decide)).trans hf_0_49
    refine lv_aload_n hx hb dX12_slipsAs_10 rfl (lv_at hl 0 rfl) ?_
    refine lv_bipush (v := 40) hx hb dX12_slipsAs_11 (by decide) ?_
    have c_9 : v_2 = 0 := Int32.toInt_inj.mp (by have k9 : (0 : Int32).toInt = 0 := (by decide); omega)
    have q_10 : (fp_10 0 48).toInt = 0 := (congrArg Int32.toInt (show fp_10 0 48 = 0 from (Eq.trans ev_2.symm c_9))).trans (by decide)
    have q_11 : (fp_10 0 48).toInt = 0 := (congrArg Int32.toInt (show fp_10 0 48 = 0 from (Eq.trans ev_2.symm c_9))).trans (by decide)
    refine sg_callv (va_runV (As := [.int 40]) (rest := []) ⟨hx, hb, hml, hown, hts⟩ (kX12_begins_40_f0 l D ca za h hh fp_10 L Q hI (Eq.trans ev_2.symm c_9) (by have k0 : (40 : Int32).toInt = 40 := (by decide); omega) H.size) (cwV 1 hts (gw_V (fun _ h => List.mem_cons_of_mem _ h) mw_734 mw_735 mw_736 mw_619 mw_733) rfl rfl rfl (by decide +kernel) ⟨Nat.le_of_ble_eq_true rfl, Nat.le_of_ble_eq_true rfl⟩) (sg_preV (ci := 12) (C := RX12) (T := TX12) (N := 55) hA hK hP hS hZ 0 (by decide) rfl rfl) rfl rfl hl.1 rfl (lv_room (Nat.le_of_ble_eq_true rfl)) dX12_slipsAs_13 ⟨Nat.le_refl _, Nat.le_refl _⟩) hA hS (fun f_12 L_13 Q_14 H locs hq hP hS => ?_)
    obtain ⟨⟨hI, hk_f_12, eL9, eQ9⟩, p_15⟩ := hq
    rw [eL9, eQ9] at hP; clear eL9 eQ9
    have hF : sgK WkX12_slipsAs_3_f0_f3 f f_12 := sgK.tr hF hk_f_12 (by decide)
    obtain ⟨v_16, ev_16⟩ : ∃ z : Int32, z = f_12 0 48 := ⟨_, rfl⟩
    have q_17 : 0 ≤ v_16.toInt ∧ v_16.toInt ≤ 19 := by rw [ev_16]; exact hI 0 48
    have q_18 : (f_12 0 48).toInt = v_16.toInt := (congrArg Int32.toInt (show f_12 0 48 = v_16 from ev_16.symm))
    have q_19 : (f_12 0 48).toInt = v_16.toInt := (congrArg Int32.toInt (show f_12 0 48 = v_16 from ev_16.symm))
    refine lv_aload_n hx hb dX12_slipsAs_16 rfl (lv_at hl 0 rfl) ?_
    refine lv_iconst (v := 2) hx hb dX12_slipsAs_17 (by decide) ?_
    refine lv_iload_n hx hb dX12_slipsAs_18 rfl (lv_at hl 1 rfl) ?_
    have c_20 : v_16 = 1 := Int32.toInt_inj.mp (by have k9 : (1 : Int32).toInt = 1 := (by decide); omega)
    have q_21 : (f_12 0 48).toInt = 1 := (congrArg Int32.toInt (show f_12 0 48 = 1 from (Eq.trans ev_16.symm c_20))).trans (by decide)
    have q_22 : (f_12 0 48).toInt = 1 := (congrArg Int32.toInt (show f_12 0 48 = 1 from (Eq.trans ev_16.symm c_20))).trans (by decide)
    refine sg_calli (va_runV (As := [.int 2, .int x1]) (rest := []) ⟨hx, hb, hml, hown, hts⟩ (kX12_slipsAs_2_f1_f3 l D ca za h hh f_12 L Q hI x1 (Eq.trans ev_16.symm c_20) ((hk_f_12 0 49 (by decide)).trans m_8) (by have k0 : (2 : Int32).toInt = 2 := (by decide); omega) H.size) (cwV 2 hts (gw_V (fun _ h => List.mem_cons_of_mem _ h) mw_748 mw_749 mw_750 mw_619 mw_747) rfl rfl rfl (by decide +kernel) ⟨Nat.le_of_ble_eq_true rfl, Nat.le_of_ble_eq_true rfl⟩) (sg_preV (ci := 12) (C := RX12) (T := TX12) (N := 55) hA hK hP hS hZ 0 (by decide) rfl rfl) rfl rfl hl.1 rfl (lv_room (Nat.le_of_ble_eq_true rfl)) dX12_slipsAs_19 ⟨Nat.le_refl _, Nat.le_refl _⟩) hA hS (fun r_26 f_23 L_24 Q_25 H locs hq hP hS => ?_)
    obtain ⟨⟨hI, hk_f_23, eL9, eQ9⟩, hq, p_27⟩ := hq
    rw [eL9, eQ9] at hP; clear eL9 eQ9
    have hF : sgK WkX12_slipsAs_3_f0_f3 f f_23 := sgK.tr hF hk_f_23 (by decide)
    obtain ⟨v_28, ev_28⟩ : ∃ z : Int32, z = f_23 0 48 := ⟨_, rfl⟩
    have q_29 : 0 ≤ v_28.toInt ∧ v_28.toInt ≤ 19 := by rw [ev_28]; exact hI 0 48
    have q_30 : (f_23 0 48).toInt = v_28.toInt := (congrArg Int32.toInt (show f_23 0 48 = v_28 from ev_28.symm))
    have q_31 : (f_23 0 48).toInt = v_28.toInt := (congrArg Int32.toInt (show f_23 0 48 = v_28 from ev_28.symm))
    have k_32 : (2 : Int32).toInt = 2 := by decide
    refine lv_iconst (v := 3) hx hb dX12_slipsAs_22 (by decide) ?_
    refine lv_imul hx hb dX12_slipsAs_23 ?_
    refine lv_topi (fun v_33 ev_33 => ?_)
    have q_34 : (f_23 0 48).toInt = v_28.toInt := (congrArg Int32.toInt (show f_23 0 48 = v_28 from ev_28.symm))
    have q_35 : (f_23 0 48).toInt = v_28.toInt := (congrArg Int32.toInt (show f_23 0 48 = v_28 from ev_28.symm))
    exact hret _ _ _ _ (v_33) f_23 L Q dX12_slipsAs_24 hP hS ⟨⟨hI, hF, rfl, rfl⟩, trivial, (by omega)⟩
  refine lv_iload_n hx hb dX12_slipsAs_0 rfl (lv_at hl 1 rfl) ?_
  refine lv_iconst (v := 3) hx hb dX12_slipsAs_1 (by decide) ?_
  refine lv_icmp_eq (tgt := 10) hx hb dX12_slipsAs_2 (by decide) (fun c => ?_) (fun c => absurd c (by decide))
  exact blk_10 f _ _ _ (by have zz0_48 : (f 0 48).toInt = 0 := (congrArg Int32.toInt (show f 0 48 = 0 from hf_0_48)).trans (by decide); omega) (by have zz0_49 : (f 0 49).toInt = 3 := (congrArg Int32.toInt (show f 0 49 = 3 from hf_0_49)).trans (by decide); omega) hI hF hP hS (lv_sub hl [0, 2] rfl)

abbrev WkX12_begins_50_f0 : List (Nat × Nat × Option Nat) := [(0, 0, some 48), (21, 21, none)]
set_option maxHeartbeats 4000000 in
set_option maxRecDepth 100000 in
theorem kX12_begins_50_f0 (l : Launch) (D : va_G) (ca : Nat → ClassId) (za h : Nat → Nat) (hh : sgH 26 h) (f : sg_F) (L : sg_L) (Q : sg_Q) (hI : sgI loM hiM f) (hf_0_48 : f 0 48 = 0) (p0 : 0 ≤ (f 0 48).toInt ∧ (f 0 48).toInt ≤ 0) (sz : Nat) : Met l yX12_begins gwX12_begins { frames := 0, cells := 0, slots := 0, locals := 0 } (sgP D vwCl (tyX ca) 26 h (eM ca h) zcM za f L Q sz [.ref (h 0), .int 50]) (sgQv D vwCl 26 h (eM ca h) sz (fun f1 L1 Q1 => ((sgI loM hiM f1 ∧ sgK WkX12_begins_50_f0 f f1 ∧ L1 = L ∧ Q1 = Q) ∧ (1 ≤ (f1 0 48).toInt ∧ (f1 0 48).toInt ≤ 1)))) 0 0 (sgA 26 h sz) := by
  refine sg_ofWv (cc := cX12_begins) (maxL := 2) RX12 (by decide) rfl rfl (Nat.le_of_ble_eq_true rfl) ?_
  intro p e s m below meth cd Qz ls hx hb hml hown hts hK hZ hP hS hl hret
  have hA := sgY.self (n := 26) (h := h) (sz := s.heap.size)
  have hl : lv_has ls 2 [(0, .ref (h 0)), (1, .int 50)] := hl
  obtain ⟨H, hH⟩ : ∃ z : Heap, z = s.heap := ⟨_, rfl⟩
  obtain ⟨locs, hlo⟩ : ∃ z : List Loc, z = [] := ⟨_, rfl⟩
  have hP : va_P D vwCl (sgw 26 h (eM ca h) f L Q) H := by rw [hH]; exact hP
  have hS : va_S (sgA 26 h s.heap.size) s.heap H locs := by rw [hH, hlo]; exact hS
  suffices hgo : W p l e ({ frames := 0, cells := 0, slots := 0, locals := 0 }) s m ([.ref (h 0), .int 50] : List Value).toArray below meth cd H locs 0 0 Qz (F0 m 0 ls []) by rw [hH, hlo] at hgo; exact hgo
  clear hH hlo
  have o_1 : (f 0 48).toInt = 0 := (congrArg Int32.toInt (show f 0 48 = 0 from hf_0_48)).trans (by decide)
  have hF : sgK WkX12_begins_50_f0 f f := sgK.rf
  have blk_19 : ∀ (fp_19 : sg_F) (H : Heap) (locs : List Loc) (ls : Array Slot), 0 ≤ (fp_19 0 48).toInt ∧ (fp_19 0 48).toInt ≤ 0 → sgI loM hiM fp_19 → sgK WkX12_begins_50_f0 f fp_19 → va_P D vwCl (sgw 26 h (eM ca h) fp_19 L Q) H → va_S (sgA 26 h s.heap.size) s.heap H locs → lv_has ls 2 [(0, .ref (h 0))] → W p l e ({ frames := 0, cells := 0, slots := 0, locals := 0 }) s m ([.ref (h 0), .int 50] : List Value).toArray below meth cd H locs 0 0 Qz (F0 m 19 ls []) := by
    intro fp_19 H locs ls hy0_19 hI hF hP hS hl
    obtain ⟨v_2, ev_2⟩ : ∃ z : Int32, z = fp_19 0 48 := ⟨_, rfl⟩
    have q_3 : 0 ≤ v_2.toInt ∧ v_2.toInt ≤ 19 := by rw [ev_2]; exact hI 0 48
    have q_4 : (fp_19 0 48).toInt = v_2.toInt := by rw [ev_2]
    refine lv_aload_n hx hb dX12_begins_19 rfl (lv_at hl 0 rfl) ?_
    refine lv_dup hx hb dX12_begins_20 rfl ?_
    refine sg_get (ci := 12) (v := .int v_2) (C := RX12) (T := TX12) (N := 55) hx hb hts (fun w h => List.mem_cons_of_mem _ (gx_12 w h)) hown hK hP 0 (by decide) rfl rfl 48 (by decide) (hts _ (List.mem_cons_of_mem _ mw_621)) (fun _ h9 => h9) (congrArg (fun z => some (Value.int z)) (show fp_19 0 48 = v_2 from ev_2.symm)) dX12_begins_21 ?_
    refine lv_iconst (v := 1) hx hb dX12_begins_24 (by decide) ?_
    refine lv_iadd hx hb dX12_begins_25 ?_
    refine lv_topi (fun v_5 ev_5 => ?_)
    have q_6 : v_5.toInt = v_2.toInt + 1 := by rw [ev_5]; have k1 : (1 : Int32).toInt = 1 := (by decide); exact (bn_addI (by omega) (by omega)).trans (by omega)
    refine sg_put (ci := 12) (x := v_5) (ty := .int) (C := RX12) (T := TX12) (N := 55) hx hb hts (fun w h => List.mem_cons_of_mem _ (gx_12 w h)) tyX12 tyX12_ok nmX12 hown hh hA hK hP hS 0 (by decide) rfl rfl 48 (by decide) (hts _ (List.mem_cons_of_mem _ mw_621)) (fun _ h9 => h9) rfl rfl (by decide +kernel) rfl rfl (Nat.le_of_ble_eq_true rfl) dX12_begins_26 (fun f_7 H locs ef_7 hP hS => ?_)
    have hI : sgI loM hiM f_7 := by rw [ef_7]; exact sgI.put hI 0 48 (show 0 ≤ (v_5 : Int32).toInt ∧ (v_5 : Int32).toInt ≤ 19 from by omega)
    have hF : sgK WkX12_begins_50_f0 f f_7 := sgK.put hF ef_7 (by rfl)
    have q_8 : (f_7 0 48).toInt = v_5.toInt := (congrArg Int32.toInt (show f_7 0 48 = v_5 from (by rw [ef_7, sg_up_s, sgu_s])))
    have q_9 : (f_7 0 48).toInt = v_5.toInt := (congrArg Int32.toInt (show f_7 0 48 = v_5 from (by rw [ef_7, sg_up_s, sgu_s])))
    exact hret _ _ _ _ f_7 L Q dX12_begins_29 hP hS ⟨⟨hI, hF, rfl, rfl⟩, (by omega)⟩
  refine lv_aload_n hx hb dX12_begins_0 rfl (lv_at hl 0 rfl) ?_
  refine sg_get (ci := 12) (v := .int 0) (C := RX12) (T := TX12) (N := 55) hx hb hts (fun w h => List.mem_cons_of_mem _ (gx_12 w h)) hown hK hP 0 (by decide) rfl rfl 48 (by decide) (hts _ (List.mem_cons_of_mem _ mw_621)) (fun _ h9 => h9) (congrArg (fun z => some (Value.int z)) (show f 0 48 = 0 from hf_0_48)) dX12_begins_1 ?_
  refine lv_bipush (v := 24) hx hb dX12_begins_4 (by decide) ?_
  refine lv_icmp_ge (tgt := 19) hx hb dX12_begins_6 (by decide) (fun c => absurd c (by decide)) (fun c => ?_)
  refine lv_aload_n hx hb dX12_begins_9 rfl (lv_at hl 0 rfl) ?_
  refine sg_get (ci := 12) (v := .ref (h 21)) (C := RX12) (T := TX12) (N := 55) hx hb hts (fun w h => List.mem_cons_of_mem _ (gx_12 w h)) hown hK hP 0 (by decide) rfl rfl 47 (by decide) (hts _ (List.mem_cons_of_mem _ mw_718)) (fun _ h9 => h9) rfl dX12_begins_10 ?_
  refine lv_aload_n hx hb dX12_begins_13 rfl (lv_at hl 0 rfl) ?_
  refine sg_get (ci := 12) (v := .int 0) (C := RX12) (T := TX12) (N := 55) hx hb hts (fun w h => List.mem_cons_of_mem _ (gx_12 w h)) hown hK hP 0 (by decide) rfl rfl 48 (by decide) (hts _ (List.mem_cons_of_mem _ mw_621)) (fun _ h9 => h9) (congrArg (fun z => some (Value.int z)) (show f 0 48 = 0 from hf_0_48)) dX12_begins_14 ?_
  refine lv_iload_n hx hb dX12_begins_17 rfl (lv_at hl 1 rfl) ?_
  refine sg_iast hx hb hh hA hK hP hS 21 (by decide) 0 (fun _ => rfl) rfl (i := 0) (x := 50) (vp_in_iff.mpr (by decide)) dX12_begins_18 (fun f_10 H locs ef_10 hP hS => ?_)
  have hI : sgI loM hiM f_10 := by rw [ef_10]; exact sgI.put hI 21 (Int32.toNatClampNeg 0) (show 0 ≤ (50 : Int32).toInt ∧ (50 : Int32).toInt ≤ 81 from by decide)
  have hF : sgK WkX12_begins_50_f0 f f_10 := sgK.put hF ef_10 (by rfl)
  exact blk_19 f_10 _ _ _ (by have zz0_48 : (f_10 0 48).toInt = 0 := (congrArg Int32.toInt (show f_10 0 48 = 0 from (by rw [ef_10, sg_up_n (by decide)]; exact hf_0_48))).trans (by decide); omega) hI hF hP hS (lv_sub hl [0] rfl)

abbrev WkX12_slipsAs_1_f1_f4 : List (Nat × Nat × Option Nat) := [(0, 0, some 48), (21, 21, none)]
set_option maxHeartbeats 4000000 in
set_option maxRecDepth 100000 in
theorem kX12_slipsAs_1_f1_f4 (l : Launch) (D : va_G) (ca : Nat → ClassId) (za h : Nat → Nat) (hh : sgH 26 h) (f : sg_F) (L : sg_L) (Q : sg_Q) (hI : sgI loM hiM f) (x1 : Int32) (hf_0_48 : f 0 48 = 1) (hf_0_49 : f 0 49 = 4) (p0 : 1 ≤ (f 0 48).toInt ∧ (f 0 48).toInt ≤ 1) (sz : Nat) : Met l yX12_slipsAs gwX12_slipsAs { frames := 1, cells := 0, slots := 0, locals := 21 } (sgP D vwCl (tyX ca) 26 h (eM ca h) zcM za f L Q sz [.ref (h 0), .int 1, .int x1]) (sgQi D vwCl 26 h (eM ca h) sz (fun r f1 L1 Q1 => ((sgI loM hiM f1 ∧ sgK WkX12_slipsAs_1_f1_f4 f f1 ∧ L1 = L ∧ Q1 = Q) ∧ True ∧ (2 ≤ (f1 0 48).toInt ∧ (f1 0 48).toInt ≤ 2)))) 0 0 (sgA 26 h sz) := by
  refine sg_ofWi (cc := cX12_slipsAs) (maxL := 4) RX12 (by decide) rfl rfl (Nat.le_of_ble_eq_true rfl) ?_
  intro p e s m below meth cd Qz ls hx hb hml hown hts hK hZ hP hS hl hret
  have hA := sgY.self (n := 26) (h := h) (sz := s.heap.size)
  have hl : lv_has ls 4 [(0, .ref (h 0)), (1, .int 1), (2, .int x1)] := hl
  obtain ⟨H, hH⟩ : ∃ z : Heap, z = s.heap := ⟨_, rfl⟩
  obtain ⟨locs, hlo⟩ : ∃ z : List Loc, z = [] := ⟨_, rfl⟩
  have hP : va_P D vwCl (sgw 26 h (eM ca h) f L Q) H := by rw [hH]; exact hP
  have hS : va_S (sgA 26 h s.heap.size) s.heap H locs := by rw [hH, hlo]; exact hS
  suffices hgo : W p l e ({ frames := 1, cells := 0, slots := 0, locals := 21 }) s m ([.ref (h 0), .int 1, .int x1] : List Value).toArray below meth cd H locs 0 0 Qz (F0 m 0 ls []) by rw [hH, hlo] at hgo; exact hgo
  clear hH hlo
  have o_1 : (f 0 48).toInt = 1 := (congrArg Int32.toInt (show f 0 48 = 1 from hf_0_48)).trans (by decide)
  have hF : sgK WkX12_slipsAs_1_f1_f4 f f := sgK.rf
  refine lv_iload_n hx hb dX12_slipsAs_0 rfl (lv_at hl 1 rfl) ?_
  refine lv_iconst (v := 3) hx hb dX12_slipsAs_1 (by decide) ?_
  refine lv_icmp_eq (tgt := 10) hx hb dX12_slipsAs_2 (by decide) (fun c => absurd c (by decide)) (fun c => ?_)
  refine lv_iload_n hx hb dX12_slipsAs_5 rfl (lv_at hl 1 rfl) ?_
  refine lv_iconst (v := 5) hx hb dX12_slipsAs_6 (by decide) ?_
  refine lv_icmp_ne (tgt := 25) hx hb dX12_slipsAs_7 (by decide) (fun c => ?_) (fun c => absurd c (by decide))
  refine lv_iload_n hx hb dX12_slipsAs_25 rfl (lv_at hl 1 rfl) ?_
  refine lv_iconst (v := 4) hx hb dX12_slipsAs_26 (by decide) ?_
  refine lv_icmp_eq (tgt := 36) hx hb dX12_slipsAs_27 (by decide) (fun c => absurd c (by decide)) (fun c => ?_)
  refine lv_iload_n hx hb dX12_slipsAs_30 rfl (lv_at hl 1 rfl) ?_
  refine lv_bipush (v := 7) hx hb dX12_slipsAs_31 (by decide) ?_
  refine lv_icmp_ne (tgt := 61) hx hb dX12_slipsAs_33 (by decide) (fun c => ?_) (fun c => absurd c (by decide))
  refine lv_aload_n hx hb dX12_slipsAs_61 rfl (lv_at hl 0 rfl) ?_
  refine lv_bipush (v := 11) hx hb dX12_slipsAs_62 (by decide) ?_
  have q_2 : (f 0 48).toInt = 1 := (congrArg Int32.toInt (show f 0 48 = 1 from hf_0_48)).trans (by decide)
  have q_3 : (f 0 48).toInt = 1 := (congrArg Int32.toInt (show f 0 48 = 1 from hf_0_48)).trans (by decide)
  refine sg_callv (va_runV (As := [.int 11]) (rest := []) ⟨hx, hb, hml, hown, hts⟩ (kX12_begins_11_f1 l D ca za h hh f L Q hI hf_0_48 (by have k0 : (11 : Int32).toInt = 11 := (by decide); omega) H.size) (cwV 1 hts (gw_V (fun _ h => List.mem_cons_of_mem _ h) mw_734 mw_735 mw_736 mw_619 mw_733) rfl rfl rfl (by decide +kernel) ⟨Nat.le_of_ble_eq_true rfl, Nat.le_of_ble_eq_true rfl⟩) (sg_preV (ci := 12) (C := RX12) (T := TX12) (N := 55) hA hK hP hS hZ 0 (by decide) rfl rfl) rfl rfl hl.1 rfl (lv_room (Nat.le_of_ble_eq_true rfl)) dX12_slipsAs_64 ⟨Nat.le_refl _, Nat.le_refl _⟩) hA hS (fun f_4 L_5 Q_6 H locs hq hP hS => ?_)
  obtain ⟨⟨hI, hk_f_4, eL9, eQ9⟩, p_7⟩ := hq
  rw [eL9, eQ9] at hP; clear eL9 eQ9
  have hF : sgK WkX12_slipsAs_1_f1_f4 f f_4 := sgK.tr hF hk_f_4 (by decide)
  obtain ⟨v_8, ev_8⟩ : ∃ z : Int32, z = f_4 0 48 := ⟨_, rfl⟩
  have q_9 : 0 ≤ v_8.toInt ∧ v_8.toInt ≤ 19 := by rw [ev_8]; exact hI 0 48
  have q_10 : (f_4 0 48).toInt = v_8.toInt := (congrArg Int32.toInt (show f_4 0 48 = v_8 from ev_8.symm))
  have q_11 : (f_4 0 48).toInt = v_8.toInt := (congrArg Int32.toInt (show f_4 0 48 = v_8 from ev_8.symm))
  refine lv_iload_n hx hb dX12_slipsAs_67 rfl (lv_at hl 2 rfl) ?_
  refine lv_aload_n hx hb dX12_slipsAs_68 rfl (lv_at hl 0 rfl) ?_
  refine sg_get (ci := 12) (v := .int (f_4 0 50)) (C := RX12) (T := TX12) (N := 55) hx hb hts (fun w h => List.mem_cons_of_mem _ (gx_12 w h)) hown hK hP 0 (by decide) rfl rfl 50 (by decide) (hts _ (List.mem_cons_of_mem _ mw_680)) (fun _ h9 => h9) rfl dX12_slipsAs_69 ?_
  refine lv_topi (fun v_12 ev_12 => ?_)
  have q_13 : 0 ≤ v_12.toInt ∧ v_12.toInt ≤ 49 := by rw [ev_12]; exact hI 0 50
  refine lv_ixor hx hb dX12_slipsAs_72 ?_
  refine lv_topi (fun v_14 ev_14 => ?_)
  have q_15 : (f_4 0 48).toInt = v_8.toInt := (congrArg Int32.toInt (show f_4 0 48 = v_8 from ev_8.symm))
  have q_16 : (f_4 0 48).toInt = v_8.toInt := (congrArg Int32.toInt (show f_4 0 48 = v_8 from ev_8.symm))
  exact hret _ _ _ _ (v_14) f_4 L Q dX12_slipsAs_73 hP hS ⟨⟨hI, hF, rfl, rfl⟩, trivial, (by omega)⟩

abbrev WkX12_setsAs_0_f3_f4 : List (Nat × Nat × Option Nat) := [(0, 0, some 48), (21, 21, none)]
set_option maxHeartbeats 4000000 in
set_option maxRecDepth 100000 in
theorem kX12_setsAs_0_f3_f4 (l : Launch) (D : va_G) (ca : Nat → ClassId) (za h : Nat → Nat) (hh : sgH 26 h) (f : sg_F) (L : sg_L) (Q : sg_Q) (hI : sgI loM hiM f) (x1 : Int32) (hf_0_48 : f 0 48 = 3) (hf_0_49 : f 0 49 = 4) (p0 : 3 ≤ (f 0 48).toInt ∧ (f 0 48).toInt ≤ 3) (sz : Nat) : Met l yX12_setsAs gwX12_setsAs { frames := 1, cells := 0, slots := 0, locals := 21 } (sgP D vwCl (tyX ca) 26 h (eM ca h) zcM za f L Q sz [.ref (h 0), .int 0, .int x1]) (sgQi D vwCl 26 h (eM ca h) sz (fun r f1 L1 Q1 => ((sgI loM hiM f1 ∧ sgK WkX12_setsAs_0_f3_f4 f f1 ∧ L1 = L ∧ Q1 = Q) ∧ True ∧ (4 ≤ (f1 0 48).toInt ∧ (f1 0 48).toInt ≤ 4)))) 0 0 (sgA 26 h sz) := by
  refine sg_ofWi (cc := cX12_setsAs) (maxL := 3) RX12 (by decide) rfl rfl (Nat.le_of_ble_eq_true rfl) ?_
  intro p e s m below meth cd Qz ls hx hb hml hown hts hK hZ hP hS hl hret
  have hA := sgY.self (n := 26) (h := h) (sz := s.heap.size)
  have hl : lv_has ls 3 [(0, .ref (h 0)), (1, .int 0), (2, .int x1)] := hl
  obtain ⟨H, hH⟩ : ∃ z : Heap, z = s.heap := ⟨_, rfl⟩
  obtain ⟨locs, hlo⟩ : ∃ z : List Loc, z = [] := ⟨_, rfl⟩
  have hP : va_P D vwCl (sgw 26 h (eM ca h) f L Q) H := by rw [hH]; exact hP
  have hS : va_S (sgA 26 h s.heap.size) s.heap H locs := by rw [hH, hlo]; exact hS
  suffices hgo : W p l e ({ frames := 1, cells := 0, slots := 0, locals := 21 }) s m ([.ref (h 0), .int 0, .int x1] : List Value).toArray below meth cd H locs 0 0 Qz (F0 m 0 ls []) by rw [hH, hlo] at hgo; exact hgo
  clear hH hlo
  have o_1 : (f 0 48).toInt = 3 := (congrArg Int32.toInt (show f 0 48 = 3 from hf_0_48)).trans (by decide)
  have hF : sgK WkX12_setsAs_0_f3_f4 f f := sgK.rf
  refine lv_iload_n hx hb dX12_setsAs_0 rfl (lv_at hl 1 rfl) ?_
  refine lv_iconst (v := 1) hx hb dX12_setsAs_1 (by decide) ?_
  refine lv_icmp_eq (tgt := 16) hx hb dX12_setsAs_2 (by decide) (fun c => absurd c (by decide)) (fun c => ?_)
  refine lv_iload_n hx hb dX12_setsAs_5 rfl (lv_at hl 1 rfl) ?_
  refine lv_iconst (v := 4) hx hb dX12_setsAs_6 (by decide) ?_
  refine lv_icmp_eq (tgt := 16) hx hb dX12_setsAs_7 (by decide) (fun c => absurd c (by decide)) (fun c => ?_)
  refine lv_iload_n hx hb dX12_setsAs_10 rfl (lv_at hl 1 rfl) ?_
  refine lv_bipush (v := 7) hx hb dX12_setsAs_11 (by decide) ?_
  refine lv_icmp_ne (tgt := 31) hx hb dX12_setsAs_13 (by decide) (fun c => ?_) (fun c => absurd c (by decide))
  refine lv_iload_n hx hb dX12_setsAs_31 rfl (lv_at hl 1 rfl) ?_
  refine lv_bipush (v := 6) hx hb dX12_setsAs_32 (by decide) ?_
  refine lv_icmp_ne (tgt := 52) hx hb dX12_setsAs_34 (by decide) (fun c => ?_) (fun c => absurd c (by decide))
  refine lv_aload_n hx hb dX12_setsAs_52 rfl (lv_at hl 0 rfl) ?_
  refine lv_iconst (v := 1) hx hb dX12_setsAs_53 (by decide) ?_
  have q_2 : (f 0 48).toInt = 3 := (congrArg Int32.toInt (show f 0 48 = 3 from hf_0_48)).trans (by decide)
  have q_3 : (f 0 48).toInt = 3 := (congrArg Int32.toInt (show f 0 48 = 3 from hf_0_48)).trans (by decide)
  refine sg_callv (va_runV (As := [.int 1]) (rest := []) ⟨hx, hb, hml, hown, hts⟩ (kX12_begins_1_f3 l D ca za h hh f L Q hI hf_0_48 (by have k0 : (1 : Int32).toInt = 1 := (by decide); omega) H.size) (cwV 1 hts (gw_V (fun _ h => List.mem_cons_of_mem _ h) mw_734 mw_735 mw_736 mw_619 mw_733) rfl rfl rfl (by decide +kernel) ⟨Nat.le_of_ble_eq_true rfl, Nat.le_of_ble_eq_true rfl⟩) (sg_preV (ci := 12) (C := RX12) (T := TX12) (N := 55) hA hK hP hS hZ 0 (by decide) rfl rfl) rfl rfl hl.1 rfl (lv_room (Nat.le_of_ble_eq_true rfl)) dX12_setsAs_54 ⟨Nat.le_refl _, Nat.le_refl _⟩) hA hS (fun f_4 L_5 Q_6 H locs hq hP hS => ?_)
  obtain ⟨⟨hI, hk_f_4, eL9, eQ9⟩, p_7⟩ := hq
  rw [eL9, eQ9] at hP; clear eL9 eQ9
  have hF : sgK WkX12_setsAs_0_f3_f4 f f_4 := sgK.tr hF hk_f_4 (by decide)
  obtain ⟨v_8, ev_8⟩ : ∃ z : Int32, z = f_4 0 48 := ⟨_, rfl⟩
  have q_9 : 0 ≤ v_8.toInt ∧ v_8.toInt ≤ 19 := by rw [ev_8]; exact hI 0 48
  have q_10 : (f_4 0 48).toInt = v_8.toInt := (congrArg Int32.toInt (show f_4 0 48 = v_8 from ev_8.symm))
  have q_11 : (f_4 0 48).toInt = v_8.toInt := (congrArg Int32.toInt (show f_4 0 48 = v_8 from ev_8.symm))
  refine lv_iload_n hx hb dX12_setsAs_57 rfl (lv_at hl 2 rfl) ?_
  refine lv_aload_n hx hb dX12_setsAs_58 rfl (lv_at hl 0 rfl) ?_
  refine sg_get (ci := 12) (v := .int (f_4 0 50)) (C := RX12) (T := TX12) (N := 55) hx hb hts (fun w h => List.mem_cons_of_mem _ (gx_12 w h)) hown hK hP 0 (by decide) rfl rfl 50 (by decide) (hts _ (List.mem_cons_of_mem _ mw_680)) (fun _ h9 => h9) rfl dX12_setsAs_59 ?_
  refine lv_topi (fun v_12 ev_12 => ?_)
  have q_13 : 0 ≤ v_12.toInt ∧ v_12.toInt ≤ 49 := by rw [ev_12]; exact hI 0 50
  refine lv_iadd hx hb dX12_setsAs_62 ?_
  refine lv_topi (fun v_14 ev_14 => ?_)
  have q_15 : (f_4 0 48).toInt = v_8.toInt := (congrArg Int32.toInt (show f_4 0 48 = v_8 from ev_8.symm))
  have q_16 : (f_4 0 48).toInt = v_8.toInt := (congrArg Int32.toInt (show f_4 0 48 = v_8 from ev_8.symm))
  exact hret _ _ _ _ (v_14) f_4 L Q dX12_setsAs_63 hP hS ⟨⟨hI, hF, rfl, rfl⟩, trivial, (by omega)⟩

abbrev WkX12_setsAs_4_f2_f4 : List (Nat × Nat × Option Nat) := [(0, 0, some 48), (21, 21, none)]
set_option maxHeartbeats 4000000 in
set_option maxRecDepth 100000 in
theorem kX12_setsAs_4_f2_f4 (l : Launch) (D : va_G) (ca : Nat → ClassId) (za h : Nat → Nat) (hh : sgH 26 h) (f : sg_F) (L : sg_L) (Q : sg_Q) (hI : sgI loM hiM f) (x1 : Int32) (hf_0_48 : f 0 48 = 2) (hf_0_49 : f 0 49 = 4) (p0 : 2 ≤ (f 0 48).toInt ∧ (f 0 48).toInt ≤ 2) (sz : Nat) : Met l yX12_setsAs gwX12_setsAs { frames := 2, cells := 0, slots := 0, locals := 43 } (sgP D vwCl (tyX ca) 26 h (eM ca h) zcM za f L Q sz [.ref (h 0), .int 4, .int x1]) (sgQi D vwCl 26 h (eM ca h) sz (fun r f1 L1 Q1 => ((sgI loM hiM f1 ∧ sgK WkX12_setsAs_4_f2_f4 f f1 ∧ L1 = L ∧ Q1 = Q) ∧ True ∧ (4 ≤ (f1 0 48).toInt ∧ (f1 0 48).toInt ≤ 4)))) 0 0 (sgA 26 h sz) := by
  refine sg_ofWi (cc := cX12_setsAs) (maxL := 3) RX12 (by decide) rfl rfl (Nat.le_of_ble_eq_true rfl) ?_
  intro p e s m below meth cd Qz ls hx hb hml hown hts hK hZ hP hS hl hret
  have hA := sgY.self (n := 26) (h := h) (sz := s.heap.size)
  have hl : lv_has ls 3 [(0, .ref (h 0)), (1, .int 4), (2, .int x1)] := hl
  obtain ⟨H, hH⟩ : ∃ z : Heap, z = s.heap := ⟨_, rfl⟩
  obtain ⟨locs, hlo⟩ : ∃ z : List Loc, z = [] := ⟨_, rfl⟩
  have hP : va_P D vwCl (sgw 26 h (eM ca h) f L Q) H := by rw [hH]; exact hP
  have hS : va_S (sgA 26 h s.heap.size) s.heap H locs := by rw [hH, hlo]; exact hS
  suffices hgo : W p l e ({ frames := 2, cells := 0, slots := 0, locals := 43 }) s m ([.ref (h 0), .int 4, .int x1] : List Value).toArray below meth cd H locs 0 0 Qz (F0 m 0 ls []) by rw [hH, hlo] at hgo; exact hgo
  clear hH hlo
  have o_1 : (f 0 48).toInt = 2 := (congrArg Int32.toInt (show f 0 48 = 2 from hf_0_48)).trans (by decide)
  have hF : sgK WkX12_setsAs_4_f2_f4 f f := sgK.rf
  have blk_16 : ∀ (fp_16 : sg_F) (H : Heap) (locs : List Loc) (ls : Array Slot), 2 ≤ (fp_16 0 48).toInt ∧ (fp_16 0 48).toInt ≤ 2 → 4 ≤ (fp_16 0 49).toInt ∧ (fp_16 0 49).toInt ≤ 4 → sgI loM hiM fp_16 → sgK WkX12_setsAs_4_f2_f4 f fp_16 → va_P D vwCl (sgw 26 h (eM ca h) fp_16 L Q) H → va_S (sgA 26 h s.heap.size) s.heap H locs → lv_has ls 3 [(0, .ref (h 0)), (2, .int x1)] → W p l e ({ frames := 2, cells := 0, slots := 0, locals := 43 }) s m ([.ref (h 0), .int 4, .int x1] : List Value).toArray below meth cd H locs 0 0 Qz (F0 m 16 ls []) := by
    intro fp_16 H locs ls hy0_16 hy1_16 hI hF hP hS hl
    obtain ⟨v_2, ev_2⟩ : ∃ z : Int32, z = fp_16 0 48 := ⟨_, rfl⟩
    have q_3 : 0 ≤ v_2.toInt ∧ v_2.toInt ≤ 19 := by rw [ev_2]; exact hI 0 48
    have q_4 : (fp_16 0 48).toInt = v_2.toInt := by rw [ev_2]
    obtain ⟨v_5, ev_5⟩ : ∃ z : Int32, z = fp_16 0 49 := ⟨_, rfl⟩
    have q_6 : 0 ≤ v_5.toInt ∧ v_5.toInt ≤ 7 := by rw [ev_5]; exact hI 0 49
    have q_7 : (fp_16 0 49).toInt = v_5.toInt := by rw [ev_5]
    have m_8 : fp_16 0 49 = 4 := (hF 0 49 (by decide)).trans hf_0_49
    refine lv_aload_n hx hb dX12_setsAs_16 rfl (lv_at hl 0 rfl) ?_
    refine lv_bipush (v := 20) hx hb dX12_setsAs_17 (by decide) ?_
    have c_9 : v_2 = 2 := Int32.toInt_inj.mp (by have k9 : (2 : Int32).toInt = 2 := (by decide); omega)
    have q_10 : (fp_16 0 48).toInt = 2 := (congrArg Int32.toInt (show fp_16 0 48 = 2 from (Eq.trans ev_2.symm c_9))).trans (by decide)
    have q_11 : (fp_16 0 48).toInt = 2 := (congrArg Int32.toInt (show fp_16 0 48 = 2 from (Eq.trans ev_2.symm c_9))).trans (by decide)
    refine sg_callv (va_runV (As := [.int 20]) (rest := []) ⟨hx, hb, hml, hown, hts⟩ (kX12_begins_20_f2 l D ca za h hh fp_16 L Q hI (Eq.trans ev_2.symm c_9) (by have k0 : (20 : Int32).toInt = 20 := (by decide); omega) H.size) (cwV 1 hts (gw_V (fun _ h => List.mem_cons_of_mem _ h) mw_734 mw_735 mw_736 mw_619 mw_733) rfl rfl rfl (by decide +kernel) ⟨Nat.le_of_ble_eq_true rfl, Nat.le_of_ble_eq_true rfl⟩) (sg_preV (ci := 12) (C := RX12) (T := TX12) (N := 55) hA hK hP hS hZ 0 (by decide) rfl rfl) rfl rfl hl.1 rfl (lv_room (Nat.le_of_ble_eq_true rfl)) dX12_setsAs_19 ⟨Nat.le_refl _, Nat.le_refl _⟩) hA hS (fun f_12 L_13 Q_14 H locs hq hP hS => ?_)
    obtain ⟨⟨hI, hk_f_12, eL9, eQ9⟩, p_15⟩ := hq
    rw [eL9, eQ9] at hP; clear eL9 eQ9
    have hF : sgK WkX12_setsAs_4_f2_f4 f f_12 := sgK.tr hF hk_f_12 (by decide)
    obtain ⟨v_16, ev_16⟩ : ∃ z : Int32, z = f_12 0 48 := ⟨_, rfl⟩
    have q_17 : 0 ≤ v_16.toInt ∧ v_16.toInt ≤ 19 := by rw [ev_16]; exact hI 0 48
    have q_18 : (f_12 0 48).toInt = v_16.toInt := (congrArg Int32.toInt (show f_12 0 48 = v_16 from ev_16.symm))
    have q_19 : (f_12 0 48).toInt = v_16.toInt := (congrArg Int32.toInt (show f_12 0 48 = v_16 from ev_16.symm))
    refine lv_aload_n hx hb dX12_setsAs_22 rfl (lv_at hl 0 rfl) ?_
    refine lv_iconst (v := 0) hx hb dX12_setsAs_23 (by decide) ?_
    refine lv_iload_n hx hb dX12_setsAs_24 rfl (lv_at hl 1 rfl) ?_
    have c_20 : v_16 = 3 := Int32.toInt_inj.mp (by have k9 : (3 : Int32).toInt = 3 := (by decide); omega)
    have q_21 : (f_12 0 48).toInt = 3 := (congrArg Int32.toInt (show f_12 0 48 = 3 from (Eq.trans ev_16.symm c_20))).trans (by decide)
    have q_22 : (f_12 0 48).toInt = 3 := (congrArg Int32.toInt (show f_12 0 48 = 3 from (Eq.trans ev_16.symm c_20))).trans (by decide)
    refine sg_calli (va_runV (As := [.int 0, .int x1]) (rest := []) ⟨hx, hb, hml, hown, hts⟩ (kX12_setsAs_0_f3_f4 l D ca za h hh f_12 L Q hI x1 (Eq.trans ev_16.symm c_20) ((hk_f_12 0 49 (by decide)).trans m_8) (by have k0 : (0 : Int32).toInt = 0 := (by decide); omega) H.size) (cwV 2 hts (gw_V (fun _ h => List.mem_cons_of_mem _ h) mw_744 mw_745 mw_746 mw_619 mw_743) rfl rfl rfl (by decide +kernel) ⟨Nat.le_of_ble_eq_true rfl, Nat.le_of_ble_eq_true rfl⟩) (sg_preV (ci := 12) (C := RX12) (T := TX12) (N := 55) hA hK hP hS hZ 0 (by decide) rfl rfl) rfl rfl hl.1 rfl (lv_room (Nat.le_of_ble_eq_true rfl)) dX12_setsAs_25 ⟨Nat.le_refl _, Nat.le_refl _⟩) hA hS (fun r_26 f_23 L_24 Q_25 H locs hq hP hS => ?_)
    obtain ⟨⟨hI, hk_f_23, eL9, eQ9⟩, hq, p_27⟩ := hq
    rw [eL9, eQ9] at hP; clear eL9 eQ9
    have hF : sgK WkX12_setsAs_4_f2_f4 f f_23 := sgK.tr hF hk_f_23 (by decide)
    obtain ⟨v_28, ev_28⟩ : ∃ z : Int32, z = f_23 0 48 := ⟨_, rfl⟩
    have q_29 : 0 ≤ v_28.toInt ∧ v_28.toInt ≤ 19 := by rw [ev_28]; exact hI 0 48
    have q_30 : (f_23 0 48).toInt = v_28.toInt := (congrArg Int32.toInt (show f_23 0 48 = v_28 from ev_28.symm))
    have q_31 : (f_23 0 48).toInt = v_28.toInt := (congrArg Int32.toInt (show f_23 0 48 = v_28 from ev_28.symm))
    have k_32 : (0 : Int32).toInt = 0 := by decide
    refine lv_iconst (v := 3) hx hb dX12_setsAs_28 (by decide) ?_
    refine lv_iadd hx hb dX12_setsAs_29 ?_
    refine lv_topi (fun v_33 ev_33 => ?_)
    have q_34 : (f_23 0 48).toInt = v_28.toInt := (congrArg Int32.toInt (show f_23 0 48 = v_28 from ev_28.symm))
    have q_35 : (f_23 0 48).toInt = v_28.toInt := (congrArg Int32.toInt (show f_23 0 48 = v_28 from ev_28.symm))
    exact hret _ _ _ _ (v_33) f_23 L Q dX12_setsAs_30 hP hS ⟨⟨hI, hF, rfl, rfl⟩, trivial, (by omega)⟩
  refine lv_iload_n hx hb dX12_setsAs_0 rfl (lv_at hl 1 rfl) ?_
  refine lv_iconst (v := 1) hx hb dX12_setsAs_1 (by decide) ?_
  refine lv_icmp_eq (tgt := 16) hx hb dX12_setsAs_2 (by decide) (fun c => absurd c (by decide)) (fun c => ?_)
  refine lv_iload_n hx hb dX12_setsAs_5 rfl (lv_at hl 1 rfl) ?_
  refine lv_iconst (v := 4) hx hb dX12_setsAs_6 (by decide) ?_
  refine lv_icmp_eq (tgt := 16) hx hb dX12_setsAs_7 (by decide) (fun c => ?_) (fun c => absurd c (by decide))
  exact blk_16 f _ _ _ (by have zz0_48 : (f 0 48).toInt = 2 := (congrArg Int32.toInt (show f 0 48 = 2 from hf_0_48)).trans (by decide); omega) (by have zz0_49 : (f 0 49).toInt = 4 := (congrArg Int32.toInt (show f 0 49 = 4 from hf_0_49)).trans (by decide); omega) hI hF hP hS (lv_sub hl [0, 2] rfl)

abbrev WkX12_slipsAs_4_f0_f4 : List (Nat × Nat × Option Nat) := [(0, 0, some 48), (21, 21, none)]
set_option maxHeartbeats 4000000 in
set_option maxRecDepth 100000 in
theorem kX12_slipsAs_4_f0_f4 (l : Launch) (D : va_G) (ca : Nat → ClassId) (za h : Nat → Nat) (hh : sgH 26 h) (f : sg_F) (L : sg_L) (Q : sg_Q) (hI : sgI loM hiM f) (x1 : Int32) (hf_0_48 : f 0 48 = 0) (hf_0_49 : f 0 49 = 4) (p0 : 0 ≤ (f 0 48).toInt ∧ (f 0 48).toInt ≤ 0) (sz : Nat) : Met l yX12_slipsAs gwX12_slipsAs { frames := 3, cells := 0, slots := 0, locals := 65 } (sgP D vwCl (tyX ca) 26 h (eM ca h) zcM za f L Q sz [.ref (h 0), .int 4, .int x1]) (sgQi D vwCl 26 h (eM ca h) sz (fun r f1 L1 Q1 => ((sgI loM hiM f1 ∧ sgK WkX12_slipsAs_4_f0_f4 f f1 ∧ L1 = L ∧ Q1 = Q) ∧ True ∧ (4 ≤ (f1 0 48).toInt ∧ (f1 0 48).toInt ≤ 4)))) 0 0 (sgA 26 h sz) := by
  refine sg_ofWi (cc := cX12_slipsAs) (maxL := 4) RX12 (by decide) rfl rfl (Nat.le_of_ble_eq_true rfl) ?_
  intro p e s m below meth cd Qz ls hx hb hml hown hts hK hZ hP hS hl hret
  have hA := sgY.self (n := 26) (h := h) (sz := s.heap.size)
  have hl : lv_has ls 4 [(0, .ref (h 0)), (1, .int 4), (2, .int x1)] := hl
  obtain ⟨H, hH⟩ : ∃ z : Heap, z = s.heap := ⟨_, rfl⟩
  obtain ⟨locs, hlo⟩ : ∃ z : List Loc, z = [] := ⟨_, rfl⟩
  have hP : va_P D vwCl (sgw 26 h (eM ca h) f L Q) H := by rw [hH]; exact hP
  have hS : va_S (sgA 26 h s.heap.size) s.heap H locs := by rw [hH, hlo]; exact hS
  suffices hgo : W p l e ({ frames := 3, cells := 0, slots := 0, locals := 65 }) s m ([.ref (h 0), .int 4, .int x1] : List Value).toArray below meth cd H locs 0 0 Qz (F0 m 0 ls []) by rw [hH, hlo] at hgo; exact hgo
  clear hH hlo
  have o_1 : (f 0 48).toInt = 0 := (congrArg Int32.toInt (show f 0 48 = 0 from hf_0_48)).trans (by decide)
  have hF : sgK WkX12_slipsAs_4_f0_f4 f f := sgK.rf
  have blk_36 : ∀ (fp_36 : sg_F) (H : Heap) (locs : List Loc) (ls : Array Slot), 0 ≤ (fp_36 0 48).toInt ∧ (fp_36 0 48).toInt ≤ 0 → 4 ≤ (fp_36 0 49).toInt ∧ (fp_36 0 49).toInt ≤ 4 → sgI loM hiM fp_36 → sgK WkX12_slipsAs_4_f0_f4 f fp_36 → va_P D vwCl (sgw 26 h (eM ca h) fp_36 L Q) H → va_S (sgA 26 h s.heap.size) s.heap H locs → lv_has ls 4 [(0, .ref (h 0)), (2, .int x1)] → W p l e ({ frames := 3, cells := 0, slots := 0, locals := 65 }) s m ([.ref (h 0), .int 4, .int x1] : List Value).toArray below meth cd H locs 0 0 Qz (F0 m 36 ls []) := by
    intro fp_36 H locs ls hy0_36 hy1_36 hI hF hP hS hl
    obtain ⟨v_2, ev_2⟩ : ∃ z : Int32, z = fp_36 0 48 := ⟨_, rfl⟩
    have q_3 : 0 ≤ v_2.toInt ∧ v_2.toInt ≤ 19 := by rw [ev_2]; exact hI 0 48
    have q_4 : (fp_36 0 48).toInt = v_2.toInt := by rw [ev_2]
    obtain ⟨v_5, ev_5⟩ : ∃ z : Int32, z = fp_36 0 49 := ⟨_, rfl⟩
    have q_6 : 0 ≤ v_5.toInt ∧ v_5.toInt ≤ 7 := by rw [ev_5]; exact hI 0 49
    have q_7 : (fp_36 0 49).toInt = v_5.toInt := by rw [ev_5]
    have m_8 : fp_36 0 49 = 4 := (hF 0 49 (by decide)).trans hf_0_49
    refine lv_aload_n hx hb dX12_slipsAs_36 rfl (lv_at hl 0 rfl) ?_
    refine lv_bipush (v := 50) hx hb dX12_slipsAs_37 (by decide) ?_
    have c_9 : v_2 = 0 := Int32.toInt_inj.mp (by have k9 : (0 : Int32).toInt = 0 := (by decide); omega)
    have q_10 : (fp_36 0 48).toInt = 0 := (congrArg Int32.toInt (show fp_36 0 48 = 0 from (Eq.trans ev_2.symm c_9))).trans (by decide)
    have q_11 : (fp_36 0 48).toInt = 0 := (congrArg Int32.toInt (show fp_36 0 48 = 0 from (Eq.trans ev_2.symm c_9))).trans (by decide)
    refine sg_callv (va_runV (As := [.int 50]) (rest := []) ⟨hx, hb, hml, hown, hts⟩ (kX12_begins_50_f0 l D ca za h hh fp_36 L Q hI (Eq.trans ev_2.symm c_9) (by have k0 : (50 : Int32).toInt = 50 := (by decide); omega) H.size) (cwV 1 hts (gw_V (fun _ h => List.mem_cons_of_mem _ h) mw_734 mw_735 mw_736 mw_619 mw_733) rfl rfl rfl (by decide +kernel) ⟨Nat.le_of_ble_eq_true rfl, Nat.le_of_ble_eq_true rfl⟩) (sg_preV (ci := 12) (C := RX12) (T := TX12) (N := 55) hA hK hP hS hZ 0 (by decide) rfl rfl) rfl rfl hl.1 rfl (lv_room (Nat.le_of_ble_eq_true rfl)) dX12_slipsAs_39 ⟨Nat.le_refl _, Nat.le_refl _⟩) hA hS (fun f_12 L_13 Q_14 H locs hq hP hS => ?_)
    obtain ⟨⟨hI, hk_f_12, eL9, eQ9⟩, p_15⟩ := hq
    rw [eL9, eQ9] at hP; clear eL9 eQ9
    have hF : sgK WkX12_slipsAs_4_f0_f4 f f_12 := sgK.tr hF hk_f_12 (by decide)
    obtain ⟨v_16, ev_16⟩ : ∃ z : Int32, z = f_12 0 48 := ⟨_, rfl⟩
    have q_17 : 0 ≤ v_16.toInt ∧ v_16.toInt ≤ 19 := by rw [ev_16]; exact hI 0 48
    have q_18 : (f_12 0 48).toInt = v_16.toInt := (congrArg Int32.toInt (show f_12 0 48 = v_16 from ev_16.symm))
    have q_19 : (f_12 0 48).toInt = v_16.toInt := (congrArg Int32.toInt (show f_12 0 48 = v_16 from ev_16.symm))
    refine lv_aload_n hx hb dX12_slipsAs_42 rfl (lv_at hl 0 rfl) ?_
    refine lv_iconst (v := 1) hx hb dX12_slipsAs_43 (by decide) ?_
    refine lv_iload_n hx hb dX12_slipsAs_44 rfl (lv_at hl 1 rfl) ?_
    have c_20 : v_16 = 1 := Int32.toInt_inj.mp (by have k9 : (1 : Int32).toInt = 1 := (by decide); omega)
    have q_21 : (f_12 0 48).toInt = 1 := (congrArg Int32.toInt (show f_12 0 48 = 1 from (Eq.trans ev_16.symm c_20))).trans (by decide)
    have q_22 : (f_12 0 48).toInt = 1 := (congrArg Int32.toInt (show f_12 0 48 = 1 from (Eq.trans ev_16.symm c_20))).trans (by decide)
    refine sg_calli (va_runV (As := [.int 1, .int x1]) (rest := []) ⟨hx, hb, hml, hown, hts⟩ (kX12_slipsAs_1_f1_f4 l D ca za h hh f_12 L Q hI x1 (Eq.trans ev_16.symm c_20) ((hk_f_12 0 49 (by decide)).trans m_8) (by have k0 : (1 : Int32).toInt = 1 := (by decide); omega) H.size) (cwV 2 hts (gw_V (fun _ h => List.mem_cons_of_mem _ h) mw_748 mw_749 mw_750 mw_619 mw_747) rfl rfl rfl (by decide +kernel) ⟨Nat.le_of_ble_eq_true rfl, Nat.le_of_ble_eq_true rfl⟩) (sg_preV (ci := 12) (C := RX12) (T := TX12) (N := 55) hA hK hP hS hZ 0 (by decide) rfl rfl) rfl rfl hl.1 rfl (lv_room (Nat.le_of_ble_eq_true rfl)) dX12_slipsAs_45 ⟨Nat.le_refl _, Nat.le_refl _⟩) hA hS (fun r_26 f_23 L_24 Q_25 H locs hq hP hS => ?_)
    obtain ⟨⟨hI, hk_f_23, eL9, eQ9⟩, hq, p_27⟩ := hq
    rw [eL9, eQ9] at hP; clear eL9 eQ9
    have hF : sgK WkX12_slipsAs_4_f0_f4 f f_23 := sgK.tr hF hk_f_23 (by decide)
    obtain ⟨v_28, ev_28⟩ : ∃ z : Int32, z = f_23 0 48 := ⟨_, rfl⟩
    have q_29 : 0 ≤ v_28.toInt ∧ v_28.toInt ≤ 19 := by rw [ev_28]; exact hI 0 48
    have q_30 : (f_23 0 48).toInt = v_28.toInt := (congrArg Int32.toInt (show f_23 0 48 = v_28 from ev_28.symm))
    have q_31 : (f_23 0 48).toInt = v_28.toInt := (congrArg Int32.toInt (show f_23 0 48 = v_28 from ev_28.symm))
    have k_32 : (1 : Int32).toInt = 1 := by decide
    refine lv_istore_n (lv' := [(3, .int r_26), (0, .ref (h 0)), (2, .int x1)]) hx hb dX12_slipsAs_48 rfl hl (by decide) rfl (fun ls hl => ?_)
    refine lv_iload_n hx hb dX12_slipsAs_49 rfl (lv_at hl 0 rfl) ?_
    refine lv_aload_n hx hb dX12_slipsAs_50 rfl (lv_at hl 1 rfl) ?_
    refine lv_aload_n hx hb dX12_slipsAs_51 rfl (lv_at hl 1 rfl) ?_
    refine sg_get (ci := 12) (v := .int 4) (C := RX12) (T := TX12) (N := 55) hx hb hts (fun w h => List.mem_cons_of_mem _ (gx_12 w h)) hown hK hP 0 (by decide) rfl rfl 49 (by decide) (hts _ (List.mem_cons_of_mem _ mw_679)) (fun _ h9 => h9) (congrArg (fun z => some (Value.int z)) (show f_23 0 49 = 4 from ((hk_f_23 0 49 (by decide)).trans ((hk_f_12 0 49 (by decide)).trans m_8)))) dX12_slipsAs_52 ?_
    refine lv_iconst (v := 2) hx hb dX12_slipsAs_55 (by decide) ?_
    have c_33 : v_28 = 2 := Int32.toInt_inj.mp (by have k9 : (2 : Int32).toInt = 2 := (by decide); omega)
    have q_34 : (f_23 0 48).toInt = 2 := (congrArg Int32.toInt (show f_23 0 48 = 2 from (Eq.trans ev_28.symm c_33))).trans (by decide)
    have q_35 : (f_23 0 48).toInt = 2 := (congrArg Int32.toInt (show f_23 0 48 = 2 from (Eq.trans ev_28.symm c_33))).trans (by decide)
    refine sg_calli (va_runV (As := [.int 4, .int 2]) (rest := [.int r_26]) ⟨hx, hb, hml, hown, hts⟩ (kX12_setsAs_4_f2_f4 l D ca za h hh f_23 L Q hI 2 (Eq.trans ev_28.symm c_33) ((hk_f_23 0 49 (by decide)).trans ((hk_f_12 0 49 (by decide)).trans m_8)) (by have k0 : (4 : Int32).toInt = 4 := (by decide); have k1 : (2 : Int32).toInt = 2 := (by decide); omega) H.size) (cwV 2 hts (gw_V (fun _ h => List.mem_cons_of_mem _ h) mw_744 mw_745 mw_746 mw_619 mw_743) rfl rfl rfl (by decide +kernel) ⟨Nat.le_of_ble_eq_true rfl, Nat.le_of_ble_eq_true rfl⟩) (sg_preV (ci := 12) (C := RX12) (T := TX12) (N := 55) hA hK hP hS hZ 0 (by decide) rfl rfl) rfl rfl hl.1 rfl (lv_room (Nat.le_of_ble_eq_true rfl)) dX12_slipsAs_56 ⟨Nat.le_refl _, Nat.le_refl _⟩) hA hS (fun r_39 f_36 L_37 Q_38 H locs hq hP hS => ?_)
    obtain ⟨⟨hI, hk_f_36, eL9, eQ9⟩, hq, p_40⟩ := hq
    rw [eL9, eQ9] at hP; clear eL9 eQ9
    have hF : sgK WkX12_slipsAs_4_f0_f4 f f_36 := sgK.tr hF hk_f_36 (by decide)
    obtain ⟨v_41, ev_41⟩ : ∃ z : Int32, z = f_36 0 48 := ⟨_, rfl⟩
    have q_42 : 0 ≤ v_41.toInt ∧ v_41.toInt ≤ 19 := by rw [ev_41]; exact hI 0 48
    have q_43 : (f_36 0 48).toInt = v_41.toInt := (congrArg Int32.toInt (show f_36 0 48 = v_41 from ev_41.symm))
    have q_44 : (f_36 0 48).toInt = v_41.toInt := (congrArg Int32.toInt (show f_36 0 48 = v_41 from ev_41.symm))
    have k_45 : (4 : Int32).toInt = 4 := by decide
    have k_46 : (2 : Int32).toInt = 2 := by decide
    refine lv_isub hx hb dX12_slipsAs_59 ?_
    refine lv_topi (fun v_47 ev_47 => ?_)
    have q_48 : (f_36 0 48).toInt = v_41.toInt := (congrArg Int32.toInt (show f_36 0 48 = v_41 from ev_41.symm))
    have q_49 : (f_36 0 48).toInt = v_41.toInt := (congrArg Int32.toInt (show f_36 0 48 = v_41 from ev_41.symm))
    exact hret _ _ _ _ (v_47) f_36 L Q dX12_slipsAs_60 hP hS ⟨⟨hI, hF, rfl, rfl⟩, trivial, (by omega)⟩
  refine lv_iload_n hx hb dX12_slipsAs_0 rfl (lv_at hl 1 rfl) ?_
  refine lv_iconst (v := 3) hx hb dX12_slipsAs_1 (by decide) ?_
  refine lv_icmp_eq (tgt := 10) hx hb dX12_slipsAs_2 (by decide) (fun c => absurd c (by decide)) (fun c => ?_)
  refine lv_iload_n hx hb dX12_slipsAs_5 rfl (lv_at hl 1 rfl) ?_
  refine lv_iconst (v := 5) hx hb dX12_slipsAs_6 (by decide) ?_
  refine lv_icmp_ne (tgt := 25) hx hb dX12_slipsAs_7 (by decide) (fun c => ?_) (fun c => absurd c (by decide))
  refine lv_iload_n hx hb dX12_slipsAs_25 rfl (lv_at hl 1 rfl) ?_
  refine lv_iconst (v := 4) hx hb dX12_slipsAs_26 (by decide) ?_
  refine lv_icmp_eq (tgt := 36) hx hb dX12_slipsAs_27 (by decide) (fun c => ?_) (fun c => absurd c (by decide))
  exact blk_36 f _ _ _ (by have zz0_48 : (f 0 48).toInt = 0 := (congrArg Int32.toInt (show f 0 48 = 0 from hf_0_48)).trans (by decide); omega) (by have zz0_49 : (f 0 49).toInt = 4 := (congrArg Int32.toInt (show f 0 49 = 4 from hf_0_49)).trans (by decide); omega) hI hF hP hS (lv_sub hl [0, 2] rfl)

abbrev WkX12_slipsAs_2_f1_f5 : List (Nat × Nat × Option Nat) := [(0, 0, some 48), (21, 21, none)]
set_option maxHeartbeats 4000000 in
set_option maxRecDepth 100000 in
theorem kX12_slipsAs_2_f1_f5 (l : Launch) (D : va_G) (ca : Nat → ClassId) (za h : Nat → Nat) (hh : sgH 26 h) (f : sg_F) (L : sg_L) (Q : sg_Q) (hI : sgI loM hiM f) (x1 : Int32) (hf_0_48 : f 0 48 = 1) (hf_0_49 : f 0 49 = 5) (p0 : 1 ≤ (f 0 48).toInt ∧ (f 0 48).toInt ≤ 1) (sz : Nat) : Met l yX12_slipsAs gwX12_slipsAs { frames := 1, cells := 0, slots := 0, locals := 21 } (sgP D vwCl (tyX ca) 26 h (eM ca h) zcM za f L Q sz [.ref (h 0), .int 2, .int x1]) (sgQi D vwCl 26 h (eM ca h) sz (fun r f1 L1 Q1 => ((sgI loM hiM f1 ∧ sgK WkX12_slipsAs_2_f1_f5 f f1 ∧ L1 = L ∧ Q1 = Q) ∧ True ∧ (2 ≤ (f1 0 48).toInt ∧ (f1 0 48).toInt ≤ 2)))) 0 0 (sgA 26 h sz) := by
  refine sg_ofWi (cc := cX12_slipsAs) (maxL := 4) RX12 (by decide) rfl rfl (Nat.le_of_ble_eq_true rfl) ?_
  intro p e s m below meth cd Qz ls hx hb hml hown hts hK hZ hP hS hl hret
  have hA := sgY.self (n := 26) (h := h) (sz := s.heap.size)
  have hl : lv_has ls 4 [(0, .ref (h 0)), (1, .int 2), (2, .int x1)] := hl
  obtain ⟨H, hH⟩ : ∃ z : Heap, z = s.heap := ⟨_, rfl⟩
  obtain ⟨locs, hlo⟩ : ∃ z : List Loc, z = [] := ⟨_, rfl⟩
  have hP : va_P D vwCl (sgw 26 h (eM ca h) f L Q) H := by rw [hH]; exact hP
  have hS : va_S (sgA 26 h s.heap.size) s.heap H locs := by rw [hH, hlo]; exact hS
  suffices hgo : W p l e ({ frames := 1, cells := 0, slots := 0, locals := 21 }) s m ([.ref (h 0), .int 2, .int x1] : List Value).toArray below meth cd H locs 0 0 Qz (F0 m 0 ls []) by rw [hH, hlo] at hgo; exact hgo
  clear hH hlo
  have o_1 : (f 0 48).toInt = 1 := (congrArg Int32.toInt (show f 0 48 = 1 from hf_0_48)).trans (by decide)
  have hF : sgK WkX12_slipsAs_2_f1_f5 f f := sgK.rf
  refine lv_iload_n hx hb dX12_slipsAs_0 rfl (lv_at hl 1 rfl) ?_
  refine lv_iconst (v := 3) hx hb dX12_slipsAs_1 (by decide) ?_
  refine lv_icmp_eq (tgt := 10) hx hb dX12_slipsAs_2 (by decide) (fun c => absurd c (by decide)) (fun c => ?_)
  refine lv_iload_n hx hb dX12_slipsAs_5 rfl (lv_at hl 1 rfl) ?_
  refine lv_iconst (v := 5) hx hb dX12_slipsAs_6 (by decide) ?_
  refine lv_icmp_ne (tgt := 25) hx hb dX12_slipsAs_7 (by decide) (fun c => ?_) (fun c => absurd c (by decide))
  refine lv_iload_n hx hb dX12_slipsAs_25 rfl (lv_at hl 1 rfl) ?_
  refine lv_iconst (v := 4) hx hb dX12_slipsAs_26 (by decide) ?_
  refine lv_icmp_eq (tgt := 36) hx hb dX12_slipsAs_27 (by decide) (fun c => absurd c (by decide)) (fun c => ?_)
  refine lv_iload_n hx hb dX12_slipsAs_30 rfl (lv_at hl 1 rfl) ?_
  refine lv_bipush (v := 7) hx hb dX12_slipsAs_31 (by decide) ?_
  refine lv_icmp_ne (tgt := 61) hx hb dX12_slipsAs_33 (by decide) (fun c => ?_) (fun c => absurd c (by decide))
  refine lv_aload_n hx hb dX12_slipsAs_61 rfl (lv_at hl 0 rfl) ?_
  refine lv_bipush (v := 11) hx hb dX12_slipsAs_62 (by decide) ?_
  have q_2 : (f 0 48).toInt = 1 := (congrArg Int32.toInt (show f 0 48 = 1 from hf_0_48)).trans (by decide)
  have q_3 : (f 0 48).toInt = 1 := (congrArg Int32.toInt (show f 0 48 = 1 from hf_0_48)).trans (by decide)
  refine sg_callv (va_runV (As := [.int 11]) (rest := []) ⟨hx, hb, hml, hown, hts⟩ (kX12_begins_11_f1 l D ca za h hh f L Q hI hf_0_48 (by have k0 : (11 : Int32).toInt = 11 := (by decide); omega) H.size) (cwV 1 hts (gw_V (fun _ h => List.mem_cons_of_mem _ h) mw_734 mw_735 mw_736 mw_619 mw_733) rfl rfl rfl (by decide +kernel) ⟨Nat.le_of_ble_eq_true rfl, Nat.le_of_ble_eq_true rfl⟩) (sg_preV (ci := 12) (C := RX12) (T := TX12) (N := 55) hA hK hP hS hZ 0 (by decide) rfl rfl) rfl rfl hl.1 rfl (lv_room (Nat.le_of_ble_eq_true rfl)) dX12_slipsAs_64 ⟨Nat.le_refl _, Nat.le_refl _⟩) hA hS (fun f_4 L_5 Q_6 H locs hq hP hS => ?_)
  obtain ⟨⟨hI, hk_f_4, eL9, eQ9⟩, p_7⟩ := hq
  rw [eL9, eQ9] at hP; clear eL9 eQ9
  have hF : sgK WkX12_slipsAs_2_f1_f5 f f_4 := sgK.tr hF hk_f_4 (by decide)
  obtain ⟨v_8, ev_8⟩ : ∃ z : Int32, z = f_4 0 48 := ⟨_, rfl⟩
  have q_9 : 0 ≤ v_8.toInt ∧ v_8.toInt ≤ 19 := by rw [ev_8]; exact hI 0 48
  have q_10 : (f_4 0 48).toInt = v_8.toInt := (congrArg Int32.toInt (show f_4 0 48 = v_8 from ev_8.symm))
  have q_11 : (f_4 0 48).toInt = v_8.toInt := (congrArg Int32.toInt (show f_4 0 48 = v_8 from ev_8.symm))
  refine lv_iload_n hx hb dX12_slipsAs_67 rfl (lv_at hl 2 rfl) ?_
  refine lv_aload_n hx hb dX12_slipsAs_68 rfl (lv_at hl 0 rfl) ?_
  refine sg_get (ci := 12) (v := .int (f_4 0 50)) (C := RX12) (T := TX12) (N := 55) hx hb hts (fun w h => List.mem_cons_of_mem _ (gx_12 w h)) hown hK hP 0 (by decide) rfl rfl 50 (by decide) (hts _ (List.mem_cons_of_mem _ mw_680)) (fun _ h9 => h9) rfl dX12_slipsAs_69 ?_
  refine lv_topi (fun v_12 ev_12 => ?_)
  have q_13 : 0 ≤ v_12.toInt ∧ v_12.toInt ≤ 49 := by rw [ev_12]; exact hI 0 50
  refine lv_ixor hx hb dX12_slipsAs_72 ?_
  refine lv_topi (fun v_14 ev_14 => ?_)
  have q_15 : (f_4 0 48).toInt = v_8.toInt := (congrArg Int32.toInt (show f_4 0 48 = v_8 from ev_8.symm))
  have q_16 : (f_4 0 48).toInt = v_8.toInt := (congrArg Int32.toInt (show f_4 0 48 = v_8 from ev_8.symm))
  exact hret _ _ _ _ (v_14) f_4 L Q dX12_slipsAs_73 hP hS ⟨⟨hI, hF, rfl, rfl⟩, trivial, (by omega)⟩

abbrev WkX12_slipsAs_5_f0_f5 : List (Nat × Nat × Option Nat) := [(0, 0, some 48), (21, 21, none)]
set_option maxHeartbeats 4000000 in
set_option maxRecDepth 100000 in
theorem kX12_slipsAs_5_f0_f5 (l : Launch) (D : va_G) (ca : Nat → ClassId) (za h : Nat → Nat) (hh : sgH 26 h) (f : sg_F) (L : sg_L) (Q : sg_Q) (hI : sgI loM hiM f) (x1 : Int32) (hf_0_48 : f 0 48 = 0) (hf_0_49 : f 0 49 = 5) (p0 : 0 ≤ (f 0 48).toInt ∧ (f 0 48).toInt ≤ 0) (sz : Nat) : Met l yX12_slipsAs gwX12_slipsAs { frames := 2, cells := 0, slots := 0, locals := 44 } (sgP D vwCl (tyX ca) 26 h (eM ca h) zcM za f L Q sz [.ref (h 0), .int 5, .int x1]) (sgQi D vwCl 26 h (eM ca h) sz (fun r f1 L1 Q1 => ((sgI loM hiM f1 ∧ sgK WkX12_slipsAs_5_f0_f5 f f1 ∧ L1 = L ∧ Q1 = Q) ∧ True ∧ (2 ≤ (f1 0 48).toInt ∧ (f1 0 48).toInt ≤ 2)))) 0 0 (sgA 26 h sz) := by
  refine sg_ofWi (cc := cX12_slipsAs) (maxL := 4) RX12 (by decide) rfl rfl (Nat.le_of_ble_eq_true rfl) ?_
  intro p e s m below meth cd Qz ls hx hb hml hown hts hK hZ hP hS hl hret
  have hA := sgY.self (n := 26) (h := h) (sz := s.heap.size)
  have hl : lv_has ls 4 [(0, .ref (h 0)), (1, .int 5), (2, .int x1)] := hl
  obtain ⟨H, hH⟩ : ∃ z : Heap, z = s.heap := ⟨_, rfl⟩
  obtain ⟨locs, hlo⟩ : ∃ z : List Loc, z = [] := ⟨_, rfl⟩
  have hP : va_P D vwCl (sgw 26 h (eM ca h) f L Q) H := by rw [hH]; exact hP
  have hS : va_S (sgA 26 h s.heap.size) s.heap H locs := by rw [hH, hlo]; exact hS
  suffices hgo : W p l e ({ frames := 2, cells := 0, slots := 0, locals := 44 }) s m ([.ref (h 0), .int 5, .int x1] : List Value).toArray below meth cd H locs 0 0 Qz (F0 m 0 ls []) by rw [hH, hlo] at hgo; exact hgo
  clear hH hlo
  have o_1 : (f 0 48).toInt = 0 := (congrArg Int32.toInt (show f 0 48 = 0 from hf_0_48)).trans (by decide)
  have hF : sgK WkX12_slipsAs_5_f0_f5 f f := sgK.rf
  have blk_10 : ∀ (fp_10 : sg_F) (H : Heap) (locs : List Loc) (ls : Array Slot), 0 ≤ (fp_10 0 48).toInt ∧ (fp_10 0 48).toInt ≤ 0 → 5 ≤ (fp_10 0 49).toInt ∧ (fp_10 0 49).toInt ≤ 5 → sgI loM hiM fp_10 → sgK WkX12_slipsAs_5_f0_f5 f fp_10 → va_P D vwCl (sgw 26 h (eM ca h) fp_10 L Q) H → va_S (sgA 26 h s.heap.size) s.heap H locs → lv_has ls 4 [(0, .ref (h 0)), (2, .int x1)] → W p l e ({ frames := 2, cells := 0, slots := 0, locals := 44 }) s m ([.ref (h 0), .int 5, .int x1] : List Value).toArray below meth cd H locs 0 0 Qz (F0 m 10 ls []) := by
    intro fp_10 H locs ls hy0_10 hy1_10 hI hF hP hS hl
    obtain ⟨v_2, ev_2⟩ : ∃ z : Int32, z = fp_10 0 48 := ⟨_, rfl⟩
    have q_3 : 0 ≤ v_2.toInt ∧ v_2.toInt ≤ 19 := by rw [ev_2]; exact hI 0 48
    have q_4 : (fp_10 0 48).toInt = v_2.toInt := by rw [ev_2]
    obtain ⟨v_5, ev_5⟩ : ∃ z : Int32, z = fp_10 0 49 := ⟨_, rfl⟩
    have q_6 : 0 ≤ v_5.toInt ∧ v_5.toInt ≤ 7 := by rw [ev_5]; exact hI 0 49
    have q_7 : (fp_10 0 49).toInt = v_5.toInt := by rw [ev_5]
    have m_8 : fp_10 0 49 = 5 := (hF 0 49 (by decide)).trans hf_0_49
    refine lv_aload_n hx hb dX12_slipsAs_10 rfl (lv_at hl 0 rfl) ?_
    refine lv_bipush (v := 40) hx hb dX12_slipsAs_11 (by decide) ?_
    have c_9 : v_2 = 0 := Int32.toInt_inj.mp (by have k9 : (0 : Int32).toInt = 0 := (by decide); omega)
    have q_10 : (fp_10 0 48).toInt = 0 := (congrArg Int32.toInt (show fp_10 0 48 = 0 from (Eq.trans ev_2.symm c_9))).trans (by decide)
    have q_11 : (fp_10 0 48).toInt = 0 := (congrArg Int32.toInt (show fp_10 0 48 = 0 from (Eq.trans ev_2.symm c_9))).trans (by decide)
    refine sg_callv (va_runV (As := [.int 40]) (rest := []) ⟨hx, hb, hml, hown, hts⟩ (kX12_begins_40_f0 l D ca za h hh fp_10 L Q hI (Eq.trans ev_2.symm c_9) (by have k0 : (40 : Int32).toInt = 40 := (by decide); omega) H.size) (cwV 1 hts (gw_V (fun _ h => List.mem_cons_of_mem _ h) mw_734 mw_735 mw_736 mw_619 mw_733) rfl rfl rfl (by decide +kernel) ⟨Nat.le_of_ble_eq_true rfl, Nat.le_of_ble_eq_true rfl⟩) (sg_preV (ci := 12) (C := RX12) (T := TX12) (N := 55) hA hK hP hS hZ 0 (by decide) rfl rfl) rfl rfl hl.1 rfl (lv_room (Nat.le_of_ble_eq_true rfl)) dX12_slipsAs_13 ⟨Nat.le_refl _, Nat.le_refl _⟩) hA hS (fun f_12 L_13 Q_14 H locs hq hP hS => ?_)
    obtain ⟨⟨hI, hk_f_12, eL9, eQ9⟩, p_15⟩ := hq
    rw [eL9, eQ9] at hP; clear eL9 eQ9
    have hF : sgK WkX12_slipsAs_5_f0_f5 f f_12 := sgK.tr hF hk_f_12 (by decide)
    obtain ⟨v_16, ev_16⟩ : ∃ z : Int32, z = f_12 0 48 := ⟨_, rfl⟩
    have q_17 : 0 ≤ v_16.toInt ∧ v_16.toInt ≤ 19 := by rw [ev_16]; exact hI 0 48
    have q_18 : (f_12 0 48).toInt = v_16.toInt := (congrArg Int32.toInt (show f_12 0 48 = v_16 from ev_16.symm))
    have q_19 : (f_12 0 48).toInt = v_16.toInt := (congrArg Int32.toInt (show f_12 0 48 = v_16 from ev_16.symm))
    refine lv_aload_n hx hb dX12_slipsAs_16 rfl (lv_at hl 0 rfl) ?_
    refine lv_iconst (v := 2) hx hb dX12_slipsAs_17 (by decide) ?_
    refine lv_iload_n hx hb dX12_slipsAs_18 rfl (lv_at hl 1 rfl) ?_
    have c_20 : v_16 = 1 := Int32.toInt_inj.mp (by have k9 : (1 : Int32).toInt = 1 := (by decide); omega)
    have q_21 : (f_12 0 48).toInt = 1 := (congrArg Int32.toInt (show f_12 0 48 = 1 from (Eq.trans ev_16.symm c_20))).trans (by decide)
    have q_22 : (f_12 0 48).toInt = 1 := (congrArg Int32.toInt (show f_12 0 48 = 1 from (Eq.trans ev_16.symm c_20))).trans (by decide)
    refine sg_calli (va_runV (As := [.int 2, .int x1]) (rest := []) ⟨hx, hb, hml, hown, hts⟩ (kX12_slipsAs_2_f1_f5 l D ca za h hh f_12 L Q hI x1 (Eq.trans ev_16.symm c_20) ((hk_f_12 0 49 (by decide)).trans m_8) (by have k0 : (2 : Int32).toInt = 2 := (by decide); omega) H.size) (cwV 2 hts (gw_V (fun _ h => List.mem_cons_of_mem _ h) mw_748 mw_749 mw_750 mw_619 mw_747) rfl rfl rfl (by decide +kernel) ⟨Nat.le_of_ble_eq_true rfl, Nat.le_of_ble_eq_true rfl⟩) (sg_preV (ci := 12) (C := RX12) (T := TX12) (N := 55) hA hK hP hS hZ 0 (by decide) rfl rfl) rfl rfl hl.1 rfl (lv_room (Nat.le_of_ble_eq_true rfl)) dX12_slipsAs_19 ⟨Nat.le_refl _, Nat.le_refl _⟩) hA hS (fun r_26 f_23 L_24 Q_25 H locs hq hP hS => ?_)
    obtain ⟨⟨hI, hk_f_23, eL9, eQ9⟩, hq, p_27⟩ := hq
    rw [eL9, eQ9] at hP; clear eL9 eQ9
    have hF : sgK WkX12_slipsAs_5_f0_f5 f f_23 := sgK.tr hF hk_f_23 (by decide)
    obtain ⟨v_28, ev_28⟩ : ∃ z : Int32, z = f_23 0 48 := ⟨_, rfl⟩
    have q_29 : 0 ≤ v_28.toInt ∧ v_28.toInt ≤ 19 := by rw [ev_28]; exact hI 0 48
    have q_30 : (f_23 0 48).toInt = v_28.toInt := (congrArg Int32.toInt (show f_23 0 48 = v_28 from ev_28.symm))
    have q_31 : (f_23 0 48).toInt = v_28.toInt := (congrArg Int32.toInt (show f_23 0 48 = v_28 from ev_28.symm))
    have k_32 : (2 : Int32).toInt = 2 := by decide
    refine lv_iconst (v := 3) hx hb dX12_slipsAs_22 (by decide) ?_
    refine lv_imul hx hb dX12_slipsAs_23 ?_
    refine lv_topi (fun v_33 ev_33 => ?_)
    have q_34 : (f_23 0 48).toInt = v_28.toInt := (congrArg Int32.toInt (show f_23 0 48 = v_28 from ev_28.symm))
    have q_35 : (f_23 0 48).toInt = v_28.toInt := (congrArg Int32.toInt (show f_23 0 48 = v_28 from ev_28.symm))
    exact hret _ _ _ _ (v_33) f_23 L Q dX12_slipsAs_24 hP hS ⟨⟨hI, hF, rfl, rfl⟩, trivial, (by omega)⟩
  refine lv_iload_n hx hb dX12_slipsAs_0 rfl (lv_at hl 1 rfl) ?_
  refine lv_iconst (v := 3) hx hb dX12_slipsAs_1 (by decide) ?_
  refine lv_icmp_eq (tgt := 10) hx hb dX12_slipsAs_2 (by decide) (fun c => absurd c (by decide)) (fun c => ?_)
  refine lv_iload_n hx hb dX12_slipsAs_5 rfl (lv_at hl 1 rfl) ?_
  refine lv_iconst (v := 5) hx hb dX12_slipsAs_6 (by decide) ?_
  refine lv_icmp_ne (tgt := 25) hx hb dX12_slipsAs_7 (by decide) (fun c => absurd c (by decide)) (fun c => ?_)
  exact blk_10 f _ _ _ (by have zz0_48 : (f 0 48).toInt = 0 := (congrArg Int32.toInt (show f 0 48 = 0 from hf_0_48)).trans (by decide); omega) (by have zz0_49 : (f 0 49).toInt = 5 := (congrArg Int32.toInt (show f 0 49 = 5 from hf_0_49)).trans (by decide); omega) hI hF hP hS (lv_sub hl [0, 2] rfl)

abbrev WkX12_slipsAs_6_f0_f6 : List (Nat × Nat × Option Nat) := [(0, 0, some 48), (21, 21, none)]
set_option maxHeartbeats 4000000 in
set_option maxRecDepth 100000 in
theorem kX12_slipsAs_6_f0_f6 (l : Launch) (D : va_G) (ca : Nat → ClassId) (za h : Nat → Nat) (hh : sgH 26 h) (f : sg_F) (L : sg_L) (Q : sg_Q) (hI : sgI loM hiM f) (x1 : Int32) (hf_0_48 : f 0 48 = 0) (hf_0_49 : f 0 49 = 6) (p0 : 0 ≤ (f 0 48).toInt ∧ (f 0 48).toInt ≤ 0) (sz : Nat) : Met l yX12_slipsAs gwX12_slipsAs { frames := 1, cells := 0, slots := 0, locals := 21 } (sgP D vwCl (tyX ca) 26 h (eM ca h) zcM za f L Q sz [.ref (h 0), .int 6, .int x1]) (sgQi D vwCl 26 h (eM ca h) sz (fun r f1 L1 Q1 => ((sgI loM hiM f1 ∧ sgK WkX12_slipsAs_6_f0_f6 f f1 ∧ L1 = L ∧ Q1 = Q) ∧ True ∧ (1 ≤ (f1 0 48).toInt ∧ (f1 0 48).toInt ≤ 1)))) 0 0 (sgA 26 h sz) := by
  refine sg_ofWi (cc := cX12_slipsAs) (maxL := 4) RX12 (by decide) rfl rfl (Nat.le_of_ble_eq_true rfl) ?_
  intro p e s m below meth cd Qz ls hx hb hml hown hts hK hZ hP hS hl hret
  have hA := sgY.self (n := 26) (h := h) (sz := s.heap.size)
  have hl : lv_has ls 4 [(0, .ref (h 0)), (1, .int 6), (2, .int x1)] := hl
  obtain ⟨H, hH⟩ : ∃ z : Heap, z = s.heap := ⟨_, rfl⟩
  obtain ⟨locs, hlo⟩ : ∃ z : List Loc, z = [] := ⟨_, rfl⟩
  have hP : va_P D vwCl (sgw 26 h (eM ca h) f L Q) H := by rw [hH]; exact hP
  have hS : va_S (sgA 26 h s.heap.size) s.heap H locs := by rw [hH, hlo]; exact hS
  suffices hgo : W p l e ({ frames := 1, cells := 0, slots := 0, locals := 21 }) s m ([.ref (h 0), .int 6, .int x1] : List Value).toArray below meth cd H locs 0 0 Qz (F0 m 0 ls []) by rw [hH, hlo] at hgo; exact hgo
  clear hH hlo
  have o_1 : (f 0 48).toInt = 0 := (congrArg Int32.toInt (show f 0 48 = 0 from hf_0_48)).trans (by decide)
  have hF : sgK WkX12_slipsAs_6_f0_f6 f f := sgK.rf
  refine lv_iload_n hx hb dX12_slipsAs_0 rfl (lv_at hl 1 rfl) ?_
  refine lv_iconst (v := 3) hx hb dX12_slipsAs_1 (by decide) ?_
  refine lv_icmp_eq (tgt := 10) hx hb dX12_slipsAs_2 (by decide) (fun c => absurd c (by decide)) (fun c => ?_)
  refine lv_iload_n hx hb dX12_slipsAs_5 rfl (lv_at hl 1 rfl) ?_
  refine lv_iconst (v := 5) hx hb dX12_slipsAs_6 (by decide) ?_
  refine lv_icmp_ne (tgt := 25) hx hb dX12_slipsAs_7 (by decide) (fun c => ?_) (fun c => absurd c (by decide))
  refine lv_iload_n hx hb dX12_slipsAs_25 rfl (lv_at hl 1 rfl) ?_
  refine lv_iconst (v := 4) hx hb dX12_slipsAs_26 (by decide) ?_
  refine lv_icmp_eq (tgt := 36) hx hb dX12_slipsAs_27 (by decide) (fun c => absurd c (by decide)) (fun c => ?_)
  refine lv_iload_n hx hb dX12_slipsAs_30 rfl (lv_at hl 1 rfl) ?_
  refine lv_bipush (v := 7) hx hb dX12_slipsAs_31 (by decide) ?_
  refine lv_icmp_ne (tgt := 61) hx hb dX12_slipsAs_33 (by decide) (fun c => ?_) (fun c => absurd c (by decide))
  refine lv_aload_n hx hb dX12_slipsAs_61 rfl (lv_at hl 0 rfl) ?_
  refine lv_bipush (v := 11) hx hb dX12_slipsAs_62 (by decide) ?_
  have q_2 : (f 0 48).toInt = 0 := (congrArg Int32.toInt (show f 0 48 = 0 from hf_0_48)).trans (by decide)
  have q_3 : (f 0 48).toInt = 0 := (congrArg Int32.toInt (show f 0 48 = 0 from hf_0_48)).trans (by decide)
  refine sg_callv (va_runV (As := [.int 11]) (rest := []) ⟨hx, hb, hml, hown, hts⟩ (kX12_begins_11_f0 l D ca za h hh f L Q hI hf_0_48 (by have k0 : (11 : Int32).toInt = 11 := (by decide); omega) H.size) (cwV 1 hts (gw_V (fun _ h => List.mem_cons_of_mem _ h) mw_734 mw_735 mw_736 mw_619 mw_733) rfl rfl rfl (by decide +kernel) ⟨Nat.le_of_ble_eq_true rfl, Nat.le_of_ble_eq_true rfl⟩) (sg_preV (ci := 12) (C := RX12) (T := TX12) (N := 55) hA hK hP hS hZ 0 (by decide) rfl rfl) rfl rfl hl.1 rfl (lv_room (Nat.le_of_ble_eq_true rfl)) dX12_slipsAs_64 ⟨Nat.le_refl _, Nat.le_refl _⟩) hA hS (fun f_4 L_5 Q_6 H locs hq hP hS => ?_)
  obtain ⟨⟨hI, hk_f_4, eL9, eQ9⟩, p_7⟩ := hq
  rw [eL9, eQ9] at hP; clear eL9 eQ9
  have hF : sgK WkX12_slipsAs_6_f0_f6 f f_4 := sgK.tr hF hk_f_4 (by decide)
  obtain ⟨v_8, ev_8⟩ : ∃ z : Int32, z = f_4 0 48 := ⟨_, rfl⟩
  have q_9 : 0 ≤ v_8.toInt ∧ v_8.toInt ≤ 19 := by rw [ev_8]; exact hI 0 48
  have q_10 : (f_4 0 48).toInt = v_8.toInt := (congrArg Int32.toInt (show f_4 0 48 = v_8 from ev_8.symm))
  have q_11 : (f_4 0 48).toInt = v_8.toInt := (congrArg Int32.toInt (show f_4 0 48 = v_8 from ev_8.symm))
  refine lv_iload_n hx hb dX12_slipsAs_67 rfl (lv_at hl 2 rfl) ?_
  refine lv_aload_n hx hb dX12_slipsAs_68 rfl (lv_at hl 0 rfl) ?_
  refine sg_get (ci := 12) (v := .int (f_4 0 50)) (C := RX12) (T := TX12) (N := 55) hx hb hts (fun w h => List.mem_cons_of_mem _ (gx_12 w h)) hown hK hP 0 (by decide) rfl rfl 50 (by decide) (hts _ (List.mem_cons_of_mem _ mw_680)) (fun _ h9 => h9) rfl dX12_slipsAs_69 ?_
  refine lv_topi (fun v_12 ev_12 => ?_)
  have q_13 : 0 ≤ v_12.toInt ∧ v_12.toInt ≤ 49 := by rw [ev_12]; exact hI 0 50
  refine lv_ixor hx hb dX12_slipsAs_72 ?_
  refine lv_topi (fun v_14 ev_14 => ?_)
  have q_15 : (f_4 0 48).toInt = v_8.toInt := (congrArg Int32.toInt (show f_4 0 48 = v_8 from ev_8.symm))
  have q_16 : (f_4 0 48).toInt = v_8.toInt := (congrArg Int32.toInt (show f_4 0 48 = v_8 from ev_8.symm))
  exact hret _ _ _ _ (v_14) f_4 L Q dX12_slipsAs_73 hP hS ⟨⟨hI, hF, rfl, rfl⟩, trivial, (by omega)⟩

abbrev WkX12_slipsAs_1_f1_f7 : List (Nat × Nat × Option Nat) := [(0, 0, some 48), (21, 21, none)]
set_option maxHeartbeats 4000000 in
set_option maxRecDepth 100000 in
theorem kX12_slipsAs_1_f1_f7 (l : Launch) (D : va_G) (ca : Nat → ClassId) (za h : Nat → Nat) (hh : sgH 26 h) (f : sg_F) (L : sg_L) (Q : sg_Q) (hI : sgI loM hiM f) (x1 : Int32) (hf_0_48 : f 0 48 = 1) (hf_0_49 : f 0 49 = 7) (p0 : 1 ≤ (f 0 48).toInt ∧ (f 0 48).toInt ≤ 1) (sz : Nat) : Met l yX12_slipsAs gwX12_slipsAs { frames := 1, cells := 0, slots := 0, locals := 21 } (sgP D vwCl (tyX ca) 26 h (eM ca h) zcM za f L Q sz [.ref (h 0), .int 1, .int x1]) (sgQi D vwCl 26 h (eM ca h) sz (fun r f1 L1 Q1 => ((sgI loM hiM f1 ∧ sgK WkX12_slipsAs_1_f1_f7 f f1 ∧ L1 = L ∧ Q1 = Q) ∧ True ∧ (2 ≤ (f1 0 48).toInt ∧ (f1 0 48).toInt ≤ 2)))) 0 0 (sgA 26 h sz) := by
  refine sg_ofWi (cc := cX12_slipsAs) (maxL := 4) RX12 (by decide) rfl rfl (Nat.le_of_ble_eq_true rfl) ?_
  intro p e s m below meth cd Qz ls hx hb hml hown hts hK hZ hP hS hl hret
  have hA := sgY.self (n := 26) (h := h) (sz := s.heap.size)
  have hl : lv_has ls 4 [(0, .ref (h 0)), (1, .int 1), (2, .int x1)] := hl
  obtain ⟨H, hH⟩ : ∃ z : Heap, z = s.heap := ⟨_, rfl⟩
  obtain ⟨locs, hlo⟩ : ∃ z : List Loc, z = [] := ⟨_, rfl⟩
  have hP : va_P D vwCl (sgw 26 h (eM ca h) f L Q) H := by rw [hH]; exact hP
  have hS : va_S (sgA 26 h s.heap.size) s.heap H locs := by rw [hH, hlo]; exact hS
  suffices hgo : W p l e ({ frames := 1, cells := 0, slots := 0, locals := 21 }) s m ([.ref (h 0), .int 1, .int x1] : List Value).toArray below meth cd H locs 0 0 Qz (F0 m 0 ls []) by rw [hH, hlo] at hgo; exact hgo
  clear hH hlo
  have o_1 : (f 0 48).toInt = 1 := (congrArg Int32.toInt (show f 0 48 = 1 from hf_0_48)).trans (by decide)
  have hF : sgK WkX12_slipsAs_1_f1_f7 f f := sgK.rf
  refine lv_iload_n hx hb dX12_slipsAs_0 rfl (lv_at hl 1 rfl) ?_
  refine lv_iconst (v := 3) hx hb dX12_slipsAs_1 (by decide) ?_
  refine lv_icmp_eq (tgt := 10) hx hb dX12_slipsAs_2 (by decide) (fun c => absurd c (by decide)) (fun c => ?_)
  refine lv_iload_n hx hb dX12_slipsAs_5 rfl (lv_at hl 1 rfl) ?_
  refine lv_iconst (v := 5) hx hb dX12_slipsAs_6 (by decide) ?_
  refine lv_icmp_ne (tgt := 25) hx hb dX12_slipsAs_7 (by decide) (fun c => ?_) (fun c => absurd c (by decide))
  refine lv_iload_n hx hb dX12_slipsAs_25 rfl (lv_at hl 1 rfl) ?_
  refine lv_iconst (v := 4) hx hb dX12_slipsAs_26 (by decide) ?_
  refine lv_icmp_eq (tgt := 36) hx hb dX12_slipsAs_27 (by decide) (fun c => absurd c (by decide)) (fun c => ?_)
  refine lv_iload_n hx hb dX12_slipsAs_30 rfl (lv_at hl 1 rfl) ?_
  refine lv_bipush (v := 7) hx hb dX12_slipsAs_31 (by decide) ?_
  refine lv_icmp_ne (tgt := 61) hx hb dX12_slipsAs_33 (by decide) (fun c => ?_) (fun c => absurd c (by decide))
  refine lv_aload_n hx hb dX12_slipsAs_61 rfl (lv_at hl 0 rfl) ?_
  refine lv_bipush (v := 11) hx hb dX12_slipsAs_62 (by decide) ?_
  have q_2 : (f 0 48).toInt = 1 := (congrArg Int32.toInt (show f 0 48 = 1 from hf_0_48)).trans (by decide)
  have q_3 : (f 0 48).toInt = 1 := (congrArg Int32.toInt (show f 0 48 = 1 from hf_0_48)).trans (by decide)
  refine sg_callv (va_runV (As := [.int 11]) (rest := []) ⟨hx, hb, hml, hown, hts⟩ (kX12_begins_11_f1 l D ca za h hh f L Q hI hf_0_48 (by have k0 : (11 : Int32).toInt = 11 := (by decide); omega) H.size) (cwV 1 hts (gw_V (fun _ h => List.mem_cons_of_mem _ h) mw_734 mw_735 mw_736 mw_619 mw_733) rfl rfl rfl (by decide +kernel) ⟨Nat.le_of_ble_eq_true rfl, Nat.le_of_ble_eq_true rfl⟩) (sg_preV (ci := 12) (C := RX12) (T := TX12) (N := 55) hA hK hP hS hZ 0 (by decide) rfl rfl) rfl rfl hl.1 rfl (lv_room (Nat.le_of_ble_eq_true rfl)) dX12_slipsAs_64 ⟨Nat.le_refl _, Nat.le_refl _⟩) hA hS (fun f_4 L_5 Q_6 H locs hq hP hS => ?_)
  obtain ⟨⟨hI, hk_f_4, eL9, eQ9⟩, p_7⟩ := hq
  rw [eL9, eQ9] at hP; clear eL9 eQ9
  have hF : sgK WkX12_slipsAs_1_f1_f7 f f_4 := sgK.tr hF hk_f_4 (by decide)
  obtain ⟨v_8, ev_8⟩ : ∃ z : Int32, z = f_4 0 48 := ⟨_, rfl⟩
  have q_9 : 0 ≤ v_8.toInt ∧ v_8.toInt ≤ 19 := by rw [ev_8]; exact hI 0 48
  have q_10 : (f_4 0 48).toInt = v_8.toInt := (congrArg Int32.toInt (show f_4 0 48 = v_8 from ev_8.symm))
  have q_11 : (f_4 0 48).toInt = v_8.toInt := (congrArg Int32.toInt (show f_4 0 48 = v_8 from ev_8.symm))
  refine lv_iload_n hx hb dX12_slipsAs_67 rfl (lv_at hl 2 rfl) ?_
  refine lv_aload_n hx hb dX12_slipsAs_68 rfl (lv_at hl 0 rfl) ?_
  refine sg_get (ci := 12) (v := .int (f_4 0 50)) (C := RX12) (T := TX12) (N := 55) hx hb hts (fun w h => List.mem_cons_of_mem _ (gx_12 w h)) hown hK hP 0 (by decide) rfl rfl 50 (by decide) (hts _ (List.mem_cons_of_mem _ mw_680)) (fun _ h9 => h9) rfl dX12_slipsAs_69 ?_
  refine lv_topi (fun v_12 ev_12 => ?_)
  have q_13 : 0 ≤ v_12.toInt ∧ v_12.toInt ≤ 49 := by rw [ev_12]; exact hI 0 50
  refine lv_ixor hx hb dX12_slipsAs_72 ?_
  refine lv_topi (fun v_14 ev_14 => ?_)
  have q_15 : (f_4 0 48).toInt = v_8.toInt := (congrArg Int32.toInt (show f_4 0 48 = v_8 from ev_8.symm))
  have q_16 : (f_4 0 48).toInt = v_8.toInt := (congrArg Int32.toInt (show f_4 0 48 = v_8 from ev_8.symm))
  exact hret _ _ _ _ (v_14) f_4 L Q dX12_slipsAs_73 hP hS ⟨⟨hI, hF, rfl, rfl⟩, trivial, (by omega)⟩

abbrev WkX12_slipsAs_7_f0_f7 : List (Nat × Nat × Option Nat) := [(0, 0, some 48), (21, 21, none)]
set_option maxHeartbeats 4000000 in
set_option maxRecDepth 100000 in
theorem kX12_slipsAs_7_f0_f7 (l : Launch) (D : va_G) (ca : Nat → ClassId) (za h : Nat → Nat) (hh : sgH 26 h) (f : sg_F) (L : sg_L) (Q : sg_Q) (hI : sgI loM hiM f) (x1 : Int32) (hf_0_48 : f 0 48 = 0) (hf_0_49 : f 0 49 = 7) (p0 : 0 ≤ (f 0 48).toInt ∧ (f 0 48).toInt ≤ 0) (sz : Nat) : Met l yX12_slipsAs gwX12_slipsAs { frames := 3, cells := 0, slots := 0, locals := 65 } (sgP D vwCl (tyX ca) 26 h (eM ca h) zcM za f L Q sz [.ref (h 0), .int 7, .int x1]) (sgQi D vwCl 26 h (eM ca h) sz (fun r f1 L1 Q1 => ((sgI loM hiM f1 ∧ sgK WkX12_slipsAs_7_f0_f7 f f1 ∧ L1 = L ∧ Q1 = Q) ∧ True ∧ (4 ≤ (f1 0 48).toInt ∧ (f1 0 48).toInt ≤ 4)))) 0 0 (sgA 26 h sz) := by
  refine sg_ofWi (cc := cX12_slipsAs) (maxL := 4) RX12 (by decide) rfl rfl (Nat.le_of_ble_eq_true rfl) ?_
  intro p e s m below meth cd Qz ls hx hb hml hown hts hK hZ hP hS hl hret
  have hA := sgY.self (n := 26) (h := h) (sz := s.heap.size)
  have hl : lv_has ls 4 [(0, .ref (h 0)), (1, .int 7), (2, .int x1)] := hl
  obtain ⟨H, hH⟩ : ∃ z : Heap, z = s.heap := ⟨_, rfl⟩
  obtain ⟨locs, hlo⟩ : ∃ z : List Loc, z = [] := ⟨_, rfl⟩
  have hP : va_P D vwCl (sgw 26 h (eM ca h) f L Q) H := by rw [hH]; exact hP
  have hS : va_S (sgA 26 h s.heap.size) s.heap H locs := by rw [hH, hlo]; exact hS
  suffices hgo : W p l e ({ frames := 3, cells := 0, slots := 0, locals := 65 }) s m ([.ref (h 0), .int 7, .int x1] : List Value).toArray below meth cd H locs 0 0 Qz (F0 m 0 ls []) by rw [hH, hlo] at hgo; exact hgo
  clear hH hlo
  have o_1 : (f 0 48).toInt = 0 := (congrArg Int32.toInt (show f 0 48 = 0 from hf_0_48)).trans (by decide)
  have hF : sgK WkX12_slipsAs_7_f0_f7 f f := sgK.rf
  have blk_36 : ∀ (fp_36 : sg_F) (H : Heap) (locs : List Loc) (ls : Array Slot), 0 ≤ (fp_36 0 48).toInt ∧ (fp_36 0 48).toInt ≤ 0 → 7 ≤ (fp_36 0 49).toInt ∧ (fp_36 0 49).toInt ≤ 7 → sgI loM hiM fp_36 → sgK WkX12_slipsAs_7_f0_f7 f fp_36 → va_P D vwCl (sgw 26 h (eM ca h) fp_36 L Q) H → va_S (sgA 26 h s.heap.size) s.heap H locs → lv_has ls 4 [(0, .ref (h 0)), (2, .int x1)] → W p l e ({ frames := 3, cells := 0, slots := 0, locals := 65 }) s m ([.ref (h 0), .int 7, .int x1] : List Value).toArray below meth cd H locs 0 0 Qz (F0 m 36 ls []) := by
    intro fp_36 H locs ls hy0_36 hy1_36 hI hF hP hS hl
    obtain ⟨v_2, ev_2⟩ : ∃ z : Int32, z = fp_36 0 48 := ⟨_, rfl⟩
    have q_3 : 0 ≤ v_2.toInt ∧ v_2.toInt ≤ 19 := by rw [ev_2]; exact hI 0 48
    have q_4 : (fp_36 0 48).toInt = v_2.toInt := by rw [ev_2]
    obtain ⟨v_5, ev_5⟩ : ∃ z : Int32, z = fp_36 0 49 := ⟨_, rfl⟩
    have q_6 : 0 ≤ v_5.toInt ∧ v_5.toInt ≤ 7 := by rw [ev_5]; exact hI 0 49
    have q_7 : (fp_36 0 49).toInt = v_5.toInt := by rw [ev_5]
    have m_8 : fp_36 0 49 = 7 := (hF 0 49 (by decide)).trans hf_0_49
    refine lv_aload_n hx hb dX12_slipsAs_36 rfl (lv_at hl 0 rfl) ?_
    refine lv_bipush (v := 50) hx hb dX12_slipsAs_37 (by decide) ?_
    have c_9 : v_2 = 0 := Int32.toInt_inj.mp (by have k9 : (0 : Int32).toInt = 0 := (by decide); omega)
    have q_10 : (fp_36 0 48).toInt = 0 := (congrArg Int32.toInt (show fp_36 0 48 = 0 from (Eq.trans ev_2.symm c_9))).trans (by decide)
    have q_11 : (fp_36 0 48).toInt = 0 := (congrArg Int32.toInt (show fp_36 0 48 = 0 from (Eq.trans ev_2.symm c_9))).trans (by decide)
    refine sg_callv (va_runV (As := [.int 50]) (rest := []) ⟨hx, hb, hml, hown, hts⟩ (kX12_begins_50_f0 l D ca za h hh fp_36 L Q hI (Eq.trans ev_2.symm c_9) (by have k0 : (50 : Int32).toInt = 50 := (by decide); omega) H.size) (cwV 1 hts (gw_V (fun _ h => List.mem_cons_of_mem _ h) mw_734 mw_735 mw_736 mw_619 mw_733) rfl rfl rfl (by decide +kernel) ⟨Nat.le_of_ble_eq_true rfl, Nat.le_of_ble_eq_true rfl⟩) (sg_preV (ci := 12) (C := RX12) (T := TX12) (N := 55) hA hK hP hS hZ 0 (by decide) rfl rfl) rfl rfl hl.1 rfl (lv_room (Nat.le_of_ble_eq_true rfl)) dX12_slipsAs_39 ⟨Nat.le_refl _, Nat.le_refl _⟩) hA hS (fun f_12 L_13 Q_14 H locs hq hP hS => ?_)
    obtain ⟨⟨hI, hk_f_12, eL9, eQ9⟩, p_15⟩ := hq
    rw [eL9, eQ9] at hP; clear eL9 eQ9
    have hF : sgK WkX12_slipsAs_7_f0_f7 f f_12 := sgK.tr hF hk_f_12 (by decide)
    obtain ⟨v_16, ev_16⟩ : ∃ z : Int32, z = f_12 0 48 := ⟨_, rfl⟩
    have q_17 : 0 ≤ v_16.toInt ∧ v_16.toInt ≤ 19 := by rw [ev_16]; exact hI 0 48
    have q_18 : (f_12 0 48).toInt = v_16.toInt := (congrArg Int32.toInt (show f_12 0 48 = v_16 from ev_16.symm))
    have q_19 : (f_12 0 48).toInt = v_16.toInt := (congrArg Int32.toInt (show f_12 0 48 = v_16 from ev_16.symm))
    refine lv_aload_n hx hb dX12_slipsAs_42 rfl (lv_at hl 0 rfl) ?_
    refine lv_iconst (v := 1) hx hb dX12_slipsAs_43 (by decide) ?_
    refine lv_iload_n hx hb dX12_slipsAs_44 rfl (lv_at hl 1 rfl) ?_
    have c_20 : v_16 = 1 := Int32.toInt_inj.mp (by have k9 : (1 : Int32).toInt = 1 := (by decide); omega)
    have q_21 : (f_12 0 48).toInt = 1 := (congrArg Int32.toInt (show f_12 0 48 = 1 from (Eq.trans ev_16.symm c_20))).trans (by decide)
    have q_22 : (f_12 0 48).toInt = 1 := (congrArg Int32.toInt (show f_12 0 48 = 1 from (Eq.trans ev_16.symm c_20))).trans (by decide)
    refine sg_calli (va_runV (As := [.int 1, .int x1]) (rest := []) ⟨hx, hb, hml, hown, hts⟩ (kX12_slipsAs_1_f1_f7 l D ca za h hh f_12 L Q hI x1 (Eq.trans ev_16.symm c_20) ((hk_f_12 0 49 (by decide)).trans m_8) (by have k0 : (1 : Int32).toInt = 1 := (by decide); omega) H.size) (cwV 2 hts (gw_V (fun _ h => List.mem_cons_of_mem _ h) mw_748 mw_749 mw_750 mw_619 mw_747) rfl rfl rfl (by decide +kernel) ⟨Nat.le_of_ble_eq_true rfl, Nat.le_of_ble_eq_true rfl⟩) (sg_preV (ci := 12) (C := RX12) (T := TX12) (N := 55) hA hK hP hS hZ 0 (by decide) rfl rfl) rfl rfl hl.1 rfl (lv_room (Nat.le_of_ble_eq_true rfl)) dX12_slipsAs_45 ⟨Nat.le_refl _, Nat.le_refl _⟩) hA hS (fun r_26 f_23 L_24 Q_25 H locs hq hP hS => ?_)
    obtain ⟨⟨hI, hk_f_23, eL9, eQ9⟩, hq, p_27⟩ := hq
    rw [eL9, eQ9] at hP; clear eL9 eQ9
    have hF : sgK WkX12_slipsAs_7_f0_f7 f f_23 := sgK.tr hF hk_f_23 (by decide)
    obtain ⟨v_28, ev_28⟩ : ∃ z : Int32, z = f_23 0 48 := ⟨_, rfl⟩
    have q_29 : 0 ≤ v_28.toInt ∧ v_28.toInt ≤ 19 := by rw [ev_28]; exact hI 0 48
    have q_30 : (f_23 0 48).toInt = v_28.toInt := (congrArg Int32.toInt (show f_23 0 48 = v_28 from ev_28.symm))
    have q_31 : (f_23 0 48).toInt = v_28.toInt := (congrArg Int32.toInt (show f_23 0 48 = v_28 from ev_28.symm))
    have k_32 : (1 : Int32).toInt = 1 := by decide
    refine lv_istore_n (lv' := [(3, .int r_26), (0, .ref (h 0)), (2, .int x1)]) hx hb dX12_slipsAs_48 rfl hl (by decide) rfl (fun ls hl => ?_)
    refine lv_iload_n hx hb dX12_slipsAs_49 rfl (lv_at hl 0 rfl) ?_
    refine lv_aload_n hx hb dX12_slipsAs_50 rfl (lv_at hl 1 rfl) ?_
    refine lv_aload_n hx hb dX12_slipsAs_51 rfl (lv_at hl 1 rfl) ?_
    refine sg_get (ci := 12) (v := .int 7) (C := RX12) (T := TX12) (N := 55) hx hb hts (fun w h => List.mem_cons_of_mem _ (gx_12 w h)) hown hK hP 0 (by decide) rfl rfl 49 (by decide) (hts _ (List.mem_cons_of_mem _ mw_679)) (fun _ h9 => h9) (congrArg (fun z => some (Value.int z)) (show f_23 0 49 = 7 from ((hk_f_23 0 49 (by decide)).trans ((hk_f_12 0 49 (by decide)).trans m_8)))) dX12_slipsAs_52 ?_
    refine lv_iconst (v := 2) hx hb dX12_slipsAs_55 (by decide) ?_
    have c_33 : v_28 = 2 := Int32.toInt_inj.mp (by have k9 : (2 : Int32).toInt = 2 := (by decide); omega)
    have q_34 : (f_23 0 48).toInt = 2 := (congrArg Int32.toInt (show f_23 0 48 = 2 from (Eq.trans ev_28.symm c_33))).trans (by decide)
    have q_35 : (f_23 0 48).toInt = 2 := (congrArg Int32.toInt (show f_23 0 48 = 2 from (Eq.trans ev_28.symm c_33))).trans (by decide)
    refine sg_calli (va_runV (As := [.int 7, .int 2]) (rest := [.int r_26]) ⟨hx, hb, hml, hown, hts⟩ (kX12_setsAs_7_f2_f7 l D ca za h hh f_23 L Q hI 2 (Eq.trans ev_28.symm c_33) ((hk_f_23 0 49 (by decide)).trans ((hk_f_12 0 49 (by decide)).trans m_8)) (by have k0 : (7 : Int32).toInt = 7 := (by decide); have k1 : (2 : Int32).toInt = 2 := (by decide); omega) H.size) (cwV 2 hts (gw_V (fun _ h => List.mem_cons_of_mem _ h) mw_744 mw_745 mw_746 mw_619 mw_743) rfl rfl rfl (by decide +kernel) ⟨Nat.le_of_ble_eq_true rfl, Nat.le_of_ble_eq_true rfl⟩) (sg_preV (ci := 12) (C := RX12) (T := TX12) (N := 55) hA hK hP hS hZ 0 (by decide) rfl rfl) rfl rfl hl.1 rfl (lv_room (Nat.le_of_ble_eq_true rfl)) dX12_slipsAs_56 ⟨Nat.le_refl _, Nat.le_refl _⟩) hA hS (fun r_39 f_36 L_37 Q_38 H locs hq hP hS => ?_)
    obtain ⟨⟨hI, hk_f_36, eL9, eQ9⟩, hq, p_40⟩ := hq
    rw [eL9, eQ9] at hP; clear eL9 eQ9
    have hF : sgK WkX12_slipsAs_7_f0_f7 f f_36 := sgK.tr hF hk_f_36 (by decide)
    obtain ⟨v_41, ev_41⟩ : ∃ z : Int32, z = f_36 0 48 := ⟨_, rfl⟩
    have q_42 : 0 ≤ v_41.toInt ∧ v_41.toInt ≤ 19 := by rw [ev_41]; exact hI 0 48
    have q_43 : (f_36 0 48).toInt = v_41.toInt := (congrArg Int32.toInt (show f_36 0 48 = v_41 from ev_41.symm))
    have q_44 : (f_36 0 48).toInt = v_41.toInt := (congrArg Int32.toInt (show f_36 0 48 = v_41 from ev_41.symm))
    have k_45 : (7 : Int32).toInt = 7 := by decide
    have k_46 : (2 : Int32).toInt = 2 := by decide
    refine lv_isub hx hb dX12_slipsAs_59 ?_
    refine lv_topi (fun v_47 ev_47 => ?_)
    have q_48 : (f_36 0 48).toInt = v_41.toInt := (congrArg Int32.toInt (show f_36 0 48 = v_41 from ev_41.symm))
    have q_49 : (f_36 0 48).toInt = v_41.toInt := (congrArg Int32.toInt (show f_36 0 48 = v_41 from ev_41.symm))
    exact hret _ _ _ _ (v_47) f_36 L Q dX12_slipsAs_60 hP hS ⟨⟨hI, hF, rfl, rfl⟩, trivial, (by omega)⟩
  refine lv_iload_n hx hb dX12_slipsAs_0 rfl (lv_at hl 1 rfl) ?_
  refine lv_iconst (v := 3) hx hb dX12_slipsAs_1 (by decide) ?_
  refine lv_icmp_eq (tgt := 10) hx hb dX12_slipsAs_2 (by decide) (fun c => absurd c (by decide)) (fun c => ?_)
  refine lv_iload_n hx hb dX12_slipsAs_5 rfl (lv_at hl 1 rfl) ?_
  refine lv_iconst (v := 5) hx hb dX12_slipsAs_6 (by decide) ?_
  refine lv_icmp_ne (tgt := 25) hx hb dX12_slipsAs_7 (by decide) (fun c => ?_) (fun c => absurd c (by decide))
  refine lv_iload_n hx hb dX12_slipsAs_25 rfl (lv_at hl 1 rfl) ?_
  refine lv_iconst (v := 4) hx hb dX12_slipsAs_26 (by decide) ?_
  refine lv_icmp_eq (tgt := 36) hx hb dX12_slipsAs_27 (by decide) (fun c => absurd c (by decide)) (fun c => ?_)
  refine lv_iload_n hx hb dX12_slipsAs_30 rfl (lv_at hl 1 rfl) ?_
  refine lv_bipush (v := 7) hx hb dX12_slipsAs_31 (by decide) ?_
  refine lv_icmp_ne (tgt := 61) hx hb dX12_slipsAs_33 (by decide) (fun c => absurd c (by decide)) (fun c => ?_)
  exact blk_36 f _ _ _ (by have zz0_48 : (f 0 48).toInt = 0 := (congrArg Int32.toInt (show f 0 48 = 0 from hf_0_48)).trans (by decide); omega) (by have zz0_49 : (f 0 49).toInt = 7 := (congrArg Int32.toInt (show f 0 49 = 7 from hf_0_49)).trans (by decide); omega) hI hF hP hS (lv_sub hl [0, 2] rfl)

abbrev WkX12_begins_2_f0 : List (Nat × Nat × Option Nat) := [(0, 0, some 48), (21, 21, none)]
set_option maxHeartbeats 4000000 in
set_option maxRecDepth 100000 in
theorem kX12_begins_2_f0 (l : Launch) (D : va_G) (ca : Nat → ClassId) (za h : Nat → Nat) (hh : sgH 26 h) (f : sg_F) (L : sg_L) (Q : sg_Q) (hI : sgI loM hiM f) (hf_0_48 : f 0 48 = 0) (p0 : 0 ≤ (f 0 48).toInt ∧ (f 0 48).toInt ≤ 0) (sz : Nat) : Met l yX12_begins gwX12_begins { frames := 0, cells := 0, slots := 0, locals := 0 } (sgP D vwCl (tyX ca) 26 h (eM ca h) zcM za f L Q sz [.ref (h 0), .int 2]) (sgQv D vwCl 26 h (eM ca h) sz (fun f1 L1 Q1 => ((sgI loM hiM f1 ∧ sgK WkX12_begins_2_f0 f f1 ∧ L1 = L ∧ Q1 = Q) ∧ (1 ≤ (f1 0 48).toInt ∧ (f1 0 48).toInt ≤ 1)))) 0 0 (sgA 26 h sz) := by
  refine sg_ofWv (cc := cX12_begins) (maxL := 2) RX12 (by decide) rfl rfl (Nat.le_of_ble_eq_true rfl) ?_
  intro p e s m below meth cd Qz ls hx hb hml hown hts hK hZ hP hS hl hret
  have hA := sgY.self (n := 26) (h := h) (sz := s.heap.size)
  have hl : lv_has ls 2 [(0, .ref (h 0)), (1, .int 2)] := hl
  obtain ⟨H, hH⟩ : ∃ z : Heap, z = s.heap := ⟨_, rfl⟩
  obtain ⟨locs, hlo⟩ : ∃ z : List Loc, z = [] := ⟨_, rfl⟩
  have hP : va_P D vwCl (sgw 26 h (eM ca h) f L Q) H := by rw [hH]; exact hP
  have hS : va_S (sgA 26 h s.heap.size) s.heap H locs := by rw [hH, hlo]; exact hS
  suffices hgo : W p l e ({ frames := 0, cells := 0, slots := 0, locals := 0 }) s m ([.ref (h 0), .int 2] : List Value).toArray below meth cd H locs 0 0 Qz (F0 m 0 ls []) by rw [hH, hlo] at hgo; exact hgo
  clear hH hlo
  have o_1 : (f 0 48).toInt = 0 := (congrArg Int32.toInt (show f 0 48 = 0 from hf_0_48)).trans (by decide)
  have hF : sgK WkX12_begins_2_f0 f f := sgK.rf
  have blk_19 : ∀ (fp_19 : sg_F) (H : Heap) (locs : List Loc) (ls : Array Slot), 0 ≤ (fp_19 0 48).toInt ∧ (fp_19 0 48).toInt ≤ 0 → sgI loM hiM fp_19 → sgK WkX12_begins_2_f0 f fp_19 → va_P D vwCl (sgw 26 h (eM ca h) fp_19 L Q) H → va_S (sgA 26 h s.heap.size) s.heap H locs → lv_has ls 2 [(0, .ref (h 0))] → W p l e ({ frames := 0, cells := 0, slots := 0, locals := 0 }) s m ([.ref (h 0), .int 2] : List Value).toArray below meth cd H locs 0 0 Qz (F0 m 19 ls []) := by
    intro fp_19 H locs ls hy0_19 hI hF hP hS hl
    obtain ⟨v_2, ev_2⟩ : ∃ z : Int32, z = fp_19 0 48 := ⟨_, rfl⟩
    have q_3 : 0 ≤ v_2.toInt ∧ v_2.toInt ≤ 19 := by rw [ev_2]; exact hI 0 48
    have q_4 : (fp_19 0 48).toInt = v_2.toInt := by rw [ev_2]
    refine lv_aload_n hx hb dX12_begins_19 rfl (lv_at hl 0 rfl) ?_
    refine lv_dup hx hb dX12_begins_20 rfl ?_
    refine sg_get (ci := 12) (v := .int v_2) (C := RX12) (T := TX12) (N := 55) hx hb hts (fun w h => List.mem_cons_of_mem _ (gx_12 w h)) hown hK hP 0 (by decide) rfl rfl 48 (by decide) (hts _ (List.mem_cons_of_mem _ mw_621)) (fun _ h9 => h9) (congrArg (fun z => some (Value.int z)) (show fp_19 0 48 = v_2 from ev_2.symm)) dX12_begins_21 ?_
    refine lv_iconst (v := 1) hx hb dX12_begins_24 (by decide) ?_
    refine lv_iadd hx hb dX12_begins_25 ?_
    refine lv_topi (fun v_5 ev_5 => ?_)
    have q_6 : v_5.toInt = v_2.toInt + 1 := by rw [ev_5]; have k1 : (1 : Int32).toInt = 1 := (by decide); exact (bn_addI (by omega) (by omega)).trans (by omega)
    refine sg_put (ci := 12) (x := v_5) (ty := .int) (C := RX12) (T := TX12) (N := 55) hx hb hts (fun w h => List.mem_cons_of_mem _ (gx_12 w h)) tyX12 tyX12_ok nmX12 hown hh hA hK hP hS 0 (by decide) rfl rfl 48 (by decide) (hts _ (List.mem_cons_of_mem _ mw_621)) (fun _ h9 => h9) rfl rfl (by decide +kernel) rfl rfl (Nat.le_of_ble_eq_true rfl) dX12_begins_26 (fun f_7 H locs ef_7 hP hS => ?_)
    have hI : sgI loM hiM f_7 := by rw [ef_7]; exact sgI.put hI 0 48 (show 0 ≤ (v_5 : Int32).toInt ∧ (v_5 : Int32).toInt ≤ 19 from by omega)
    have hF : sgK WkX12_begins_2_f0 f f_7 := sgK.put hF ef_7 (by rfl)
    have q_8 : (f_7 0 48).toInt = v_5.toInt := (congrArg Int32.toInt (show f_7 0 48 = v_5 from (by rw [ef_7, sg_up_s, sgu_s])))
    have q_9 : (f_7 0 48).toInt = v_5.toInt := (congrArg Int32.toInt (show f_7 0 48 = v_5 from (by rw [ef_7, sg_up_s, sgu_s])))
    exact hret _ _ _ _ f_7 L Q dX12_begins_29 hP hS ⟨⟨hI, hF, rfl, rfl⟩, (by omega)⟩
  refine lv_aload_n hx hb dX12_begins_0 rfl (lv_at hl 0 rfl) ?_
  refine sg_get (ci := 12) (v := .int 0) (C := RX12) (T := TX12) (N := 55) hx hb hts (fun w h => List.mem_cons_of_mem _ (gx_12 w h)) hown hK hP 0 (by decide) rfl rfl 48 (by decide) (hts _ (List.mem_cons_of_mem _ mw_621)) (fun _ h9 => h9) (congrArg (fun z => some (Value.int z)) (show f 0 48 = 0 from hf_0_48)) dX12_begins_1 ?_
  refine lv_bipush (v := 24) hx hb dX12_begins_4 (by decide) ?_
  refine lv_icmp_ge (tgt := 19) hx hb dX12_begins_6 (by decide) (fun c => absurd c (by decide)) (fun c => ?_)
  refine lv_aload_n hx hb dX12_begins_9 rfl (lv_at hl 0 rfl) ?_
  refine sg_get (ci := 12) (v := .ref (h 21)) (C := RX12) (T := TX12) (N := 55) hx hb hts (fun w h => List.mem_cons_of_mem _ (gx_12 w h)) hown hK hP 0 (by decide) rfl rfl 47 (by decide) (hts _ (List.mem_cons_of_mem _ mw_718)) (fun _ h9 => h9) rfl dX12_begins_10 ?_
  refine lv_aload_n hx hb dX12_begins_13 rfl (lv_at hl 0 rfl) ?_
  refine sg_get (ci := 12) (v := .int 0) (C := RX12) (T := TX12) (N := 55) hx hb hts (fun w h => List.mem_cons_of_mem _ (gx_12 w h)) hown hK hP 0 (by decide) rfl rfl 48 (by decide) (hts _ (List.mem_cons_of_mem _ mw_621)) (fun _ h9 => h9) (congrArg (fun z => some (Value.int z)) (show f 0 48 = 0 from hf_0_48)) dX12_begins_14 ?_
  refine lv_iload_n hx hb dX12_begins_17 rfl (lv_at hl 1 rfl) ?_
  refine sg_iast hx hb hh hA hK hP hS 21 (by decide) 0 (fun _ => rfl) rfl (i := 0) (x := 2) (vp_in_iff.mpr (by decide)) dX12_begins_18 (fun f_10 H locs ef_10 hP hS => ?_)
  have hI : sgI loM hiM f_10 := by rw [ef_10]; exact sgI.put hI 21 (Int32.toNatClampNeg 0) (show 0 ≤ (2 : Int32).toInt ∧ (2 : Int32).toInt ≤ 81 from by decide)
  have hF : sgK WkX12_begins_2_f0 f f_10 := sgK.put hF ef_10 (by rfl)
  exact blk_19 f_10 _ _ _ (by have zz0_48 : (f_10 0 48).toInt = 0 := (congrArg Int32.toInt (show f_10 0 48 = 0 from (by rw [ef_10, sg_up_n (by decide)]; exact hf_0_48))).trans (by decide); omega) hI hF hP hS (lv_sub hl [0] rfl)

abbrev WkX12_setsAs_0_f2_f0 : List (Nat × Nat × Option Nat) := [(0, 0, some 48), (21, 21, none)]
set_option maxHeartbeats 4000000 in
set_option maxRecDepth 100000 in
theorem kX12_setsAs_0_f2_f0 (l : Launch) (D : va_G) (ca : Nat → ClassId) (za h : Nat → Nat) (hh : sgH 26 h) (f : sg_F) (L : sg_L) (Q : sg_Q) (hI : sgI loM hiM f) (x1 : Int32) (hf_0_48 : f 0 48 = 2) (hf_0_49 : f 0 49 = 0) (p0 : 2 ≤ (f 0 48).toInt ∧ (f 0 48).toInt ≤ 2) (sz : Nat) : Met l yX12_setsAs gwX12_setsAs { frames := 1, cells := 0, slots := 0, locals := 21 } (sgP D vwCl (tyX ca) 26 h (eM ca h) zcM za f L Q sz [.ref (h 0), .int 0, .int x1]) (sgQi D vwCl 26 h (eM ca h) sz (fun r f1 L1 Q1 => ((sgI loM hiM f1 ∧ sgK WkX12_setsAs_0_f2_f0 f f1 ∧ L1 = L ∧ Q1 = Q) ∧ True ∧ (3 ≤ (f1 0 48).toInt ∧ (f1 0 48).toInt ≤ 3)))) 0 0 (sgA 26 h sz) := by
  refine sg_ofWi (cc := cX12_setsAs) (maxL := 3) RX12 (by decide) rfl rfl (Nat.le_of_ble_eq_true rfl) ?_
  intro p e s m below meth cd Qz ls hx hb hml hown hts hK hZ hP hS hl hret
  have hA := sgY.self (n := 26) (h := h) (sz := s.heap.size)
  have hl : lv_has ls 3 [(0, .ref (h 0)), (1, .int 0), (2, .int x1)] := hl
  obtain ⟨H, hH⟩ : ∃ z : Heap, z = s.heap := ⟨_, rfl⟩
  obtain ⟨locs, hlo⟩ : ∃ z : List Loc, z = [] := ⟨_, rfl⟩
  have hP : va_P D vwCl (sgw 26 h (eM ca h) f L Q) H := by rw [hH]; exact hP
  have hS : va_S (sgA 26 h s.heap.size) s.heap H locs := by rw [hH, hlo]; exact hS
  suffices hgo : W p l e ({ frames := 1, cells := 0, slots := 0, locals := 21 }) s m ([.ref (h 0), .int 0, .int x1] : List Value).toArray below meth cd H locs 0 0 Qz (F0 m 0 ls []) by rw [hH, hlo] at hgo; exact hgo
  clear hH hlo
  have o_1 : (f 0 48).toInt = 2 := (congrArg Int32.toInt (show f 0 48 = 2 from hf_0_48)).trans (by decide)
  have hF : sgK WkX12_setsAs_0_f2_f0 f f := sgK.rf
  refine lv_iload_n hx hb dX12_setsAs_0 rfl (lv_at hl 1 rfl) ?_
  refine lv_iconst (v := 1) hx hb dX12_setsAs_1 (by decide) ?_
  refine lv_icmp_eq (tgt := 16) hx hb dX12_setsAs_2 (by decide) (fun c => absurd c (by decide)) (fun c => ?_)
  refine lv_iload_n hx hb dX12_setsAs_5 rfl (lv_at hl 1 rfl) ?_
  refine lv_iconst (v := 4) hx hb dX12_setsAs_6 (by decide) ?_
  refine lv_icmp_eq (tgt := 16) hx hb dX12_setsAs_7 (by decide) (fun c => absurd c (by decide)) (fun c => ?_)
  refine lv_iload_n hx hb dX12_setsAs_10 rfl (lv_at hl 1 rfl) ?_
  refine lv_bipush (v := 7) hx hb dX12_setsAs_11 (by decide) ?_
  refine lv_icmp_ne (tgt := 31) hx hb dX12_setsAs_13 (by decide) (fun c => ?_) (fun c => absurd c (by decide))
  refine lv_iload_n hx hb dX12_setsAs_31 rfl (lv_at hl 1 rfl) ?_
  refine lv_bipush (v := 6) hx hb dX12_setsAs_32 (by decide) ?_
  refine lv_icmp_ne (tgt := 52) hx hb dX12_setsAs_34 (by decide) (fun c => ?_) (fun c => absurd c (by decide))
  refine lv_aload_n hx hb dX12_setsAs_52 rfl (lv_at hl 0 rfl) ?_
  refine lv_iconst (v := 1) hx hb dX12_setsAs_53 (by decide) ?_
  have q_2 : (f 0 48).toInt = 2 := (congrArg Int32.toInt (show f 0 48 = 2 from hf_0_48)).trans (by decide)
  have q_3 : (f 0 48).toInt = 2 := (congrArg Int32.toInt (show f 0 48 = 2 from hf_0_48)).trans (by decide)
  refine sg_callv (va_runV (As := [.int 1]) (rest := []) ⟨hx, hb, hml, hown, hts⟩ (kX12_begins_1_f2 l D ca za h hh f L Q hI hf_0_48 (by have k0 : (1 : Int32).toInt = 1 := (by decide); omega) H.size) (cwV 1 hts (gw_V (fun _ h => List.mem_cons_of_mem _ h) mw_734 mw_735 mw_736 mw_619 mw_733) rfl rfl rfl (by decide +kernel) ⟨Nat.le_of_ble_eq_true rfl, Nat.le_of_ble_eq_true rfl⟩) (sg_preV (ci := 12) (C := RX12) (T := TX12) (N := 55) hA hK hP hS hZ 0 (by decide) rfl rfl) rfl rfl hl.1 rfl (lv_room (Nat.le_of_ble_eq_true rfl)) dX12_setsAs_54 ⟨Nat.le_refl _, Nat.le_refl _⟩) hA hS (fun f_4 L_5 Q_6 H locs hq hP hS => ?_)
  obtain ⟨⟨hI, hk_f_4, eL9, eQ9⟩, p_7⟩ := hq
  rw [eL9, eQ9] at hP; clear eL9 eQ9
  have hF : sgK WkX12_setsAs_0_f2_f0 f f_4 := sgK.tr hF hk_f_4 (by decide)
  obtain ⟨v_8, ev_8⟩ : ∃ z : Int32, z = f_4 0 48 := ⟨_, rfl⟩
  have q_9 : 0 ≤ v_8.toInt ∧ v_8.toInt ≤ 19 := by rw [ev_8]; exact hI 0 48
  have q_10 : (f_4 0 48).toInt = v_8.toInt := (congrArg Int32.toInt (show f_4 0 48 = v_8 from ev_8.symm))
  have q_11 : (f_4 0 48).toInt = v_8.toInt := (congrArg Int32.toInt (show f_4 0 48 = v_8 from ev_8.symm))
  refine lv_iload_n hx hb dX12_setsAs_57 rfl (lv_at hl 2 rfl) ?_
  refine lv_aload_n hx hb dX12_setsAs_58 rfl (lv_at hl 0 rfl) ?_
  refine sg_get (ci := 12) (v := .int (f_4 0 50)) (C := RX12) (T := TX12) (N := 55) hx hb hts (fun w h => List.mem_cons_of_mem _ (gx_12 w h)) hown hK hP 0 (by decide) rfl rfl 50 (by decide) (hts _ (List.mem_cons_of_mem _ mw_680)) (fun _ h9 => h9) rfl dX12_setsAs_59 ?_
  refine lv_topi (fun v_12 ev_12 => ?_)
  have q_13 : 0 ≤ v_12.toInt ∧ v_12.toInt ≤ 49 := by rw [ev_12]; exact hI 0 50
  refine lv_iadd hx hb dX12_setsAs_62 ?_
  refine lv_topi (fun v_14 ev_14 => ?_)
  have q_15 : (f_4 0 48).toInt = v_8.toInt := (congrArg Int32.toInt (show f_4 0 48 = v_8 from ev_8.symm))
  have q_16 : (f_4 0 48).toInt = v_8.toInt := (congrArg Int32.toInt (show f_4 0 48 = v_8 from ev_8.symm))
  exact hret _ _ _ _ (v_14) f_4 L Q dX12_setsAs_63 hP hS ⟨⟨hI, hF, rfl, rfl⟩, trivial, (by omega)⟩

abbrev WkX12_sitsAs_0_f1_f0 : List (Nat × Nat × Option Nat) := [(0, 0, some 48), (21, 21, none)]
set_option maxHeartbeats 4000000 in
set_option maxRecDepth 100000 in
theorem kX12_sitsAs_0_f1_f0 (l : Launch) (D : va_G) (ca : Nat → ClassId) (za h : Nat → Nat) (hh : sgH 26 h) (f : sg_F) (L : sg_L) (Q : sg_Q) (hI : sgI loM hiM f) (x1 : Int32) (hf_0_48 : f 0 48 = 1) (hf_0_49 : f 0 49 = 0) (p0 : 1 ≤ (f 0 48).toInt ∧ (f 0 48).toInt ≤ 1) (sz : Nat) : Met l yX12_sitsAs gwX12_sitsAs { frames := 2, cells := 0, slots := 0, locals := 43 } (sgP D vwCl (tyX ca) 26 h (eM ca h) zcM za f L Q sz [.ref (h 0), .int 0, .int x1]) (sgQi D vwCl 26 h (eM ca h) sz (fun r f1 L1 Q1 => ((sgI loM hiM f1 ∧ sgK WkX12_sitsAs_0_f1_f0 f f1 ∧ L1 = L ∧ Q1 = Q) ∧ True ∧ (3 ≤ (f1 0 48).toInt ∧ (f1 0 48).toInt ≤ 3)))) 0 0 (sgA 26 h sz) := by
  refine sg_ofWi (cc := cX12_sitsAs) (maxL := 4) RX12 (by decide) rfl rfl (Nat.le_of_ble_eq_true rfl) ?_
  intro p e s m below meth cd Qz ls hx hb hml hown hts hK hZ hP hS hl hret
  have hA := sgY.self (n := 26) (h := h) (sz := s.heap.size)
  have hl : lv_has ls 4 [(0, .ref (h 0)), (1, .int 0), (2, .int x1)] := hl
  obtain ⟨H, hH⟩ : ∃ z : Heap, z = s.heap := ⟨_, rfl⟩
  obtain ⟨locs, hlo⟩ : ∃ z : List Loc, z = [] := ⟨_, rfl⟩
  have hP : va_P D vwCl (sgw 26 h (eM ca h) f L Q) H := by rw [hH]; exact hP
  have hS : va_S (sgA 26 h s.heap.size) s.heap H locs := by rw [hH, hlo]; exact hS
  suffices hgo : W p l e ({ frames := 2, cells := 0, slots := 0, locals := 43 }) s m ([.ref (h 0), .int 0, .int x1] : List Value).toArray below meth cd H locs 0 0 Qz (F0 m 0 ls []) by rw [hH, hlo] at hgo; exact hgo
  clear hH hlo
  have o_1 : (f 0 48).toInt = 1 := (congrArg Int32.toInt (show f 0 48 = 1 from hf_0_48)).trans (by decide)
  have hF : sgK WkX12_sitsAs_0_f1_f0 f f := sgK.rf
  refine lv_iload_n hx hb dX12_sitsAs_0 rfl (lv_at hl 1 rfl) ?_
  refine lv_iconst (v := 3) hx hb dX12_sitsAs_1 (by decide) ?_
  refine lv_icmp_eq (tgt := 10) hx hb dX12_sitsAs_2 (by decide) (fun c => absurd c (by decide)) (fun c => ?_)
  refine lv_iload_n hx hb dX12_sitsAs_5 rfl (lv_at hl 1 rfl) ?_
  refine lv_iconst (v := 5) hx hb dX12_sitsAs_6 (by decide) ?_
  refine lv_icmp_ne (tgt := 25) hx hb dX12_sitsAs_7 (by decide) (fun c => ?_) (fun c => absurd c (by decide))
  refine lv_iload_n hx hb dX12_sitsAs_25 rfl (lv_at hl 1 rfl) ?_
  refine lv_iconst (v := 2) hx hb dX12_sitsAs_26 (by decide) ?_
  refine lv_icmp_ne (tgt := 44) hx hb dX12_sitsAs_27 (by decide) (fun c => ?_) (fun c => absurd c (by decide))
  refine lv_iload_n hx hb dX12_sitsAs_44 rfl (lv_at hl 1 rfl) ?_
  refine lv_bipush (v := 7) hx hb dX12_sitsAs_45 (by decide) ?_
  refine lv_icmp_ne (tgt := 75) hx hb dX12_sitsAs_47 (by decide) (fun c => ?_) (fun c => absurd c (by decide))
  refine lv_aload_n hx hb dX12_sitsAs_75 rfl (lv_at hl 0 rfl) ?_
  refine lv_bipush (v := 10) hx hb dX12_sitsAs_76 (by decide) ?_
  have q_2 : (f 0 48).toInt = 1 := (congrArg Int32.toInt (show f 0 48 = 1 from hf_0_48)).trans (by decide)
  have q_3 : (f 0 48).toInt = 1 := (congrArg Int32.toInt (show f 0 48 = 1 from hf_0_48)).trans (by decide)
  refine sg_callv (va_runV (As := [.int 10]) (rest := []) ⟨hx, hb, hml, hown, hts⟩ (kX12_begins_10_f1 l D ca za h hh f L Q hI hf_0_48 (by have k0 : (10 : Int32).toInt = 10 := (by decide); omega) H.size) (cwV 1 hts (gw_V (fun _ h => List.mem_cons_of_mem _ h) mw_734 mw_735 mw_736 mw_619 mw_733) rfl rfl rfl (by decide +kernel) ⟨Nat.le_of_ble_eq_true rfl, Nat.le_of_ble_eq_true rfl⟩) (sg_preV (ci := 12) (C := RX12) (T := TX12) (N := 55) hA hK hP hS hZ 0 (by decide) rfl rfl) rfl rfl hl.1 rfl (lv_room (Nat.le_of_ble_eq_true rfl)) dX12_sitsAs_78 ⟨Nat.le_refl _, Nat.le_refl _⟩) hA hS (fun f_4 L_5 Q_6 H locs hq hP hS => ?_)
  obtain ⟨⟨hI, hk_f_4, eL9, eQ9⟩, p_7⟩ := hq
  rw [eL9, eQ9] at hP; clear eL9 eQ9
  have hF : sgK WkX12_sitsAs_0_f1_f0 f f_4 := sgK.tr hF hk_f_4 (by decide)
  obtain ⟨v_8, ev_8⟩ : ∃ z : Int32, z = f_4 0 48 := ⟨_, rfl⟩
  have q_9 : 0 ≤ v_8.toInt ∧ v_8.toInt ≤ 19 := by rw [ev_8]; exact hI 0 48
  have q_10 : (f_4 0 48).toInt = v_8.toInt := (congrArg Int32.toInt (show f_4 0 48 = v_8 from ev_8.symm))
  have q_11 : (f_4 0 48).toInt = v_8.toInt := (congrArg Int32.toInt (show f_4 0 48 = v_8 from ev_8.symm))
  refine lv_aload_n hx hb dX12_sitsAs_81 rfl (lv_at hl 0 rfl) ?_
  refine lv_aload_n hx hb dX12_sitsAs_82 rfl (lv_at hl 0 rfl) ?_
  refine sg_get (ci := 12) (v := .int 0) (C := RX12) (T := TX12) (N := 55) hx hb hts (fun w h => List.mem_cons_of_mem _ (gx_12 w h)) hown hK hP 0 (by decide) rfl rfl 49 (by decide) (hts _ (List.mem_cons_of_mem _ mw_679)) (fun _ h9 => h9) (congrArg (fun z => some (Value.int z)) (show f_4 0 49 = 0 from ((hk_f_4 0 49 (by decide)).trans hf_0_49))) dX12_sitsAs_83 ?_
  refine lv_iload_n hx hb dX12_sitsAs_86 rfl (lv_at hl 2 rfl) ?_
  have c_12 : v_8 = 2 := Int32.toInt_inj.mp (by have k9 : (2 : Int32).toInt = 2 := (by decide); omega)
  have q_13 : (f_4 0 48).toInt = 2 := (congrArg Int32.toInt (show f_4 0 48 = 2 from (Eq.trans ev_8.symm c_12))).trans (by decide)
  have q_14 : (f_4 0 48).toInt = 2 := (congrArg Int32.toInt (show f_4 0 48 = 2 from (Eq.trans ev_8.symm c_12))).trans (by decide)
  refine sg_calli (va_runV (As := [.int 0, .int x1]) (rest := []) ⟨hx, hb, hml, hown, hts⟩ (kX12_setsAs_0_f2_f0 l D ca za h hh f_4 L Q hI x1 (Eq.trans ev_8.symm c_12) ((hk_f_4 0 49 (by decide)).trans hf_0_49) (by have k0 : (0 : Int32).toInt = 0 := (by decide); omega) H.size) (cwV 2 hts (gw_V (fun _ h => List.mem_cons_of_mem _ h) mw_744 mw_745 mw_746 mw_619 mw_743) rfl rfl rfl (by decide +kernel) ⟨Nat.le_of_ble_eq_true rfl, Nat.le_of_ble_eq_true rfl⟩) (sg_preV (ci := 12) (C := RX12) (T := TX12) (N := 55) hA hK hP hS hZ 0 (by decide) rfl rfl) rfl rfl hl.1 rfl (lv_room (Nat.le_of_ble_eq_true rfl)) dX12_sitsAs_87 ⟨Nat.le_refl _, Nat.le_refl _⟩) hA hS (fun r_18 f_15 L_16 Q_17 H locs hq hP hS => ?_)
  obtain ⟨⟨hI, hk_f_15, eL9, eQ9⟩, hq, p_19⟩ := hq
  rw [eL9, eQ9] at hP; clear eL9 eQ9
  have hF : sgK WkX12_sitsAs_0_f1_f0 f f_15 := sgK.tr hF hk_f_15 (by decide)
  obtain ⟨v_20, ev_20⟩ : ∃ z : Int32, z = f_15 0 48 := ⟨_, rfl⟩
  have q_21 : 0 ≤ v_20.toInt ∧ v_20.toInt ≤ 19 := by rw [ev_20]; exact hI 0 48
  have q_22 : (f_15 0 48).toInt = v_20.toInt := (congrArg Int32.toInt (show f_15 0 48 = v_20 from ev_20.symm))
  have q_23 : (f_15 0 48).toInt = v_20.toInt := (congrArg Int32.toInt (show f_15 0 48 = v_20 from ev_20.symm))
  have k_24 : (0 : Int32).toInt = 0 := by decide
  refine lv_iconst (v := 2) hx hb dX12_sitsAs_90 (by decide) ?_
  refine lv_imul hx hb dX12_sitsAs_91 ?_
  refine lv_topi (fun v_25 ev_25 => ?_)
  have q_26 : (f_15 0 48).toInt = v_20.toInt := (congrArg Int32.toInt (show f_15 0 48 = v_20 from ev_20.symm))
  have q_27 : (f_15 0 48).toInt = v_20.toInt := (congrArg Int32.toInt (show f_15 0 48 = v_20 from ev_20.symm))
  exact hret _ _ _ _ (v_25) f_15 L Q dX12_sitsAs_92 hP hS ⟨⟨hI, hF, rfl, rfl⟩, trivial, (by omega)⟩

abbrev WkX12_begins_11_f3 : List (Nat × Nat × Option Nat) := [(0, 0, some 48), (21, 21, none)]
set_option maxHeartbeats 4000000 in
set_option maxRecDepth 100000 in
theorem kX12_begins_11_f3 (l : Launch) (D : va_G) (ca : Nat → ClassId) (za h : Nat → Nat) (hh : sgH 26 h) (f : sg_F) (L : sg_L) (Q : sg_Q) (hI : sgI loM hiM f) (hf_0_48 : f 0 48 = 3) (p0 : 3 ≤ (f 0 48).toInt ∧ (f 0 48).toInt ≤ 3) (sz : Nat) : Met l yX12_begins gwX12_begins { frames := 0, cells := 0, slots := 0, locals := 0 } (sgP D vwCl (tyX ca) 26 h (eM ca h) zcM za f L Q sz [.ref (h 0), .int 11]) (sgQv D vwCl 26 h (eM ca h) sz (fun f1 L1 Q1 => ((sgI loM hiM f1 ∧ sgK WkX12_begins_11_f3 f f1 ∧ L1 = L ∧ Q1 = Q) ∧ (4 ≤ (f1 0 48).toInt ∧ (f1 0 48).toInt ≤ 4)))) 0 0 (sgA 26 h sz) := by
  refine sg_ofWv (cc := cX12_begins) (maxL := 2) RX12 (by decide) rfl rfl (Nat.le_of_ble_eq_true rfl) ?_
  intro p e s m below meth cd Qz ls hx hb hml hown hts hK hZ hP hS hl hret
  have hA := sgY.self (n := 26) (h := h) (sz := s.heap.size)
  have hl : lv_has ls 2 [(0, .ref (h 0)), (1, .int 11)] := hl
  obtain ⟨H, hH⟩ : ∃ z : Heap, z = s.heap := ⟨_, rfl⟩
  obtain ⟨locs, hlo⟩ : ∃ z : List Loc, z = [] := ⟨_, rfl⟩
  have hP : va_P D vwCl (sgw 26 h (eM ca h) f L Q) H := by rw [hH]; exact hP
  have hS : va_S (sgA 26 h s.heap.size) s.heap H locs := by rw [hH, hlo]; exact hS
  suffices hgo : W p l e ({ frames := 0, cells := 0, slots := 0, locals := 0 }) s m ([.ref (h 0), .int 11] : List Value).toArray below meth cd H locs 0 0 Qz (F0 m 0 ls []) by rw [hH, hlo] at hgo; exact hgo
  clear hH hlo
  have o_1 : (f 0 48).toInt = 3 := (congrArg Int32.toInt (show f 0 48 = 3 from hf_0_48)).trans (by decide)
  have hF : sgK WkX12_begins_11_f3 f f := sgK.rf
  have blk_19 : ∀ (fp_19 : sg_F) (H : Heap) (locs : List Loc) (ls : Array Slot), 3 ≤ (fp_19 0 48).toInt ∧ (fp_19 0 48).toInt ≤ 3 → sgI loM hiM fp_19 → sgK WkX12_begins_11_f3 f fp_19 → va_P D vwCl (sgw 26 h (eM ca h) fp_19 L Q) H → va_S (sgA 26 h s.heap.size) s.heap H locs → lv_has ls 2 [(0, .ref (h 0))] → W p l e ({ frames := 0, cells := 0, slots := 0, locals := 0 }) s m ([.ref (h 0), .int 11] : List Value).toArray below meth cd H locs 0 0 Qz (F0 m 19 ls []) := by
    intro fp_19 H locs ls hy0_19 hI hF hP hS hl
    obtain ⟨v_2, ev_2⟩ : ∃ z : Int32, z = fp_19 0 48 := ⟨_, rfl⟩
    have q_3 : 0 ≤ v_2.toInt ∧ v_2.toInt ≤ 19 := by rw [ev_2]; exact hI 0 48
    have q_4 : (fp_19 0 48).toInt = v_2.toInt := by rw [ev_2]
    refine lv_aload_n hx hb dX12_begins_19 rfl (lv_at hl 0 rfl) ?_
    refine lv_dup hx hb dX12_begins_20 rfl ?_
    refine sg_get (ci := 12) (v := .int v_2) (C := RX12) (T := TX12) (N := 55) hx hb hts (fun w h => List.mem_cons_of_mem _ (gx_12 w h)) hown hK hP 0 (by decide) rfl rfl 48 (by decide) (hts _ (List.mem_cons_of_mem _ mw_621)) (fun _ h9 => h9) (congrArg (fun z => some (Value.int z)) (show fp_19 0 48 = v_2 from ev_2.symm)) dX12_begins_21 ?_
    refine lv_iconst (v := 1) hx hb dX12_begins_24 (by decide) ?_
    refine lv_iadd hx hb dX12_begins_25 ?_
    refine lv_topi (fun v_5 ev_5 => ?_)
    have q_6 : v_5.toInt = v_2.toInt + 1 := by rw [ev_5]; have k1 : (1 : Int32).toInt = 1 := (by decide); exact (bn_addI (by omega) (by omega)).trans (by omega)
    refine sg_put (ci := 12) (x := v_5) (ty := .int) (C := RX12) (T := TX12) (N := 55) hx hb hts (fun w h => List.mem_cons_of_mem _ (gx_12 w h)) tyX12 tyX12_ok nmX12 hown hh hA hK hP hS 0 (by decide) rfl rfl 48 (by decide) (hts _ (List.mem_cons_of_mem _ mw_621)) (fun _ h9 => h9) rfl rfl (by decide +kernel) rfl rfl (Nat.le_of_ble_eq_true rfl) dX12_begins_26 (fun f_7 H locs ef_7 hP hS => ?_)
    have hI : sgI loM hiM f_7 := by rw [ef_7]; exact sgI.put hI 0 48 (show 0 ≤ (v_5 : Int32).toInt ∧ (v_5 : Int32).toInt ≤ 19 from by omega)
    have hF : sgK WkX12_begins_11_f3 f f_7 := sgK.put hF ef_7 (by rfl)
    have q_8 : (f_7 0 48).toInt = v_5.toInt := (congrArg Int32.toInt (show f_7 0 48 = v_5 from (by rw [ef_7, sg_up_s, sgu_s])))
    have q_9 : (f_7 0 48).toInt = v_5.toInt := (congrArg Int32.toInt (show f_7 0 48 = v_5 from (by rw [ef_7, sg_up_s, sgu_s])))
    exact hret _ _ _ _ f_7 L Q dX12_begins_29 hP hS ⟨⟨hI, hF, rfl, rfl⟩, (by omega)⟩
  refine lv_aload_n hx hb dX12_begins_0 rfl (lv_at hl 0 rfl) ?_
  refine sg_get (ci := 12) (v := .int 3) (C := RX12) (T := TX12) (N := 55) hx hb hts (fun w h => List.mem_cons_of_mem _ (gx_12 w h)) hown hK hP 0 (by decide) rfl rfl 48 (by decide) (hts _ (List.mem_cons_of_mem _ mw_621)) (fun _ h9 => h9) (congrArg (fun z => some (Value.int z)) (show f 0 48 = 3 from hf_0_48)) dX12_begins_1 ?_
  refine lv_bipush (v := 24) hx hb dX12_begins_4 (by decide) ?_
  refine lv_icmp_ge (tgt := 19) hx hb dX12_begins_6 (by decide) (fun c => absurd c (by decide)) (fun c => ?_)
  refine lv_aload_n hx hb dX12_begins_9 rfl (lv_at hl 0 rfl) ?_
  refine sg_get (ci := 12) (v := .ref (h 21)) (C := RX12) (T := TX12) (N := 55) hx hb hts (fun w h => List.mem_cons_of_mem _ (gx_12 w h)) hown hK hP 0 (by decide) rfl rfl 47 (by decide) (hts _ (List.mem_cons_of_mem _ mw_718)) (fun _ h9 => h9) rfl dX12_begins_10 ?_
  refine lv_aload_n hx hb dX12_begins_13 rfl (lv_at hl 0 rfl) ?_
  refine sg_get (ci := 12) (v := .int 3) (C := RX12) (T := TX12) (N := 55) hx hb hts (fun w h => List.mem_cons_of_mem _ (gx_12 w h)) hown hK hP 0 (by decide) rfl rfl 48 (by decide) (hts _ (List.mem_cons_of_mem _ mw_621)) (fun _ h9 => h9) (congrArg (fun z => some (Value.int z)) (show f 0 48 = 3 from hf_0_48)) dX12_begins_14 ?_
  refine lv_iload_n hx hb dX12_begins_17 rfl (lv_at hl 1 rfl) ?_
  refine sg_iast hx hb hh hA hK hP hS 21 (by decide) 0 (fun _ => rfl) rfl (i := 3) (x := 11) (vp_in_iff.mpr (by decide)) dX12_begins_18 (fun f_10 H locs ef_10 hP hS => ?_)
  have hI : sgI loM hiM f_10 := by rw [ef_10]; exact sgI.put hI 21 (Int32.toNatClampNeg 3) (show 0 ≤ (11 : Int32).toInt ∧ (11 : Int32).toInt ≤ 81 from by decide)
  have hF : sgK WkX12_begins_11_f3 f f_10 := sgK.put hF ef_10 (by rfl)
  exact blk_19 f_10 _ _ _ (by have zz0_48 : (f_10 0 48).toInt = 3 := (congrArg Int32.toInt (show f_10 0 48 = 3 from (by rw [ef_10, sg_up_n (by decide)]; exact hf_0_48))).trans (by decide); omega) hI hF hP hS (lv_sub hl [0] rfl)

abbrev WkX12_slipsAs_0_f3_f0 : List (Nat × Nat × Option Nat) := [(0, 0, some 48), (21, 21, none)]
set_option maxHeartbeats 4000000 in
set_option maxRecDepth 100000 in
theorem kX12_slipsAs_0_f3_f0 (l : Launch) (D : va_G) (ca : Nat → ClassId) (za h : Nat → Nat) (hh : sgH 26 h) (f : sg_F) (L : sg_L) (Q : sg_Q) (hI : sgI loM hiM f) (x1 : Int32) (hf_0_48 : f 0 48 = 3) (hf_0_49 : f 0 49 = 0) (b1 : 1 ≤ x1.toInt ∧ x1.toInt ≤ 1) (p0 : 3 ≤ (f 0 48).toInt ∧ (f 0 48).toInt ≤ 3) (sz : Nat) : Met l yX12_slipsAs gwX12_slipsAs { frames := 1, cells := 0, slots := 0, locals := 21 } (sgP D vwCl (tyX ca) 26 h (eM ca h) zcM za f L Q sz [.ref (h 0), .int 0, .int x1]) (sgQi D vwCl 26 h (eM ca h) sz (fun r f1 L1 Q1 => ((sgI loM hiM f1 ∧ sgK WkX12_slipsAs_0_f3_f0 f f1 ∧ L1 = L ∧ Q1 = Q) ∧ True ∧ (4 ≤ (f1 0 48).toInt ∧ (f1 0 48).toInt ≤ 4)))) 0 0 (sgA 26 h sz) := by
  refine sg_ofWi (cc := cX12_slipsAs) (maxL := 4) RX12 (by decide) rfl rfl (Nat.le_of_ble_eq_true rfl) ?_
  intro p e s m below meth cd Qz ls hx hb hml hown hts hK hZ hP hS hl hret
  have hA := sgY.self (n := 26) (h := h) (sz := s.heap.size)
  have hl : lv_has ls 4 [(0, .ref (h 0)), (1, .int 0), (2, .int x1)] := hl
  obtain ⟨H, hH⟩ : ∃ z : Heap, z = s.heap := ⟨_, rfl⟩
  obtain ⟨locs, hlo⟩ : ∃ z : List Loc, z = [] := ⟨_, rfl⟩
  have hP : va_P D vwCl (sgw 26 h (eM ca h) f L Q) H := by rw [hH]; exact hP
  have hS : va_S (sgA 26 h s.heap.size) s.heap H locs := by rw [hH, hlo]; exact hS
  suffices hgo : W p l e ({ frames := 1, cells := 0, slots := 0, locals := 21 }) s m ([.ref (h 0), .int 0, .int x1] : List Value).toArray below meth cd H locs 0 0 Qz (F0 m 0 ls []) by rw [hH, hlo] at hgo; exact hgo
  clear hH hlo
  have o_1 : (f 0 48).toInt = 3 := (congrArg Int32.toInt (show f 0 48 = 3 from hf_0_48)).trans (by decide)
  have hF : sgK WkX12_slipsAs_0_f3_f0 f f := sgK.rf
  refine lv_iload_n hx hb dX12_slipsAs_0 rfl (lv_at hl 1 rfl) ?_
  refine lv_iconst (v := 3) hx hb dX12_slipsAs_1 (by decide) ?_
  refine lv_icmp_eq (tgt := 10) hx hb dX12_slipsAs_2 (by decide) (fun c => absurd c (by decide)) (fun c => ?_)
  refine lv_iload_n hx hb dX12_slipsAs_5 rfl (lv_at hl 1 rfl) ?_
  refine lv_iconst (v := 5) hx hb dX12_slipsAs_6 (by decide) ?_
  refine lv_icmp_ne (tgt := 25) hx hb dX12_slipsAs_7 (by decide) (fun c => ?_) (fun c => absurd c (by decide))
  refine lv_iload_n hx hb dX12_slipsAs_25 rfl (lv_at hl 1 rfl) ?_
  refine lv_iconst (v := 4) hx hb dX12_slipsAs_26 (by decide) ?_
  refine lv_icmp_eq (tgt := 36) hx hb dX12_slipsAs_27 (by decide) (fun c => absurd c (by decide)) (fun c => ?_)
  refine lv_iload_n hx hb dX12_slipsAs_30 rfl (lv_at hl 1 rfl) ?_
  refine lv_bipush (v := 7) hx hb dX12_slipsAs_31 (by decide) ?_
  refine lv_icmp_ne (tgt := 61) hx hb dX12_slipsAs_33 (by decide) (fun c => ?_) (fun c => absurd c (by decide))
  refine lv_aload_n hx hb dX12_slipsAs_61 rfl (lv_at hl 0 rfl) ?_
  refine lv_bipush (v := 11) hx hb dX12_slipsAs_62 (by decide) ?_
  have q_2 : (f 0 48).toInt = 3 := (congrArg Int32.toInt (show f 0 48 = 3 from hf_0_48)).trans (by decide)
  have q_3 : (f 0 48).toInt = 3 := (congrArg Int32.toInt (show f 0 48 = 3 from hf_0_48)).trans (by decide)
  refine sg_callv (va_runV (As := [.int 11]) (rest := []) ⟨hx, hb, hml, hown, hts⟩ (kX12_begins_11_f3 l D ca za h hh f L Q hI hf_0_48 (by have k0 : (11 : Int32).toInt = 11 := (by decide); omega) H.size) (cwV 1 hts (gw_V (fun _ h => List.mem_cons_of_mem _ h) mw_734 mw_735 mw_736 mw_619 mw_733) rfl rfl rfl (by decide +kernel) ⟨Nat.le_of_ble_eq_true rfl, Nat.le_of_ble_eq_true rfl⟩) (sg_preV (ci := 12) (C := RX12) (T := TX12) (N := 55) hA hK hP hS hZ 0 (by decide) rfl rfl) rfl rfl hl.1 rfl (lv_room (Nat.le_of_ble_eq_true rfl)) dX12_slipsAs_64 ⟨Nat.le_refl _, Nat.le_refl _⟩) hA hS (fun f_4 L_5 Q_6 H locs hq hP hS => ?_)
  obtain ⟨⟨hI, hk_f_4, eL9, eQ9⟩, p_7⟩ := hq
  rw [eL9, eQ9] at hP; clear eL9 eQ9
  have hF : sgK WkX12_slipsAs_0_f3_f0 f f_4 := sgK.tr hF hk_f_4 (by decide)
  obtain ⟨v_8, ev_8⟩ : ∃ z : Int32, z = f_4 0 48 := ⟨_, rfl⟩
  have q_9 : 0 ≤ v_8.toInt ∧ v_8.toInt ≤ 19 := by rw [ev_8]; exact hI 0 48
  have q_10 : (f_4 0 48).toInt = v_8.toInt := (congrArg Int32.toInt (show f_4 0 48 = v_8 from ev_8.symm))
  have q_11 : (f_4 0 48).toInt = v_8.toInt := (congrArg Int32.toInt (show f_4 0 48 = v_8 from ev_8.symm))
  refine lv_iload_n hx hb dX12_slipsAs_67 rfl (lv_at hl 2 rfl) ?_
  refine lv_aload_n hx hb dX12_slipsAs_68 rfl (lv_at hl 0 rfl) ?_
  refine sg_get (ci := 12) (v := .int (f_4 0 50)) (C := RX12) (T := TX12) (N := 55) hx hb hts (fun w h => List.mem_cons_of_mem _ (gx_12 w h)) hown hK hP 0 (by decide) rfl rfl 50 (by decide) (hts _ (List.mem_cons_of_mem _ mw_680)) (fun _ h9 => h9) rfl dX12_slipsAs_69 ?_
  refine lv_topi (fun v_12 ev_12 => ?_)
  have q_13 : 0 ≤ v_12.toInt ∧ v_12.toInt ≤ 49 := by rw [ev_12]; exact hI 0 50
  refine lv_ixor hx hb dX12_slipsAs_72 ?_
  refine lv_topi (fun v_14 ev_14 => ?_)
  have q_15 : (f_4 0 48).toInt = v_8.toInt := (congrArg Int32.toInt (show f_4 0 48 = v_8 from ev_8.symm))
  have q_16 : (f_4 0 48).toInt = v_8.toInt := (congrArg Int32.toInt (show f_4 0 48 = v_8 from ev_8.symm))
  exact hret _ _ _ _ (v_14) f_4 L Q dX12_slipsAs_73 hP hS ⟨⟨hI, hF, rfl, rfl⟩, trivial, (by omega)⟩

abbrev WkX12_tellsAs_0_f0_f0 : List (Nat × Nat × Option Nat) := [(0, 0, some 48), (21, 21, none)]
set_option maxHeartbeats 4000000 in
set_option maxRecDepth 100000 in
theorem kX12_tellsAs_0_f0_f0 (l : Launch) (D : va_G) (ca : Nat → ClassId) (za h : Nat → Nat) (hh : sgH 26 h) (f : sg_F) (L : sg_L) (Q : sg_Q) (hI : sgI loM hiM f) (x1 : Int32) (hf_0_48 : f 0 48 = 0) (hf_0_49 : f 0 49 = 0) (p0 : 0 ≤ (f 0 48).toInt ∧ (f 0 48).toInt ≤ 0) (sz : Nat) : Met l yX12_tellsAs gwX12_tellsAs { frames := 3, cells := 0, slots := 0, locals := 66 } (sgP D vwCl (tyX ca) 26 h (eM ca h) zcM za f L Q sz [.ref (h 0), .int 0, .int x1]) (sgQi D vwCl 26 h (eM ca h) sz (fun r f1 L1 Q1 => ((sgI loM hiM f1 ∧ sgK WkX12_tellsAs_0_f0_f0 f f1 ∧ L1 = L ∧ Q1 = Q) ∧ True ∧ (4 ≤ (f1 0 48).toInt ∧ (f1 0 48).toInt ≤ 4)))) 0 0 (sgA 26 h sz) := by
  refine sg_ofWi (cc := cX12_tellsAs) (maxL := 4) RX12 (by decide) rfl rfl (Nat.le_of_ble_eq_true rfl) ?_
  intro p e s m below meth cd Qz ls hx hb hml hown hts hK hZ hP hS hl hret
  have hA := sgY.self (n := 26) (h := h) (sz := s.heap.size)
  have hl : lv_has ls 4 [(0, .ref (h 0)), (1, .int 0), (2, .int x1)] := hl
  obtain ⟨H, hH⟩ : ∃ z : Heap, z = s.heap := ⟨_, rfl⟩
  obtain ⟨locs, hlo⟩ : ∃ z : List Loc, z = [] := ⟨_, rfl⟩
  have hP : va_P D vwCl (sgw 26 h (eM ca h) f L Q) H := by rw [hH]; exact hP
  have hS : va_S (sgA 26 h s.heap.size) s.heap H locs := by rw [hH, hlo]; exact hS
  suffices hgo : W p l e ({ frames := 3, cells := 0, slots := 0, locals := 66 }) s m ([.ref (h 0), .int 0, .int x1] : List Value).toArray below meth cd H locs 0 0 Qz (F0 m 0 ls []) by rw [hH, hlo] at hgo; exact hgo
  clear hH hlo
  have o_1 : (f 0 48).toInt = 0 := (congrArg Int32.toInt (show f 0 48 = 0 from hf_0_48)).trans (by decide)
  have hF : sgK WkX12_tellsAs_0_f0_f0 f f := sgK.rf
  refine lv_iload_n hx hb dX12_tellsAs_0 rfl (lv_at hl 1 rfl) ?_
  refine lv_iconst (v := 5) hx hb dX12_tellsAs_1 (by decide) ?_
  refine lv_icmp_ne (tgt := 20) hx hb dX12_tellsAs_2 (by decide) (fun c => ?_) (fun c => absurd c (by decide))
  refine lv_iload_n hx hb dX12_tellsAs_20 rfl (lv_at hl 1 rfl) ?_
  refine lv_bipush (v := 7) hx hb dX12_tellsAs_21 (by decide) ?_
  refine lv_icmp_ne (tgt := 41) hx hb dX12_tellsAs_23 (by decide) (fun c => ?_) (fun c => absurd c (by decide))
  refine lv_aload_n hx hb dX12_tellsAs_41 rfl (lv_at hl 0 rfl) ?_
  refine lv_iconst (v := 2) hx hb dX12_tellsAs_42 (by decide) ?_
  have q_2 : (f 0 48).toInt = 0 := (congrArg Int32.toInt (show f 0 48 = 0 from hf_0_48)).trans (by decide)
  have q_3 : (f 0 48).toInt = 0 := (congrArg Int32.toInt (show f 0 48 = 0 from hf_0_48)).trans (by decide)
  refine sg_callv (va_runV (As := [.int 2]) (rest := []) ⟨hx, hb, hml, hown, hts⟩ (kX12_begins_2_f0 l D ca za h hh f L Q hI hf_0_48 (by have k0 : (2 : Int32).toInt = 2 := (by decide); omega) H.size) (cwV 1 hts (gw_V (fun _ h => List.mem_cons_of_mem _ h) mw_734 mw_735 mw_736 mw_619 mw_733) rfl rfl rfl (by decide +kernel) ⟨Nat.le_of_ble_eq_true rfl, Nat.le_of_ble_eq_true rfl⟩) (sg_preV (ci := 12) (C := RX12) (T := TX12) (N := 55) hA hK hP hS hZ 0 (by decide) rfl rfl) rfl rfl hl.1 rfl (lv_room (Nat.le_of_ble_eq_true rfl)) dX12_tellsAs_43 ⟨Nat.le_refl _, Nat.le_refl _⟩) hA hS (fun f_4 L_5 Q_6 H locs hq hP hS => ?_)
  obtain ⟨⟨hI, hk_f_4, eL9, eQ9⟩, p_7⟩ := hq
  rw [eL9, eQ9] at hP; clear eL9 eQ9
  have hF : sgK WkX12_tellsAs_0_f0_f0 f f_4 := sgK.tr hF hk_f_4 (by decide)
  obtain ⟨v_8, ev_8⟩ : ∃ z : Int32, z = f_4 0 48 := ⟨_, rfl⟩
  have q_9 : 0 ≤ v_8.toInt ∧ v_8.toInt ≤ 19 := by rw [ev_8]; exact hI 0 48
  have q_10 : (f_4 0 48).toInt = v_8.toInt := (congrArg Int32.toInt (show f_4 0 48 = v_8 from ev_8.symm))
  have q_11 : (f_4 0 48).toInt = v_8.toInt := (congrArg Int32.toInt (show f_4 0 48 = v_8 from ev_8.symm))
  refine lv_aload_n hx hb dX12_tellsAs_46 rfl (lv_at hl 0 rfl) ?_
  refine lv_aload_n hx hb dX12_tellsAs_47 rfl (lv_at hl 0 rfl) ?_
  refine sg_get (ci := 12) (v := .int 0) (C := RX12) (T := TX12) (N := 55) hx hb hts (fun w h => List.mem_cons_of_mem _ (gx_12 w h)) hown hK hP 0 (by decide) rfl rfl 49 (by decide) (hts _ (List.mem_cons_of_mem _ mw_679)) (fun _ h9 => h9) (congrArg (fun z => some (Value.int z)) (show f_4 0 49 = 0 from ((hk_f_4 0 49 (by decide)).trans hf_0_49))) dX12_tellsAs_48 ?_
  refine lv_iload_n hx hb dX12_tellsAs_51 rfl (lv_at hl 2 rfl) ?_
  have c_12 : v_8 = 1 := Int32.toInt_inj.mp (by have k9 : (1 : Int32).toInt = 1 := (by decide); omega)
  have q_13 : (f_4 0 48).toInt = 1 := (congrArg Int32.toInt (show f_4 0 48 = 1 from (Eq.trans ev_8.symm c_12))).trans (by decide)
  have q_14 : (f_4 0 48).toInt = 1 := (congrArg Int32.toInt (show f_4 0 48 = 1 from (Eq.trans ev_8.symm c_12))).trans (by decide)
  refine sg_calli (va_runV (As := [.int 0, .int x1]) (rest := []) ⟨hx, hb, hml, hown, hts⟩ (kX12_sitsAs_0_f1_f0 l D ca za h hh f_4 L Q hI x1 (Eq.trans ev_8.symm c_12) ((hk_f_4 0 49 (by decide)).trans hf_0_49) (by have k0 : (0 : Int32).toInt = 0 := (by decide); omega) H.size) (cwV 2 hts (gw_V (fun _ h => List.mem_cons_of_mem _ h) mw_801 mw_802 mw_803 mw_619 mw_800) rfl rfl rfl (by decide +kernel) ⟨Nat.le_of_ble_eq_true rfl, Nat.le_of_ble_eq_true rfl⟩) (sg_preV (ci := 12) (C := RX12) (T := TX12) (N := 55) hA hK hP hS hZ 0 (by decide) rfl rfl) rfl rfl hl.1 rfl (lv_room (Nat.le_of_ble_eq_true rfl)) dX12_tellsAs_52 ⟨Nat.le_refl _, Nat.le_refl _⟩) hA hS (fun r_18 f_15 L_16 Q_17 H locs hq hP hS => ?_)
  obtain ⟨⟨hI, hk_f_15, eL9, eQ9⟩, hq, p_19⟩ := hq
  rw [eL9, eQ9] at hP; clear eL9 eQ9
  have hF : sgK WkX12_tellsAs_0_f0_f0 f f_15 := sgK.tr hF hk_f_15 (by decide)
  obtain ⟨v_20, ev_20⟩ : ∃ z : Int32, z = f_15 0 48 := ⟨_, rfl⟩
  have q_21 : 0 ≤ v_20.toInt ∧ v_20.toInt ≤ 19 := by rw [ev_20]; exact hI 0 48
  have q_22 : (f_15 0 48).toInt = v_20.toInt := (congrArg Int32.toInt (show f_15 0 48 = v_20 from ev_20.symm))
  have q_23 : (f_15 0 48).toInt = v_20.toInt := (congrArg Int32.toInt (show f_15 0 48 = v_20 from ev_20.symm))
  have k_24 : (0 : Int32).toInt = 0 := by decide
  refine lv_istore_n (lv' := [(3, .int r_18), (0, .ref (h 0)), (1, .int 0), (2, .int x1)]) hx hb dX12_tellsAs_55 rfl hl (by decide) rfl (fun ls hl => ?_)
  refine lv_iload_n hx hb dX12_tellsAs_56 rfl (lv_at hl 0 rfl) ?_
  refine lv_aload_n hx hb dX12_tellsAs_57 rfl (lv_at hl 1 rfl) ?_
  refine lv_aload_n hx hb dX12_tellsAs_58 rfl (lv_at hl 1 rfl) ?_
  refine sg_get (ci := 12) (v := .int 0) (C := RX12) (T := TX12) (N := 55) hx hb hts (fun w h => List.mem_cons_of_mem _ (gx_12 w h)) hown hK hP 0 (by decide) rfl rfl 49 (by decide) (hts _ (List.mem_cons_of_mem _ mw_679)) (fun _ h9 => h9) (congrArg (fun z => some (Value.int z)) (show f_15 0 49 = 0 from ((hk_f_15 0 49 (by decide)).trans ((hk_f_4 0 49 (by decide)).trans hf_0_49)))) dX12_tellsAs_59 ?_
  refine lv_iconst (v := 1) hx hb dX12_tellsAs_62 (by decide) ?_
  have c_25 : v_20 = 3 := Int32.toInt_inj.mp (by have k9 : (3 : Int32).toInt = 3 := (by decide); omega)
  have q_26 : (f_15 0 48).toInt = 3 := (congrArg Int32.toInt (show f_15 0 48 = 3 from (Eq.trans ev_20.symm c_25))).trans (by decide)
  have q_27 : (f_15 0 48).toInt = 3 := (congrArg Int32.toInt (show f_15 0 48 = 3 from (Eq.trans ev_20.symm c_25))).trans (by decide)
  refine sg_calli (va_runV (As := [.int 0, .int 1]) (rest := [.int r_18]) ⟨hx, hb, hml, hown, hts⟩ (kX12_slipsAs_0_f3_f0 l D ca za h hh f_15 L Q hI 1 (Eq.trans ev_20.symm c_25) ((hk_f_15 0 49 (by decide)).trans ((hk_f_4 0 49 (by decide)).trans hf_0_49)) (by decide) (by have k0 : (0 : Int32).toInt = 0 := (by decide); have k1 : (1 : Int32).toInt = 1 := (by decide); omega) H.size) (cwV 2 hts (gw_V (fun _ h => List.mem_cons_of_mem _ h) mw_748 mw_749 mw_750 mw_619 mw_747) rfl rfl rfl (by decide +kernel) ⟨Nat.le_of_ble_eq_true rfl, Nat.le_of_ble_eq_true rfl⟩) (sg_preV (ci := 12) (C := RX12) (T := TX12) (N := 55) hA hK hP hS hZ 0 (by decide) rfl rfl) rfl rfl hl.1 rfl (lv_room (Nat.le_of_ble_eq_true rfl)) dX12_tellsAs_63 ⟨Nat.le_refl _, Nat.le_refl _⟩) hA hS (fun r_31 f_28 L_29 Q_30 H locs hq hP hS => ?_)
  obtain ⟨⟨hI, hk_f_28, eL9, eQ9⟩, hq, p_32⟩ := hq
  rw [eL9, eQ9] at hP; clear eL9 eQ9
  have hF : sgK WkX12_tellsAs_0_f0_f0 f f_28 := sgK.tr hF hk_f_28 (by decide)
  obtain ⟨v_33, ev_33⟩ : ∃ z : Int32, z = f_28 0 48 := ⟨_, rfl⟩
  have q_34 : 0 ≤ v_33.toInt ∧ v_33.toInt ≤ 19 := by rw [ev_33]; exact hI 0 48
  have q_35 : (f_28 0 48).toInt = v_33.toInt := (congrArg Int32.toInt (show f_28 0 48 = v_33 from ev_33.symm))
  have q_36 : (f_28 0 48).toInt = v_33.toInt := (congrArg Int32.toInt (show f_28 0 48 = v_33 from ev_33.symm))
  have k_37 : (0 : Int32).toInt = 0 := by decide
  have k_38 : (1 : Int32).toInt = 1 := by decide
  refine lv_isub hx hb dX12_tellsAs_66 ?_
  refine lv_topi (fun v_39 ev_39 => ?_)
  have q_40 : (f_28 0 48).toInt = v_33.toInt := (congrArg Int32.toInt (show f_28 0 48 = v_33 from ev_33.symm))
  have q_41 : (f_28 0 48).toInt = v_33.toInt := (congrArg Int32.toInt (show f_28 0 48 = v_33 from ev_33.symm))
  exact hret _ _ _ _ (v_39) f_28 L Q dX12_tellsAs_67 hP hS ⟨⟨hI, hF, rfl, rfl⟩, trivial, (by omega)⟩

abbrev WkX12_setsAs_0_f3_f1 : List (Nat × Nat × Option Nat) := [(0, 0, some 48), (21, 21, none)]
set_option maxHeartbeats 4000000 in
set_option maxRecDepth 100000 in
theorem kX12_setsAs_0_f3_f1 (l : Launch) (D : va_G) (ca : Nat → ClassId) (za h : Nat → Nat) (hh : sgH 26 h) (f : sg_F) (L : sg_L) (Q : sg_Q) (hI : sgI loM hiM f) (x1 : Int32) (hf_0_48 : f 0 48 = 3) (hf_0_49 : f 0 49 = 1) (p0 : 3 ≤ (f 0 48).toInt ∧ (f 0 48).toInt ≤ 3) (sz : Nat) : Met l yX12_setsAs gwX12_setsAs { frames := 1, cells := 0, slots := 0, locals := 21 } (sgP D vwCl (tyX ca) 26 h (eM ca h) zcM za f L Q sz [.ref (h 0), .int 0, .int x1]) (sgQi D vwCl 26 h (eM ca h) sz (fun r f1 L1 Q1 => ((sgI loM hiM f1 ∧ sgK WkX12_setsAs_0_f3_f1 f f1 ∧ L1 = L ∧ Q1 = Q) ∧ True ∧ (4 ≤ (f1 0 48).toInt ∧ (f1 0 48).toInt ≤ 4)))) 0 0 (sgA 26 h sz) := by
  refine sg_ofWi (cc := cX12_setsAs) (maxL := 3) RX12 (by decide) rfl rfl (Nat.le_of_ble_eq_true rfl) ?_
  intro p e s m below meth cd Qz ls hx hb hml hown hts hK hZ hP hS hl hret
  have hA := sgY.self (n := 26) (h := h) (sz := s.heap.size)
  have hl : lv_has ls 3 [(0, .ref (h 0)), (1, .int 0), (2, .int x1)] := hl
  obtain ⟨H, hH⟩ : ∃ z : Heap, z = s.heap := ⟨_, rfl⟩
  obtain ⟨locs, hlo⟩ : ∃ z : List Loc, z = [] := ⟨_, rfl⟩
  have hP : va_P D vwCl (sgw 26 h (eM ca h) f L Q) H := by rw [hH]; exact hP
  have hS : va_S (sgA 26 h s.heap.size) s.heap H locs := by rw [hH, hlo]; exact hS
  suffices hgo : W p l e ({ frames := 1, cells := 0, slots := 0, locals := 21 }) s m ([.ref (h 0), .int 0, .int x1] : List Value).toArray below meth cd H locs 0 0 Qz (F0 m 0 ls []) by rw [hH, hlo] at hgo; exact hgo
  clear hH hlo
  have o_1 : (f 0 48).toInt = 3 := (congrArg Int32.toInt (show f 0 48 = 3 from hf_0_48)).trans (by decide)
  have hF : sgK WkX12_setsAs_0_f3_f1 f f := sgK.rf
  refine lv_iload_n hx hb dX12_setsAs_0 rfl (lv_at hl 1 rfl) ?_
  refine lv_iconst (v := 1) hx hb dX12_setsAs_1 (by decide) ?_
  refine lv_icmp_eq (tgt := 16) hx hb dX12_setsAs_2 (by decide) (fun c => absurd c (by decide)) (fun c => ?_)
  refine lv_iload_n hx hb dX12_setsAs_5 rfl (lv_at hl 1 rfl) ?_
  refine lv_iconst (v := 4) hx hb dX12_setsAs_6 (by decide) ?_
  refine lv_icmp_eq (tgt := 16) hx hb dX12_setsAs_7 (by decide) (fun c => absurd c (by decide)) (fun c => ?_)
  refine lv_iload_n hx hb dX12_setsAs_10 rfl (lv_at hl 1 rfl) ?_
  refine lv_bipush (v := 7) hx hb dX12_setsAs_11 (by decide) ?_
  refine lv_icmp_ne (tgt := 31) hx hb dX12_setsAs_13 (by decide) (fun c => ?_) (fun c => absurd c (by decide))
  refine lv_iload_n hx hb dX12_setsAs_31 rfl (lv_at hl 1 rfl) ?_
  refine lv_bipush (v := 6) hx hb dX12_setsAs_32 (by decide) ?_
  refine lv_icmp_ne (tgt := 52) hx hb dX12_setsAs_34 (by decide) (fun c => ?_) (fun c => absurd c (by decide))
  refine lv_aload_n hx hb dX12_setsAs_52 rfl (lv_at hl 0 rfl) ?_
  refine lv_iconst (v := 1) hx hb dX12_setsAs_53 (by decide) ?_
  have q_2 : (f 0 48).toInt = 3 := (congrArg Int32.toInt (show f 0 48 = 3 from hf_0_48)).trans (by decide)
  have q_3 : (f 0 48).toInt = 3 := (congrArg Int32.toInt (show f 0 48 = 3 from hf_0_48)).trans (by decide)
  refine sg_callv (va_runV (As := [.int 1]) (rest := []) ⟨hx, hb, hml, hown, hts⟩ (kX12_begins_1_f3 l D ca za h hh f L Q hI hf_0_48 (by have k0 : (1 : Int32).toInt = 1 := (by decide); omega) H.size) (cwV 1 hts (gw_V (fun _ h => List.mem_cons_of_mem _ h) mw_734 mw_735 mw_736 mw_619 mw_733) rfl rfl rfl (by decide +kernel) ⟨Nat.le_of_ble_eq_true rfl, Nat.le_of_ble_eq_true rfl⟩) (sg_preV (ci := 12) (C := RX12) (T := TX12) (N := 55) hA hK hP hS hZ 0 (by decide) rfl rfl) rfl rfl hl.1 rfl (lv_room (Nat.le_of_ble_eq_true rfl)) dX12_setsAs_54 ⟨Nat.le_refl _, Nat.le_refl _⟩) hA hS (fun f_4 L_5 Q_6 H locs hq hP hS => ?_)
  obtain ⟨⟨hI, hk_f_4, eL9, eQ9⟩, p_7⟩ := hq
  rw [eL9, eQ9] at hP; clear eL9 eQ9
  have hF : sgK WkX12_setsAs_0_f3_f1 f f_4 := sgK.tr hF hk_f_4 (by decide)
  obtain ⟨v_8, ev_8⟩ : ∃ z : Int32, z = f_4 0 48 := ⟨_, rfl⟩
  have q_9 : 0 ≤ v_8.toInt ∧ v_8.toInt ≤ 19 := by rw [ev_8]; exact hI 0 48
  have q_10 : (f_4 0 48).toInt = v_8.toInt := (congrArg Int32.toInt (show f_4 0 48 = v_8 from ev_8.symm))
  have q_11 : (f_4 0 48).toInt = v_8.toInt := (congrArg Int32.toInt (show f_4 0 48 = v_8 from ev_8.symm))
  refine lv_iload_n hx hb dX12_setsAs_57 rfl (lv_at hl 2 rfl) ?_
  refine lv_aload_n hx hb dX12_setsAs_58 rfl (lv_at hl 0 rfl) ?_
  refine sg_get (ci := 12) (v := .int (f_4 0 50)) (C := RX12) (T := TX12) (N := 55) hx hb hts (fun w h => List.mem_cons_of_mem _ (gx_12 w h)) hown hK hP 0 (by decide) rfl rfl 50 (by decide) (hts _ (List.mem_cons_of_mem _ mw_680)) (fun _ h9 => h9) rfl dX12_setsAs_59 ?_
  refine lv_topi (fun v_12 ev_12 => ?_)
  have q_13 : 0 ≤ v_12.toInt ∧ v_12.toInt ≤ 49 := by rw [ev_12]; exact hI 0 50
  refine lv_iadd hx hb dX12_setsAs_62 ?_
  refine lv_topi (fun v_14 ev_14 => ?_)
  have q_15 : (f_4 0 48).toInt = v_8.toInt := (congrArg Int32.toInt (show f_4 0 48 = v_8 from ev_8.symm))
  have q_16 : (f_4 0 48).toInt = v_8.toInt := (congrArg Int32.toInt (show f_4 0 48 = v_8 from ev_8.symm))
  exact hret _ _ _ _ (v_14) f_4 L Q dX12_setsAs_63 hP hS ⟨⟨hI, hF, rfl, rfl⟩, trivial, (by omega)⟩

abbrev WkX12_setsAs_1_f2_f1 : List (Nat × Nat × Option Nat) := [(0, 0, some 48), (21, 21, none)]
set_option maxHeartbeats 4000000 in
set_option maxRecDepth 100000 in
theorem kX12_setsAs_1_f2_f1 (l : Launch) (D : va_G) (ca : Nat → ClassId) (za h : Nat → Nat) (hh : sgH 26 h) (f : sg_F) (L : sg_L) (Q : sg_Q) (hI : sgI loM hiM f) (x1 : Int32) (hf_0_48 : f 0 48 = 2) (hf_0_49 : f 0 49 = 1) (p0 : 2 ≤ (f 0 48).toInt ∧ (f 0 48).toInt ≤ 2) (sz : Nat) : Met l yX12_setsAs gwX12_setsAs { frames := 2, cells := 0, slots := 0, locals := 43 } (sgP D vwCl (tyX ca) 26 h (eM ca h) zcM za f L Q sz [.ref (h 0), .int 1, .int x1]) (sgQi D vwCl 26 h (eM ca h) sz (fun r f1 L1 Q1 => ((sgI loM hiM f1 ∧ sgK WkX12_setsAs_1_f2_f1 f f1 ∧ L1 = L ∧ Q1 = Q) ∧ True ∧ (4 ≤ (f1 0 48).toInt ∧ (f1 0 48).toInt ≤ 4)))) 0 0 (sgA 26 h sz) := by
  refine sg_ofWi (cc := cX12_setsAs) (maxL := 3) RX12 (by decide) rfl rfl (Nat.le_of_ble_eq_true rfl) ?_
  intro p e s m below meth cd Qz ls hx hb hml hown hts hK hZ hP hS hl hret
  have hA := sgY.self (n := 26) (h := h) (sz := s.heap.size)
  have hl : lv_has ls 3 [(0, .ref (h 0)), (1, .int 1), (2, .int x1)] := hl
  obtain ⟨H, hH⟩ : ∃ z : Heap, z = s.heap := ⟨_, rfl⟩
  obtain ⟨locs, hlo⟩ : ∃ z : List Loc, z = [] := ⟨_, rfl⟩
  have hP : va_P D vwCl (sgw 26 h (eM ca h) f L Q) H := by rw [hH]; exact hP
  have hS : va_S (sgA 26 h s.heap.size) s.heap H locs := by rw [hH, hlo]; exact hS
  suffices hgo : W p l e ({ frames := 2, cells := 0, slots := 0, locals := 43 }) s m ([.ref (h 0), .int 1, .int x1] : List Value).toArray below meth cd H locs 0 0 Qz (F0 m 0 ls []) by rw [hH, hlo] at hgo; exact hgo
  clear hH hlo
  have o_1 : (f 0 48).toInt = 2 := (congrArg Int32.toInt (show f 0 48 = 2 from hf_0_48)).trans (by decide)
  have hF : sgK WkX12_setsAs_1_f2_f1 f f := sgK.rf
  have blk_16 : ∀ (fp_16 : sg_F) (H : Heap) (locs : List Loc) (ls : Array Slot), 2 ≤ (fp_16 0 48).toInt ∧ (fp_16 0 48).toInt ≤ 2 → 1 ≤ (fp_16 0 49).toInt ∧ (fp_16 0 49).toInt ≤ 1 → sgI loM hiM fp_16 → sgK WkX12_setsAs_1_f2_f1 f fp_16 → va_P D vwCl (sgw 26 h (eM ca h) fp_16 L Q) H → va_S (sgA 26 h s.heap.size) s.heap H locs → lv_has ls 3 [(0, .ref (h 0)), (2, .int x1)] → W p l e ({ frames := 2, cells := 0, slots := 0, locals := 43 }) s m ([.ref (h 0), .int 1, .int x1] : List Value).toArray below meth cd H locs 0 0 Qz (F0 m 16 ls []) := by
    intro fp_16 H locs ls hy0_16 hy1_16 hI hF hP hS hl
    obtain ⟨v_2, ev_2⟩ : ∃ z : Int32, z = fp_16 0 48 := ⟨_, rfl⟩
    have q_3 : 0 ≤ v_2.toInt ∧ v_2.toInt ≤ 19 := by rw [ev_2]; exact hI 0 48
    have q_4 : (fp_16 0 48).toInt = v_2.toInt := by rw [ev_2]
    obtain ⟨v_5, ev_5⟩ : ∃ z : Int32, z = fp_16 0 49 := ⟨_, rfl⟩
    have q_6 : 0 ≤ v_5.toInt ∧ v_5.toInt ≤ 7 := by rw [ev_5]; exact hI 0 49
    have q_7 : (fp_16 0 49).toInt = v_5.toInt := by rw [ev_5]
    have m_8 : fp_16 0 49 = 1 := (hF 0 49 (by decide)).trans hf_0_49
    refine lv_aload_n hx hb dX12_setsAs_16 rfl (lv_at hl 0 rfl) ?_
    refine lv_bipush (v := 20) hx hb dX12_setsAs_17 (by decide) ?_
    have c_9 : v_2 = 2 := Int32.toInt_inj.mp (by have k9 : (2 : Int32).toInt = 2 := (by decide); omega)
    have q_10 : (fp_16 0 48).toInt = 2 := (congrArg Int32.toInt (show fp_16 0 48 = 2 from (Eq.trans ev_2.symm c_9))).trans (by decide)
    have q_11 : (fp_16 0 48).toInt = 2 := (congrArg Int32.toInt (show fp_16 0 48 = 2 from (Eq.trans ev_2.symm c_9))).trans (by decide)
    refine sg_callv (va_runV (As := [.int 20]) (rest := []) ⟨hx, hb, hml, hown, hts⟩ (kX12_begins_20_f2 l D ca za h hh fp_16 L Q hI (Eq.trans ev_2.symm c_9) (by have k0 : (20 : Int32).toInt = 20 := (by decide); omega) H.size) (cwV 1 hts (gw_V (fun _ h => List.mem_cons_of_mem _ h) mw_734 mw_735 mw_736 mw_619 mw_733) rfl rfl rfl (by decide +kernel) ⟨Nat.le_of_ble_eq_true rfl, Nat.le_of_ble_eq_true rfl⟩) (sg_preV (ci := 12) (C := RX12) (T := TX12) (N := 55) hA hK hP hS hZ 0 (by decide) rfl rfl) rfl rfl hl.1 rfl (lv_room (Nat.le_of_ble_eq_true rfl)) dX12_setsAs_19 ⟨Nat.le_refl _, Nat.le_refl _⟩) hA hS (fun f_12 L_13 Q_14 H locs hq hP hS => ?_)
    obtain ⟨⟨hI, hk_f_12, eL9, eQ9⟩, p_15⟩ := hq
    rw [eL9, eQ9] at hP; clear eL9 eQ9
    have hF : sgK WkX12_setsAs_1_f2_f1 f f_12 := sgK.tr hF hk_f_12 (by decide)
    obtain ⟨v_16, ev_16⟩ : ∃ z : Int32, z = f_12 0 48 := ⟨_, rfl⟩
    have q_17 : 0 ≤ v_16.toInt ∧ v_16.toInt ≤ 19 := by rw [ev_16]; exact hI 0 48
    have q_18 : (f_12 0 48).toInt = v_16.toInt := (congrArg Int32.toInt (show f_12 0 48 = v_16 from ev_16.symm))
    have q_19 : (f_12 0 48).toInt = v_16.toInt := (congrArg Int32.toInt (show f_12 0 48 = v_16 from ev_16.symm))
    refine lv_aload_n hx hb dX12_setsAs_22 rfl (lv_at hl 0 rfl) ?_
    refine lv_iconst (v := 0) hx hb dX12_setsAs_23 (by decide) ?_
    refine lv_iload_n hx hb dX12_setsAs_24 rfl (lv_at hl 1 rfl) ?_
    have c_20 : v_16 = 3 := Int32.toInt_inj.mp (by have k9 : (3 : Int32).toInt = 3 := (by decide); omega)
    have q_21 : (f_12 0 48).toInt = 3 := (congrArg Int32.toInt (show f_12 0 48 = 3 from (Eq.trans ev_16.symm c_20))).trans (by decide)
    have q_22 : (f_12 0 48).toInt = 3 := (congrArg Int32.toInt (show f_12 0 48 = 3 from (Eq.trans ev_16.symm c_20))).trans (by decide)
    refine sg_calli (va_runV (As := [.int 0, .int x1]) (rest := []) ⟨hx, hb, hml, hown, hts⟩ (kX12_setsAs_0_f3_f1 l D ca za h hh f_12 L Q hI x1 (Eq.trans ev_16.symm c_20) ((hk_f_12 0 49 (by decide)).trans m_8) (by have k0 : (0 : Int32).toInt = 0 := (by decide); omega) H.size) (cwV 2 hts (gw_V (fun _ h => List.mem_cons_of_mem _ h) mw_744 mw_745 mw_746 mw_619 mw_743) rfl rfl rfl (by decide +kernel) ⟨Nat.le_of_ble_eq_true rfl, Nat.le_of_ble_eq_true rfl⟩) (sg_preV (ci := 12) (C := RX12) (T := TX12) (N := 55) hA hK hP hS hZ 0 (by decide) rfl rfl) rfl rfl hl.1 rfl (lv_room (Nat.le_of_ble_eq_true rfl)) dX12_setsAs_25 ⟨Nat.le_refl _, Nat.le_refl _⟩) hA hS (fun r_26 f_23 L_24 Q_25 H locs hq hP hS => ?_)
    obtain ⟨⟨hI, hk_f_23, eL9, eQ9⟩, hq, p_27⟩ := hq
    rw [eL9, eQ9] at hP; clear eL9 eQ9
    have hF : sgK WkX12_setsAs_1_f2_f1 f f_23 := sgK.tr hF hk_f_23 (by decide)
    obtain ⟨v_28, ev_28⟩ : ∃ z : Int32, z = f_23 0 48 := ⟨_, rfl⟩
    have q_29 : 0 ≤ v_28.toInt ∧ v_28.toInt ≤ 19 := by rw [ev_28]; exact hI 0 48
    have q_30 : (f_23 0 48).toInt = v_28.toInt := (congrArg Int32.toInt (show f_23 0 48 = v_28 from ev_28.symm))
    have q_31 : (f_23 0 48).toInt = v_28.toInt := (congrArg Int32.toInt (show f_23 0 48 = v_28 from ev_28.symm))
    have k_32 : (0 : Int32).toInt = 0 := by decide
    refine lv_iconst (v := 3) hx hb dX12_setsAs_28 (by decide) ?_
    refine lv_iadd hx hb dX12_setsAs_29 ?_
    refine lv_topi (fun v_33 ev_33 => ?_)
    have q_34 : (f_23 0 48).toInt = v_28.toInt := (congrArg Int32.toInt (show f_23 0 48 = v_28 from ev_28.symm))
    have q_35 : (f_23 0 48).toInt = v_28.toInt := (congrArg Int32.toInt (show f_23 0 48 = v_28 from ev_28.symm))
    exact hret _ _ _ _ (v_33) f_23 L Q dX12_setsAs_30 hP hS ⟨⟨hI, hF, rfl, rfl⟩, trivial, (by omega)⟩
  refine lv_iload_n hx hb dX12_setsAs_0 rfl (lv_at hl 1 rfl) ?_
  refine lv_iconst (v := 1) hx hb dX12_setsAs_1 (by decide) ?_
  refine lv_icmp_eq (tgt := 16) hx hb dX12_setsAs_2 (by decide) (fun c => ?_) (fun c => absurd c (by decide))
  exact blk_16 f _ _ _ (by have zz0_48 : (f 0 48).toInt = 2 := (congrArg Int32.toInt (show f 0 48 = 2 from hf_0_48)).trans (by decide); omega) (by have zz0_49 : (f 0 49).toInt = 1 := (congrArg Int32.toInt (show f 0 49 = 1 from hf_0_49)).trans (by decide); omega) hI hF hP hS (lv_sub hl [0, 2] rfl)

abbrev WkX12_sitsAs_1_f1_f1 : List (Nat × Nat × Option Nat) := [(0, 0, some 48), (21, 21, none)]
set_option maxHeartbeats 4000000 in
set_option maxRecDepth 100000 in
theorem kX12_sitsAs_1_f1_f1 (l : Launch) (D : va_G) (ca : Nat → ClassId) (za h : Nat → Nat) (hh : sgH 26 h) (f : sg_F) (L : sg_L) (Q : sg_Q) (hI : sgI loM hiM f) (x1 : Int32) (hf_0_48 : f 0 48 = 1) (hf_0_49 : f 0 49 = 1) (p0 : 1 ≤ (f 0 48).toInt ∧ (f 0 48).toInt ≤ 1) (sz : Nat) : Met l yX12_sitsAs gwX12_sitsAs { frames := 3, cells := 0, slots := 0, locals := 65 } (sgP D vwCl (tyX ca) 26 h (eM ca h) zcM za f L Q sz [.ref (h 0), .int 1, .int x1]) (sgQi D vwCl 26 h (eM ca h) sz (fun r f1 L1 Q1 => ((sgI loM hiM f1 ∧ sgK WkX12_sitsAs_1_f1_f1 f f1 ∧ L1 = L ∧ Q1 = Q) ∧ True ∧ (4 ≤ (f1 0 48).toInt ∧ (f1 0 48).toInt ≤ 4)))) 0 0 (sgA 26 h sz) := by
  refine sg_ofWi (cc := cX12_sitsAs) (maxL := 4) RX12 (by decide) rfl rfl (Nat.le_of_ble_eq_true rfl) ?_
  intro p e s m below meth cd Qz ls hx hb hml hown hts hK hZ hP hS hl hret
  have hA := sgY.self (n := 26) (h := h) (sz := s.heap.size)
  have hl : lv_has ls 4 [(0, .ref (h 0)), (1, .int 1), (2, .int x1)] := hl
  obtain ⟨H, hH⟩ : ∃ z : Heap, z = s.heap := ⟨_, rfl⟩
  obtain ⟨locs, hlo⟩ : ∃ z : List Loc, z = [] := ⟨_, rfl⟩
  have hP : va_P D vwCl (sgw 26 h (eM ca h) f L Q) H := by rw [hH]; exact hP
  have hS : va_S (sgA 26 h s.heap.size) s.heap H locs := by rw [hH, hlo]; exact hS
  suffices hgo : W p l e ({ frames := 3, cells := 0, slots := 0, locals := 65 }) s m ([.ref (h 0), .int 1, .int x1] : List Value).toArray below meth cd H locs 0 0 Qz (F0 m 0 ls []) by rw [hH, hlo] at hgo; exact hgo
  clear hH hlo
  have o_1 : (f 0 48).toInt = 1 := (congrArg Int32.toInt (show f 0 48 = 1 from hf_0_48)).trans (by decide)
  have hF : sgK WkX12_sitsAs_1_f1_f1 f f := sgK.rf
  refine lv_iload_n hx hb dX12_sitsAs_0 rfl (lv_at hl 1 rfl) ?_
  refine lv_iconst (v := 3) hx hb dX12_sitsAs_1 (by decide) ?_
  refine lv_icmp_eq (tgt := 10) hx hb dX12_sitsAs_2 (by decide) (fun c => absurd c (by decide)) (fun c => ?_)
  refine lv_iload_n hx hb dX12_sitsAs_5 rfl (lv_at hl 1 rfl) ?_
  refine lv_iconst (v := 5) hx hb dX12_sitsAs_6 (by decide) ?_
  refine lv_icmp_ne (tgt := 25) hx hb dX12_sitsAs_7 (by decide) (fun c => ?_) (fun c => absurd c (by decide))
  refine lv_iload_n hx hb dX12_sitsAs_25 rfl (lv_at hl 1 rfl) ?_
  refine lv_iconst (v := 2) hx hb dX12_sitsAs_26 (by decide) ?_
  refine lv_icmp_ne (tgt := 44) hx hb dX12_sitsAs_27 (by decide) (fun c => ?_) (fun c => absurd c (by decide))
  refine lv_iload_n hx hb dX12_sitsAs_44 rfl (lv_at hl 1 rfl) ?_
  refine lv_bipush (v := 7) hx hb dX12_sitsAs_45 (by decide) ?_
  refine lv_icmp_ne (tgt := 75) hx hb dX12_sitsAs_47 (by decide) (fun c => ?_) (fun c => absurd c (by decide))
  refine lv_aload_n hx hb dX12_sitsAs_75 rfl (lv_at hl 0 rfl) ?_
  refine lv_bipush (v := 10) hx hb dX12_sitsAs_76 (by decide) ?_
  have q_2 : (f 0 48).toInt = 1 := (congrArg Int32.toInt (show f 0 48 = 1 from hf_0_48)).trans (by decide)
  have q_3 : (f 0 48).toInt = 1 := (congrArg Int32.toInt (show f 0 48 = 1 from hf_0_48)).trans (by decide)
  refine sg_callv (va_runV (As := [.int 10]) (rest := []) ⟨hx, hb, hml, hown, hts⟩ (kX12_begins_10_f1 l D ca za h hh f L Q hI hf_0_48 (by have k0 : (10 : Int32).toInt = 10 := (by decide); omega) H.size) (cwV 1 hts (gw_V (fun _ h => List.mem_cons_of_mem _ h) mw_734 mw_735 mw_736 mw_619 mw_733) rfl rfl rfl (by decide +kernel) ⟨Nat.le_of_ble_eq_true rfl, Nat.le_of_ble_eq_true rfl⟩) (sg_preV (ci := 12) (C := RX12) (T := TX12) (N := 55) hA hK hP hS hZ 0 (by decide) rfl rfl) rfl rfl hl.1 rfl (lv_room (Nat.le_of_ble_eq_true rfl)) dX12_sitsAs_78 ⟨Nat.le_refl _, Nat.le_refl _⟩) hA hS (fun f_4 L_5 Q_6 H locs hq hP hS => ?_)
  obtain ⟨⟨hI, hk_f_4, eL9, eQ9⟩, p_7⟩ := hq
  rw [eL9, eQ9] at hP; clear eL9 eQ9
  have hF : sgK WkX12_sitsAs_1_f1_f1 f f_4 := sgK.tr hF hk_f_4 (by decide)
  obtain ⟨v_8, ev_8⟩ : ∃ z : Int32, z = f_4 0 48 := ⟨_, rfl⟩
  have q_9 : 0 ≤ v_8.toInt ∧ v_8.toInt ≤ 19 := by rw [ev_8]; exact hI 0 48
  have q_10 : (f_4 0 48).toInt = v_8.toInt := (congrArg Int32.toInt (show f_4 0 48 = v_8 from ev_8.symm))
  have q_11 : (f_4 0 48).toInt = v_8.toInt := (congrArg Int32.toInt (show f_4 0 48 = v_8 from ev_8.symm))
  refine lv_aload_n hx hb dX12_sitsAs_81 rfl (lv_at hl 0 rfl) ?_
  refine lv_aload_n hx hb dX12_sitsAs_82 rfl (lv_at hl 0 rfl) ?_
  refine sg_get (ci := 12) (v := .int 1) (C := RX12) (T := TX12) (N := 55) hx hb hts (fun w h => List.mem_cons_of_mem _ (gx_12 w h)) hown hK hP 0 (by decide) rfl rfl 49 (by decide) (hts _ (List.mem_cons_of_mem _ mw_679)) (fun _ h9 => h9) (congrArg (fun z => some (Value.int z)) (show f_4 0 49 = 1 from ((hk_f_4 0 49 (by decide)).trans hf_0_49))) dX12_sitsAs_83 ?_
  refine lv_iload_n hx hb dX12_sitsAs_86 rfl (lv_at hl 2 rfl) ?_
  have c_12 : v_8 = 2 := Int32.toInt_inj.mp (by have k9 : (2 : Int32).toInt = 2 := (by decide); omega)
  have q_13 : (f_4 0 48).toInt = 2 := (congrArg Int32.toInt (show f_4 0 48 = 2 from (Eq.trans ev_8.symm c_12))).trans (by decide)
  have q_14 : (f_4 0 48).toInt = 2 := (congrArg Int32.toInt (show f_4 0 48 = 2 from (Eq.trans ev_8.symm c_12))).trans (by decide)
  refine sg_calli (va_runV (As := [.int 1, .int x1]) (rest := []) ⟨hx, hb, hml, hown, hts⟩ (kX12_setsAs_1_f2_f1 l D ca za h hh f_4 L Q hI x1 (Eq.trans ev_8.symm c_12) ((hk_f_4 0 49 (by decide)).trans hf_0_49) (by have k0 : (1 : Int32).toInt = 1 := (by decide); omega) H.size) (cwV 2 hts (gw_V (fun _ h => List.mem_cons_of_mem _ h) mw_744 mw_745 mw_746 mw_619 mw_743) rfl rfl rfl (by decide +kernel) ⟨Nat.le_of_ble_eq_true rfl, Nat.le_of_ble_eq_true rfl⟩) (sg_preV (ci := 12) (C := RX12) (T := TX12) (N := 55) hA hK hP hS hZ 0 (by decide) rfl rfl) rfl rfl hl.1 rfl (lv_room (Nat.le_of_ble_eq_true rfl)) dX12_sitsAs_87 ⟨Nat.le_refl _, Nat.le_refl _⟩) hA hS (fun r_18 f_15 L_16 Q_17 H locs hq hP hS => ?_)
  obtain ⟨⟨hI, hk_f_15, eL9, eQ9⟩, hq, p_19⟩ := hq
  rw [eL9, eQ9] at hP; clear eL9 eQ9
  have hF : sgK WkX12_sitsAs_1_f1_f1 f f_15 := sgK.tr hF hk_f_15 (by decide)
  obtain ⟨v_20, ev_20⟩ : ∃ z : Int32, z = f_15 0 48 := ⟨_, rfl⟩
  have q_21 : 0 ≤ v_20.toInt ∧ v_20.toInt ≤ 19 := by rw [ev_20]; exact hI 0 48
  have q_22 : (f_15 0 48).toInt = v_20.toInt := (congrArg Int32.toInt (show f_15 0 48 = v_20 from ev_20.symm))
  have q_23 : (f_15 0 48).toInt = v_20.toInt := (congrArg Int32.toInt (show f_15 0 48 = v_20 from ev_20.symm))
  have k_24 : (1 : Int32).toInt = 1 := by decide
  refine lv_iconst (v := 2) hx hb dX12_sitsAs_90 (by decide) ?_
  refine lv_imul hx hb dX12_sitsAs_91 ?_
  refine lv_topi (fun v_25 ev_25 => ?_)
  have q_26 : (f_15 0 48).toInt = v_20.toInt := (congrArg Int32.toInt (show f_15 0 48 = v_20 from ev_20.symm))
  have q_27 : (f_15 0 48).toInt = v_20.toInt := (congrArg Int32.toInt (show f_15 0 48 = v_20 from ev_20.symm))
  exact hret _ _ _ _ (v_25) f_15 L Q dX12_sitsAs_92 hP hS ⟨⟨hI, hF, rfl, rfl⟩, trivial, (by omega)⟩

abbrev WkX12_begins_11_f4 : List (Nat × Nat × Option Nat) := [(0, 0, some 48), (21, 21, none)]
set_option maxHeartbeats 4000000 in
set_option maxRecDepth 100000 in
theorem kX12_begins_11_f4 (l : Launch) (D : va_G) (ca : Nat → ClassId) (za h : Nat → Nat) (hh : sgH 26 h) (f : sg_F) (L : sg_L) (Q : sg_Q) (hI : sgI loM hiM f) (hf_0_48 : f 0 48 = 4) (p0 : 4 ≤ (f 0 48).toInt ∧ (f 0 48).toInt ≤ 4) (sz : Nat) : Met l yX12_begins gwX12_begins { frames := 0, cells := 0, slots := 0, locals := 0 } (sgP D vwCl (tyX ca) 26 h (eM ca h) zcM za f L Q sz [.ref (h 0), .int 11]) (sgQv D vwCl 26 h (eM ca h) sz (fun f1 L1 Q1 => ((sgI loM hiM f1 ∧ sgK WkX12_begins_11_f4 f f1 ∧ L1 = L ∧ Q1 = Q) ∧ (5 ≤ (f1 0 48).toInt ∧ (f1 0 48).toInt ≤ 5)))) 0 0 (sgA 26 h sz) := by
  refine sg_ofWv (cc := cX12_begins) (maxL := 2) RX12 (by decide) rfl rfl (Nat.le_of_ble_eq_true rfl) ?_
  intro p e s m below meth cd Qz ls hx hb hml hown hts hK hZ hP hS hl hret
  have hA := sgY.self (n := 26) (h := h) (sz := s.heap.size)
  have hl : lv_has ls 2 [(0, .ref (h 0)), (1, .int 11)] := hl
  obtain ⟨H, hH⟩ : ∃ z : Heap, z = s.heap := ⟨_, rfl⟩
  obtain ⟨locs, hlo⟩ : ∃ z : List Loc, z = [] := ⟨_, rfl⟩
  have hP : va_P D vwCl (sgw 26 h (eM ca h) f L Q) H := by rw [hH]; exact hP
  have hS : va_S (sgA 26 h s.heap.size) s.heap H locs := by rw [hH, hlo]; exact hS
  suffices hgo : W p l e ({ frames := 0, cells := 0, slots := 0, locals := 0 }) s m ([.ref (h 0), .int 11] : List Value).toArray below meth cd H locs 0 0 Qz (F0 m 0 ls []) by rw [hH, hlo] at hgo; exact hgo
  clear hH hlo
  have o_1 : (f 0 48).toInt = 4 := (congrArg Int32.toInt (show f 0 48 = 4 from hf_0_48)).trans (by decide)
  have hF : sgK WkX12_begins_11_f4 f f := sgK.rf
  have blk_19 : ∀ (fp_19 : sg_F) (H : Heap) (locs : List Loc) (ls : Array Slot), 4 ≤ (fp_19 0 48).toInt ∧ (fp_19 0 48).toInt ≤ 4 → sgI loM hiM fp_19 → sgK WkX12_begins_11_f4 f fp_19 → va_P D vwCl (sgw 26 h (eM ca h) fp_19 L Q) H → va_S (sgA 26 h s.heap.size) s.heap H locs → lv_has ls 2 [(0, .ref (h 0))] → W p l e ({ frames := 0, cells := 0, slots := 0, locals := 0 }) s m ([.ref (h 0), .int 11] : List Value).toArray below meth cd H locs 0 0 Qz (F0 m 19 ls []) := by
    intro fp_19 H locs ls hy0_19 hI hF hP hS hl
    obtain ⟨v_2, ev_2⟩ : ∃ z : Int32, z = fp_19 0 48 := ⟨_, rfl⟩
    have q_3 : 0 ≤ v_2.toInt ∧ v_2.toInt ≤ 19 := by rw [ev_2]; exact hI 0 48
    have q_4 : (fp_19 0 48).toInt = v_2.toInt := by rw [ev_2]
    refine lv_aload_n hx hb dX12_begins_19 rfl (lv_at hl 0 rfl) ?_
    refine lv_dup hx hb dX12_begins_20 rfl ?_
    refine sg_get (ci := 12) (v := .int v_2) (C := RX12) (T := TX12) (N := 55) hx hb hts (fun w h => List.mem_cons_of_mem _ (gx_12 w h)) hown hK hP 0 (by decide) rfl rfl 48 (by decide) (hts _ (List.mem_cons_of_mem _ mw_621)) (fun _ h9 => h9) (congrArg (fun z => some (Value.int z)) (show fp_19 0 48 = v_2 from ev_2.symm)) dX12_begins_21 ?_
    refine lv_iconst (v := 1) hx hb dX12_begins_24 (by decide) ?_
    refine lv_iadd hx hb dX12_begins_25 ?_
    refine lv_topi (fun v_5 ev_5 => ?_)
    have q_6 : v_5.toInt = v_2.toInt + 1 := by rw [ev_5]; have k1 : (1 : Int32).toInt = 1 := (by decide); exact (bn_addI (by omega) (by omega)).trans (by omega)
    refine sg_put (ci := 12) (x := v_5) (ty := .int) (C := RX12) (T := TX12) (N := 55) hx hb hts (fun w h => List.mem_cons_of_mem _ (gx_12 w h)) tyX12 tyX12_ok nmX12 hown hh hA hK hP hS 0 (by decide) rfl rfl 48 (by decide) (hts _ (List.mem_cons_of_mem _ mw_621)) (fun _ h9 => h9) rfl rfl (by decide +kernel) rfl rfl (Nat.le_of_ble_eq_true rfl) dX12_begins_26 (fun f_7 H locs ef_7 hP hS => ?_)
    have hI : sgI loM hiM f_7 := by rw [ef_7]; exact sgI.put hI 0 48 (show 0 ≤ (v_5 : Int32).toInt ∧ (v_5 : Int32).toInt ≤ 19 from by omega)
    have hF : sgK WkX12_begins_11_f4 f f_7 := sgK.put hF ef_7 (by rfl)
    have q_8 : (f_7 0 48).toInt = v_5.toInt := (congrArg Int32.toInt (show f_7 0 48 = v_5 from (by rw [ef_7, sg_up_s, sgu_s])))
    have q_9 : (f_7 0 48).toInt = v_5.toInt := (congrArg Int32.toInt (show f_7 0 48 = v_5 from (by rw [ef_7, sg_up_s, sgu_s])))
    exact hret _ _ _ _ f_7 L Q dX12_begins_29 hP hS ⟨⟨hI, hF, rfl, rfl⟩, (by omega)⟩
  refine lv_aload_n hx hb dX12_begins_0 rfl (lv_at hl 0 rfl) ?_
  refine sg_get (ci := 12) (v := .int 4) (C := RX12) (T := TX12) (N := 55) hx hb hts (fun w h => List.mem_cons_of_mem _ (gx_12 w h)) hown hK hP 0 (by decide) rfl rfl 48 (by decide) (hts _ (List.mem_cons_of_mem _ mw_621)) (fun _ h9 => h9) (congrArg (fun z => some (Value.int z)) (show f 0 48 = 4 from hf_0_48)) dX12_begins_1 ?_
  refine lv_bipush (v := 24) hx hb dX12_begins_4 (by decide) ?_
  refine lv_icmp_ge (tgt := 19) hx hb dX12_begins_6 (by decide) (fun c => absurd c (by decide)) (fun c => ?_)
  refine lv_aload_n hx hb dX12_begins_9 rfl (lv_at hl 0 rfl) ?_
  refine sg_get (ci := 12) (v := .ref (h 21)) (C := RX12) (T := TX12) (N := 55) hx hb hts (fun w h => List.mem_cons_of_mem _ (gx_12 w h)) hown hK hP 0 (by decide) rfl rfl 47 (by decide) (hts _ (List.mem_cons_of_mem _ mw_718)) (fun _ h9 => h9) rfl dX12_begins_10 ?_
  refine lv_aload_n hx hb dX12_begins_13 rfl (lv_at hl 0 rfl) ?_
  refine sg_get (ci := 12) (v := .int 4) (C := RX12) (T := TX12) (N := 55) hx hb hts (fun w h => List.mem_cons_of_mem _ (gx_12 w h)) hown hK hP 0 (by decide) rfl rfl 48 (by decide) (hts _ (List.mem_cons_of_mem _ mw_621)) (fun _ h9 => h9) (congrArg (fun z => some (Value.int z)) (show f 0 48 = 4 from hf_0_48)) dX12_begins_14 ?_
  refine lv_iload_n hx hb dX12_begins_17 rfl (lv_at hl 1 rfl) ?_
  refine sg_iast hx hb hh hA hK hP hS 21 (by decide) 0 (fun _ => rfl) rfl (i := 4) (x := 11) (vp_in_iff.mpr (by decide)) dX12_begins_18 (fun f_10 H locs ef_10 hP hS => ?_)
  have hI : sgI loM hiM f_10 := by rw [ef_10]; exact sgI.put hI 21 (Int32.toNatClampNeg 4) (show 0 ≤ (11 : Int32).toInt ∧ (11 : Int32).toInt ≤ 81 from by decide)
  have hF : sgK WkX12_begins_11_f4 f f_10 := sgK.put hF ef_10 (by rfl)
  exact blk_19 f_10 _ _ _ (by have zz0_48 : (f_10 0 48).toInt = 4 := (congrArg Int32.toInt (show f_10 0 48 = 4 from (by rw [ef_10, sg_up_n (by decide)]; exact hf_0_48))).trans (by decide); omega) hI hF hP hS (lv_sub hl [0] rfl)

abbrev WkX12_slipsAs_1_f4_f1 : List (Nat × Nat × Option Nat) := [(0, 0, some 48), (21, 21, none)]
set_option maxHeartbeats 4000000 in
set_option maxRecDepth 100000 in
theorem kX12_slipsAs_1_f4_f1 (l : Launch) (D : va_G) (ca : Nat → ClassId) (za h : Nat → Nat) (hh : sgH 26 h) (f : sg_F) (L : sg_L) (Q : sg_Q) (hI : sgI loM hiM f) (x1 : Int32) (hf_0_48 : f 0 48 = 4) (hf_0_49 : f 0 49 = 1) (b1 : 1 ≤ x1.toInt ∧ x1.toInt ≤ 1) (p0 : 4 ≤ (f 0 48).toInt ∧ (f 0 48).toInt ≤ 4) (sz : Nat) : Met l yX12_slipsAs gwX12_slipsAs { frames := 1, cells := 0, slots := 0, locals := 21 } (sgP D vwCl (tyX ca) 26 h (eM ca h) zcM za f L Q sz [.ref (h 0), .int 1, .int x1]) (sgQi D vwCl 26 h (eM ca h) sz (fun r f1 L1 Q1 => ((sgI loM hiM f1 ∧ sgK WkX12_slipsAs_1_f4_f1 f f1 ∧ L1 = L ∧ Q1 = Q) ∧ True ∧ (5 ≤ (f1 0 48).toInt ∧ (f1 0 48).toInt ≤ 5)))) 0 0 (sgA 26 h sz) := by
  refine sg_ofWi (cc := cX12_slipsAs) (maxL := 4) RX12 (by decide) rfl rfl (Nat.le_of_ble_eq_true rfl) ?_
  intro p e s m below meth cd Qz ls hx hb hml hown hts hK hZ hP hS hl hret
  have hA := sgY.self (n := 26) (h := h) (sz := s.heap.size)
  have hl : lv_has ls 4 [(0, .ref (h 0)), (1, .int 1), (2, .int x1)] := hl
  obtain ⟨H, hH⟩ : ∃ z : Heap, z = s.heap := ⟨_, rfl⟩
  obtain ⟨locs, hlo⟩ : ∃ z : List Loc, z = [] := ⟨_, rfl⟩
  have hP : va_P D vwCl (sgw 26 h (eM ca h) f L Q) H := by rw [hH]; exact hP
  have hS : va_S (sgA 26 h s.heap.size) s.heap H locs := by rw [hH, hlo]; exact hS
  suffices hgo : W p l e ({ frames := 1, cells := 0, slots := 0, locals := 21 }) s m ([.ref (h 0), .int 1, .int x1] : List Value).toArray below meth cd H locs 0 0 Qz (F0 m 0 ls []) by rw [hH, hlo] at hgo; exact hgo
  clear hH hlo
  have o_1 : (f 0 48).toInt = 4 := (congrArg Int32.toInt (show f 0 48 = 4 from hf_0_48)).trans (by decide)
  have hF : sgK WkX12_slipsAs_1_f4_f1 f f := sgK.rf
  refine lv_iload_n hx hb dX12_slipsAs_0 rfl (lv_at hl 1 rfl) ?_
  refine lv_iconst (v := 3) hx hb dX12_slipsAs_1 (by decide) ?_
  refine lv_icmp_eq (tgt := 10) hx hb dX12_slipsAs_2 (by decide) (fun c => absurd c (by decide)) (fun c => ?_)
  refine lv_iload_n hx hb dX12_slipsAs_5 rfl (lv_at hl 1 rfl) ?_
  refine lv_iconst (v := 5) hx hb dX12_slipsAs_6 (by decide) ?_
  refine lv_icmp_ne (tgt := 25) hx hb dX12_slipsAs_7 (by decide) (fun c => ?_) (fun c => absurd c (by decide))
  refine lv_iload_n hx hb dX12_slipsAs_25 rfl (lv_at hl 1 rfl) ?_
  refine lv_iconst (v := 4) hx hb dX12_slipsAs_26 (by decide) ?_
  refine lv_icmp_eq (tgt := 36) hx hb dX12_slipsAs_27 (by decide) (fun c => absurd c (by decide)) (fun c => ?_)
  refine lv_iload_n hx hb dX12_slipsAs_30 rfl (lv_at hl 1 rfl) ?_
  refine lv_bipush (v := 7) hx hb dX12_slipsAs_31 (by decide) ?_
  refine lv_icmp_ne (tgt := 61) hx hb dX12_slipsAs_33 (by decide) (fun c => ?_) (fun c => absurd c (by decide))
  refine lv_aload_n hx hb dX12_slipsAs_61 rfl (lv_at hl 0 rfl) ?_
  refine lv_bipush (v := 11) hx hb dX12_slipsAs_62 (by decide) ?_
  have q_2 : (f 0 48).toInt = 4 := (congrArg Int32.toInt (show f 0 48 = 4 from hf_0_48)).trans (by decide)
  have q_3 : (f 0 48).toInt = 4 := (congrArg Int32.toInt (show f 0 48 = 4 from hf_0_48)).trans (by decide)
  refine sg_callv (va_runV (As := [.int 11]) (rest := []) ⟨hx, hb, hml, hown, hts⟩ (kX12_begins_11_f4 l D ca za h hh f L Q hI hf_0_48 (by have k0 : (11 : Int32).toInt = 11 := (by decide); omega) H.size) (cwV 1 hts (gw_V (fun _ h => List.mem_cons_of_mem _ h) mw_734 mw_735 mw_736 mw_619 mw_733) rfl rfl rfl (by decide +kernel) ⟨Nat.le_of_ble_eq_true rfl, Nat.le_of_ble_eq_true rfl⟩) (sg_preV (ci := 12) (C := RX12) (T := TX12) (N := 55) hA hK hP hS hZ 0 (by decide) rfl rfl) rfl rfl hl.1 rfl (lv_room (Nat.le_of_ble_eq_true rfl)) dX12_slipsAs_64 ⟨Nat.le_refl _, Nat.le_refl _⟩) hA hS (fun f_4 L_5 Q_6 H locs hq hP hS => ?_)
  obtain ⟨⟨hI, hk_f_4, eL9, eQ9⟩, p_7⟩ := hq
  rw [eL9, eQ9] at hP; clear eL9 eQ9
  have hF : sgK WkX12_slipsAs_1_f4_f1 f f_4 := sgK.tr hF hk_f_4 (by decide)
  obtain ⟨v_8, ev_8⟩ : ∃ z : Int32, z = f_4 0 48 := ⟨_, rfl⟩
  have q_9 : 0 ≤ v_8.toInt ∧ v_8.toInt ≤ 19 := by rw [ev_8]; exact hI 0 48
  have q_10 : (f_4 0 48).toInt = v_8.toInt := (congrArg Int32.toInt (show f_4 0 48 = v_8 from ev_8.symm))
  have q_11 : (f_4 0 48).toInt = v_8.toInt := (congrArg Int32.toInt (show f_4 0 48 = v_8 from ev_8.symm))
  refine lv_iload_n hx hb dX12_slipsAs_67 rfl (lv_at hl 2 rfl) ?_
  refine lv_aload_n hx hb dX12_slipsAs_68 rfl (lv_at hl 0 rfl) ?_
  refine sg_get (ci := 12) (v := .int (f_4 0 50)) (C := RX12) (T := TX12) (N := 55) hx hb hts (fun w h => List.mem_cons_of_mem _ (gx_12 w h)) hown hK hP 0 (by decide) rfl rfl 50 (by decide) (hts _ (List.mem_cons_of_mem _ mw_680)) (fun _ h9 => h9) rfl dX12_slipsAs_69 ?_
  refine lv_topi (fun v_12 ev_12 => ?_)
  have q_13 : 0 ≤ v_12.toInt ∧ v_12.toInt ≤ 49 := by rw [ev_12]; exact hI 0 50
  refine lv_ixor hx hb dX12_slipsAs_72 ?_
  refine lv_topi (fun v_14 ev_14 => ?_)
  have q_15 : (f_4 0 48).toInt = v_8.toInt := (congrArg Int32.toInt (show f_4 0 48 = v_8 from ev_8.symm))
  have q_16 : (f_4 0 48).toInt = v_8.toInt := (congrArg Int32.toInt (show f_4 0 48 = v_8 from ev_8.symm))
  exact hret _ _ _ _ (v_14) f_4 L Q dX12_slipsAs_73 hP hS ⟨⟨hI, hF, rfl, rfl⟩, trivial, (by omega)⟩

abbrev WkX12_tellsAs_1_f0_f1 : List (Nat × Nat × Option Nat) := [(0, 0, some 48), (21, 21, none)]
set_option maxHeartbeats 4000000 in
set_option maxRecDepth 100000 in
theorem kX12_tellsAs_1_f0_f1 (l : Launch) (D : va_G) (ca : Nat → ClassId) (za h : Nat → Nat) (hh : sgH 26 h) (f : sg_F) (L : sg_L) (Q : sg_Q) (hI : sgI loM hiM f) (x1 : Int32) (hf_0_48 : f 0 48 = 0) (hf_0_49 : f 0 49 = 1) (p0 : 0 ≤ (f 0 48).toInt ∧ (f 0 48).toInt ≤ 0) (sz : Nat) : Met l yX12_tellsAs gwX12_tellsAs { frames := 4, cells := 0, slots := 0, locals := 88 } (sgP D vwCl (tyX ca) 26 h (eM ca h) zcM za f L Q sz [.ref (h 0), .int 1, .int x1]) (sgQi D vwCl 26 h (eM ca h) sz (fun r f1 L1 Q1 => ((sgI loM hiM f1 ∧ sgK WkX12_tellsAs_1_f0_f1 f f1 ∧ L1 = L ∧ Q1 = Q) ∧ True ∧ (5 ≤ (f1 0 48).toInt ∧ (f1 0 48).toInt ≤ 5)))) 0 0 (sgA 26 h sz) := by
  refine sg_ofWi (cc := cX12_tellsAs) (maxL := 4) RX12 (by decide) rfl rfl (Nat.le_of_ble_eq_true rfl) ?_
  intro p e s m below meth cd Qz ls hx hb hml hown hts hK hZ hP hS hl hret
  have hA := sgY.self (n := 26) (h := h) (sz := s.heap.size)
  have hl : lv_has ls 4 [(0, .ref (h 0)), (1, .int 1), (2, .int x1)] := hl
  obtain ⟨H, hH⟩ : ∃ z : Heap, z = s.heap := ⟨_, rfl⟩
  obtain ⟨locs, hlo⟩ : ∃ z : List Loc, z = [] := ⟨_, rfl⟩
  have hP : va_P D vwCl (sgw 26 h (eM ca h) f L Q) H := by rw [hH]; exact hP
  have hS : va_S (sgA 26 h s.heap.size) s.heap H locs := by rw [hH, hlo]; exact hS
  suffices hgo : W p l e ({ frames := 4, cells := 0, slots := 0, locals := 88 }) s m ([.ref (h 0), .int 1, .int x1] : List Value).toArray below meth cd H locs 0 0 Qz (F0 m 0 ls []) by rw [hH, hlo] at hgo; exact hgo
  clear hH hlo
  have o_1 : (f 0 48).toInt = 0 := (congrArg Int32.toInt (show f 0 48 = 0 from hf_0_48)).trans (by decide)
  have hF : sgK WkX12_tellsAs_1_f0_f1 f f := sgK.rf
  refine lv_iload_n hx hb dX12_tellsAs_0 rfl (lv_at hl 1 rfl) ?_
  refine lv_iconst (v := 5) hx hb dX12_tellsAs_1 (by decide) ?_
  refine lv_icmp_ne (tgt := 20) hx hb dX12_tellsAs_2 (by decide) (fun c => ?_) (fun c => absurd c (by decide))
  refine lv_iload_n hx hb dX12_tellsAs_20 rfl (lv_at hl 1 rfl) ?_
  refine lv_bipush (v := 7) hx hb dX12_tellsAs_21 (by decide) ?_
  refine lv_icmp_ne (tgt := 41) hx hb dX12_tellsAs_23 (by decide) (fun c => ?_) (fun c => absurd c (by decide))
  refine lv_aload_n hx hb dX12_tellsAs_41 rfl (lv_at hl 0 rfl) ?_
  refine lv_iconst (v := 2) hx hb dX12_tellsAs_42 (by decide) ?_
  have q_2 : (f 0 48).toInt = 0 := (congrArg Int32.toInt (show f 0 48 = 0 from hf_0_48)).trans (by decide)
  have q_3 : (f 0 48).toInt = 0 := (congrArg Int32.toInt (show f 0 48 = 0 from hf_0_48)).trans (by decide)
  refine sg_callv (va_runV (As := [.int 2]) (rest := []) ⟨hx, hb, hml, hown, hts⟩ (kX12_begins_2_f0 l D ca za h hh f L Q hI hf_0_48 (by have k0 : (2 : Int32).toInt = 2 := (by decide); omega) H.size) (cwV 1 hts (gw_V (fun _ h => List.mem_cons_of_mem _ h) mw_734 mw_735 mw_736 mw_619 mw_733) rfl rfl rfl (by decide +kernel) ⟨Nat.le_of_ble_eq_true rfl, Nat.le_of_ble_eq_true rfl⟩) (sg_preV (ci := 12) (C := RX12) (T := TX12) (N := 55) hA hK hP hS hZ 0 (by decide) rfl rfl) rfl rfl hl.1 rfl (lv_room (Nat.le_of_ble_eq_true rfl)) dX12_tellsAs_43 ⟨Nat.le_refl _, Nat.le_refl _⟩) hA hS (fun f_4 L_5 Q_6 H locs hq hP hS => ?_)
  obtain ⟨⟨hI, hk_f_4, eL9, eQ9⟩, p_7⟩ := hq
  rw [eL9, eQ9] at hP; clear eL9 eQ9
  have hF : sgK WkX12_tellsAs_1_f0_f1 f f_4 := sgK.tr hF hk_f_4 (by decide)
  obtain ⟨v_8, ev_8⟩ : ∃ z : Int32, z = f_4 0 48 := ⟨_, rfl⟩
  have q_9 : 0 ≤ v_8.toInt ∧ v_8.toInt ≤ 19 := by rw [ev_8]; exact hI 0 48
  have q_10 : (f_4 0 48).toInt = v_8.toInt := (congrArg Int32.toInt (show f_4 0 48 = v_8 from ev_8.symm))
  have q_11 : (f_4 0 48).toInt = v_8.toInt := (congrArg Int32.toInt (show f_4 0 48 = v_8 from ev_8.symm))
  refine lv_aload_n hx hb dX12_tellsAs_46 rfl (lv_at hl 0 rfl) ?_
  refine lv_aload_n hx hb dX12_tellsAs_47 rfl (lv_at hl 0 rfl) ?_
  refine sg_get (ci := 12) (v := .int 1) (C := RX12) (T := TX12) (N := 55) hx hb hts (fun w h => List.mem_cons_of_mem _ (gx_12 w h)) hown hK hP 0 (by decide) rfl rfl 49 (by decide) (hts _ (List.mem_cons_of_mem _ mw_679)) (fun _ h9 => h9) (congrArg (fun z => some (Value.int z)) (show f_4 0 49 = 1 from ((hk_f_4 0 49 (by decide)).trans hf_0_49))) dX12_tellsAs_48 ?_
  refine lv_iload_n hx hb dX12_tellsAs_51 rfl (lv_at hl 2 rfl) ?_
  have c_12 : v_8 = 1 := Int32.toInt_inj.mp (by have k9 : (1 : Int32).toInt = 1 := (by decide); omega)
  have q_13 : (f_4 0 48).toInt = 1 := (congrArg Int32.toInt (show f_4 0 48 = 1 from (Eq.trans ev_8.symm c_12))).trans (by decide)
  have q_14 : (f_4 0 48).toInt = 1 := (congrArg Int32.toInt (show f_4 0 48 = 1 from (Eq.trans ev_8.symm c_12))).trans (by decide)
  refine sg_calli (va_runV (As := [.int 1, .int x1]) (rest := []) ⟨hx, hb, hml, hown, hts⟩ (kX12_sitsAs_1_f1_f1 l D ca za h hh f_4 L Q hI x1 (Eq.trans ev_8.symm c_12) ((hk_f_4 0 49 (by decide)).trans hf_0_49) (by have k0 : (1 : Int32).toInt = 1 := (by decide); omega) H.size) (cwV 2 hts (gw_V (fun _ h => List.mem_cons_of_mem _ h) mw_801 mw_802 mw_803 mw_619 mw_800) rfl rfl rfl (by decide +kernel) ⟨Nat.le_of_ble_eq_true rfl, Nat.le_of_ble_eq_true rfl⟩) (sg_preV (ci := 12) (C := RX12) (T := TX12) (N := 55) hA hK hP hS hZ 0 (by decide) rfl rfl) rfl rfl hl.1 rfl (lv_room (Nat.le_of_ble_eq_true rfl)) dX12_tellsAs_52 ⟨Nat.le_refl _, Nat.le_refl _⟩) hA hS (fun r_18 f_15 L_16 Q_17 H locs hq hP hS => ?_)
  obtain ⟨⟨hI, hk_f_15, eL9, eQ9⟩, hq, p_19⟩ := hq
  rw [eL9, eQ9] at hP; clear eL9 eQ9
  have hF : sgK WkX12_tellsAs_1_f0_f1 f f_15 := sgK.tr hF hk_f_15 (by decide)
  obtain ⟨v_20, ev_20⟩ : ∃ z : Int32, z = f_15 0 48 := ⟨_, rfl⟩
  have q_21 : 0 ≤ v_20.toInt ∧ v_20.toInt ≤ 19 := by rw [ev_20]; exact hI 0 48
  have q_22 : (f_15 0 48).toInt = v_20.toInt := (congrArg Int32.toInt (show f_15 0 48 = v_20 from ev_20.symm))
  have q_23 : (f_15 0 48).toInt = v_20.toInt := (congrArg Int32.toInt (show f_15 0 48 = v_20 from ev_20.symm))
  have k_24 : (1 : Int32).toInt = 1 := by decide
  refine lv_istore_n (lv' := [(3, .int r_18), (0, .ref (h 0)), (1, .int 1), (2, .int x1)]) hx hb dX12_tellsAs_55 rfl hl (by decide) rfl (fun ls hl => ?_)
  refine lv_iload_n hx hb dX12_tellsAs_56 rfl (lv_at hl 0 rfl) ?_
  refine lv_aload_n hx hb dX12_tellsAs_57 rfl (lv_at hl 1 rfl) ?_
  refine lv_aload_n hx hb dX12_tellsAs_58 rfl (lv_at hl 1 rfl) ?_
  refine sg_get (ci := 12) (v := .int 1) (C := RX12) (T := TX12) (N := 55) hx hb hts (fun w h => List.mem_cons_of_mem _ (gx_12 w h)) hown hK hP 0 (by decide) rfl rfl 49 (by decide) (hts _ (List.mem_cons_of_mem _ mw_679)) (fun _ h9 => h9) (congrArg (fun z => some (Value.int z)) (show f_15 0 49 = 1 from ((hk_f_15 0 49 (by decide)).trans ((hk_f_4 0 49 (by decide)).trans hf_0_49)))) dX12_tellsAs_59 ?_
  refine lv_iconst (v := 1) hx hb dX12_tellsAs_62 (by decide) ?_
  have c_25 : v_20 = 4 := Int32.toInt_inj.mp (by have k9 : (4 : Int32).toInt = 4 := (by decide); omega)
  have q_26 : (f_15 0 48).toInt = 4 := (congrArg Int32.toInt (show f_15 0 48 = 4 from (Eq.trans ev_20.symm c_25))).trans (by decide)
  have q_27 : (f_15 0 48).toInt = 4 := (congrArg Int32.toInt (show f_15 0 48 = 4 from (Eq.trans ev_20.symm c_25))).trans (by decide)
  refine sg_calli (va_runV (As := [.int 1, .int 1]) (rest := [.int r_18]) ⟨hx, hb, hml, hown, hts⟩ (kX12_slipsAs_1_f4_f1 l D ca za h hh f_15 L Q hI 1 (Eq.trans ev_20.symm c_25) ((hk_f_15 0 49 (by decide)).trans ((hk_f_4 0 49 (by decide)).trans hf_0_49)) (by decide) (by have k0 : (1 : Int32).toInt = 1 := (by decide); have k1 : (1 : Int32).toInt = 1 := (by decide); omega) H.size) (cwV 2 hts (gw_V (fun _ h => List.mem_cons_of_mem _ h) mw_748 mw_749 mw_750 mw_619 mw_747) rfl rfl rfl (by decide +kernel) ⟨Nat.le_of_ble_eq_true rfl, Nat.le_of_ble_eq_true rfl⟩) (sg_preV (ci := 12) (C := RX12) (T := TX12) (N := 55) hA hK hP hS hZ 0 (by decide) rfl rfl) rfl rfl hl.1 rfl (lv_room (Nat.le_of_ble_eq_true rfl)) dX12_tellsAs_63 ⟨Nat.le_refl _, Nat.le_refl _⟩) hA hS (fun r_31 f_28 L_29 Q_30 H locs hq hP hS => ?_)
  obtain ⟨⟨hI, hk_f_28, eL9, eQ9⟩, hq, p_32⟩ := hq
  rw [eL9, eQ9] at hP; clear eL9 eQ9
  have hF : sgK WkX12_tellsAs_1_f0_f1 f f_28 := sgK.tr hF hk_f_28 (by decide)
  obtain ⟨v_33, ev_33⟩ : ∃ z : Int32, z = f_28 0 48 := ⟨_, rfl⟩
  have q_34 : 0 ≤ v_33.toInt ∧ v_33.toInt ≤ 19 := by rw [ev_33]; exact hI 0 48
  have q_35 : (f_28 0 48).toInt = v_33.toInt := (congrArg Int32.toInt (show f_28 0 48 = v_33 from ev_33.symm))
  have q_36 : (f_28 0 48).toInt = v_33.toInt := (congrArg Int32.toInt (show f_28 0 48 = v_33 from ev_33.symm))
  have k_37 : (1 : Int32).toInt = 1 := by decide
  have k_38 : (1 : Int32).toInt = 1 := by decide
  refine lv_isub hx hb dX12_tellsAs_66 ?_
  refine lv_topi (fun v_39 ev_39 => ?_)
  have q_40 : (f_28 0 48).toInt = v_33.toInt := (congrArg Int32.toInt (show f_28 0 48 = v_33 from ev_33.symm))
  have q_41 : (f_28 0 48).toInt = v_33.toInt := (congrArg Int32.toInt (show f_28 0 48 = v_33 from ev_33.symm))
  exact hret _ _ _ _ (v_39) f_28 L Q dX12_tellsAs_67 hP hS ⟨⟨hI, hF, rfl, rfl⟩, trivial, (by omega)⟩

abbrev WkX12_setsAs_2_f3_f2 : List (Nat × Nat × Option Nat) := [(0, 0, some 48), (21, 21, none)]
set_option maxHeartbeats 4000000 in
set_option maxRecDepth 100000 in
theorem kX12_setsAs_2_f3_f2 (l : Launch) (D : va_G) (ca : Nat → ClassId) (za h : Nat → Nat) (hh : sgH 26 h) (f : sg_F) (L : sg_L) (Q : sg_Q) (hI : sgI loM hiM f) (x1 : Int32) (hf_0_48 : f 0 48 = 3) (hf_0_49 : f 0 49 = 2) (p0 : 3 ≤ (f 0 48).toInt ∧ (f 0 48).toInt ≤ 3) (sz : Nat) : Met l yX12_setsAs gwX12_setsAs { frames := 1, cells := 0, slots := 0, locals := 21 } (sgP D vwCl (tyX ca) 26 h (eM ca h) zcM za f L Q sz [.ref (h 0), .int 2, .int x1]) (sgQi D vwCl 26 h (eM ca h) sz (fun r f1 L1 Q1 => ((sgI loM hiM f1 ∧ sgK WkX12_setsAs_2_f3_f2 f f1 ∧ L1 = L ∧ Q1 = Q) ∧ True ∧ (4 ≤ (f1 0 48).toInt ∧ (f1 0 48).toInt ≤ 4)))) 0 0 (sgA 26 h sz) := by
  refine sg_ofWi (cc := cX12_setsAs) (maxL := 3) RX12 (by decide) rfl rfl (Nat.le_of_ble_eq_true rfl) ?_
  intro p e s m below meth cd Qz ls hx hb hml hown hts hK hZ hP hS hl hret
  have hA := sgY.self (n := 26) (h := h) (sz := s.heap.size)
  have hl : lv_has ls 3 [(0, .ref (h 0)), (1, .int 2), (2, .int x1)] := hl
  obtain ⟨H, hH⟩ : ∃ z : Heap, z = s.heap := ⟨_, rfl⟩
  obtain ⟨locs, hlo⟩ : ∃ z : List Loc, z = [] := ⟨_, rfl⟩
  have hP : va_P D vwCl (sgw 26 h (eM ca h) f L Q) H := by rw [hH]; exact hP
  have hS : va_S (sgA 26 h s.heap.size) s.heap H locs := by rw [hH, hlo]; exact hS
  suffices hgo : W p l e ({ frames := 1, cells := 0, slots := 0, locals := 21 }) s m ([.ref (h 0), .int 2, .int x1] : List Value).toArray below meth cd H locs 0 0 Qz (F0 m 0 ls []) by rw [hH, hlo] at hgo; exact hgo
  clear hH hlo
  have o_1 : (f 0 48).toInt = 3 := (congrArg Int32.toInt (show f 0 48 = 3 from hf_0_48)).trans (by decide)
  have hF : sgK WkX12_setsAs_2_f3_f2 f f := sgK.rf
  refine lv_iload_n hx hb dX12_setsAs_0 rfl (lv_at hl 1 rfl) ?_
  refine lv_iconst (v := 1) hx hb dX12_setsAs_1 (by decide) ?_
  refine lv_icmp_eq (tgt := 16) hx hb dX12_setsAs_2 (by decide) (fun c => absurd c (by decide)) (fun c => ?_)
  refine lv_iload_n hx hb dX12_setsAs_5 rfl (lv_at hl 1 rfl) ?_
  refine lv_iconst (v := 4) hx hb dX12_setsAs_6 (by decide) ?_
  refine lv_icmp_eq (tgt := 16) hx hb dX12_setsAs_7 (by decide) (fun c => absurd c (by decide)) (fun c => ?_)
  refine lv_iload_n hx hb dX12_setsAs_10 rfl (lv_at hl 1 rfl) ?_
  refine lv_bipush (v := 7) hx hb dX12_setsAs_11 (by decide) ?_
  refine lv_icmp_ne (tgt := 31) hx hb dX12_setsAs_13 (by decide) (fun c => ?_) (fun c => absurd c (by decide))
  refine lv_iload_n hx hb dX12_setsAs_31 rfl (lv_at hl 1 rfl) ?_
  refine lv_bipush (v := 6) hx hb dX12_setsAs_32 (by decide) ?_
  refine lv_icmp_ne (tgt := 52) hx hb dX12_setsAs_34 (by decide) (fun c => ?_) (fun c => absurd c (by decide))
  refine lv_aload_n hx hb dX12_setsAs_52 rfl (lv_at hl 0 rfl) ?_
  refine lv_iconst (v := 1) hx hb dX12_setsAs_53 (by decide) ?_
  have q_2 : (f 0 48).toInt = 3 := (congrArg Int32.toInt (show f 0 48 = 3 from hf_0_48)).trans (by decide)
  have q_3 : (f 0 48).toInt = 3 := (congrArg Int32.toInt (show f 0 48 = 3 from hf_0_48)).trans (by decide)
  refine sg_callv (va_runV (As := [.int 1]) (rest := []) ⟨hx, hb, hml, hown, hts⟩ (kX12_begins_1_f3 l D ca za h hh f L Q hI hf_0_48 (by have k0 : (1 : Int32).toInt = 1 := (by decide); omega) H.size) (cwV 1 hts (gw_V (fun _ h => List.mem_cons_of_mem _ h) mw_734 mw_735 mw_736 mw_619 mw_733) rfl rfl rfl (by decide +kernel) ⟨Nat.le_of_ble_eq_true rfl, Nat.le_of_ble_eq_true rfl⟩) (sg_preV (ci := 12) (C := RX12) (T := TX12) (N := 55) hA hK hP hS hZ 0 (by decide) rfl rfl) rfl rfl hl.1 rfl (lv_room (Nat.le_of_ble_eq_true rfl)) dX12_setsAs_54 ⟨Nat.le_refl _, Nat.le_refl _⟩) hA hS (fun f_4 L_5 Q_6 H locs hq hP hS => ?_)
  obtain ⟨⟨hI, hk_f_4, eL9, eQ9⟩, p_7⟩ := hq
  rw [eL9, eQ9] at hP; clear eL9 eQ9
  have hF : sgK WkX12_setsAs_2_f3_f2 f f_4 := sgK.tr hF hk_f_4 (by decide)
  obtain ⟨v_8, ev_8⟩ : ∃ z : Int32, z = f_4 0 48 := ⟨_, rfl⟩
  have q_9 : 0 ≤ v_8.toInt ∧ v_8.toInt ≤ 19 := by rw [ev_8]; exact hI 0 48
  have q_10 : (f_4 0 48).toInt = v_8.toInt := (congrArg Int32.toInt (show f_4 0 48 = v_8 from ev_8.symm))
  have q_11 : (f_4 0 48).toInt = v_8.toInt := (congrArg Int32.toInt (show f_4 0 48 = v_8 from ev_8.symm))
  refine lv_iload_n hx hb dX12_setsAs_57 rfl (lv_at hl 2 rfl) ?_
  refine lv_aload_n hx hb dX12_setsAs_58 rfl (lv_at hl 0 rfl) ?_
  refine sg_get (ci := 12) (v := .int (f_4 0 50)) (C := RX12) (T := TX12) (N := 55) hx hb hts (fun w h => List.mem_cons_of_mem _ (gx_12 w h)) hown hK hP 0 (by decide) rfl rfl 50 (by decide) (hts _ (List.mem_cons_of_mem _ mw_680)) (fun _ h9 => h9) rfl dX12_setsAs_59 ?_
  refine lv_topi (fun v_12 ev_12 => ?_)
  have q_13 : 0 ≤ v_12.toInt ∧ v_12.toInt ≤ 49 := by rw [ev_12]; exact hI 0 50
  refine lv_iadd hx hb dX12_setsAs_62 ?_
  refine lv_topi (fun v_14 ev_14 => ?_)
  have q_15 : (f_4 0 48).toInt = v_8.toInt := (congrArg Int32.toInt (show f_4 0 48 = v_8 from ev_8.symm))
  have q_16 : (f_4 0 48).toInt = v_8.toInt := (congrArg Int32.toInt (show f_4 0 48 = v_8 from ev_8.symm))
  exact hret _ _ _ _ (v_14) f_4 L Q dX12_setsAs_63 hP hS ⟨⟨hI, hF, rfl, rfl⟩, trivial, (by omega)⟩

abbrev WkX12_sitsAs_0_f2_f2 : List (Nat × Nat × Option Nat) := [(0, 0, some 48), (21, 21, none)]
set_option maxHeartbeats 4000000 in
set_option maxRecDepth 100000 in
theorem kX12_sitsAs_0_f2_f2 (l : Launch) (D : va_G) (ca : Nat → ClassId) (za h : Nat → Nat) (hh : sgH 26 h) (f : sg_F) (L : sg_L) (Q : sg_Q) (hI : sgI loM hiM f) (x1 : Int32) (hf_0_48 : f 0 48 = 2) (hf_0_49 : f 0 49 = 2) (p0 : 2 ≤ (f 0 48).toInt ∧ (f 0 48).toInt ≤ 2) (sz : Nat) : Met l yX12_sitsAs gwX12_sitsAs { frames := 2, cells := 0, slots := 0, locals := 43 } (sgP D vwCl (tyX ca) 26 h (eM ca h) zcM za f L Q sz [.ref (h 0), .int 0, .int x1]) (sgQi D vwCl 26 h (eM ca h) sz (fun r f1 L1 Q1 => ((sgI loM hiM f1 ∧ sgK WkX12_sitsAs_0_f2_f2 f f1 ∧ L1 = L ∧ Q1 = Q) ∧ True ∧ (4 ≤ (f1 0 48).toInt ∧ (f1 0 48).toInt ≤ 4)))) 0 0 (sgA 26 h sz) := by
  refine sg_ofWi (cc := cX12_sitsAs) (maxL := 4) RX12 (by decide) rfl rfl (Nat.le_of_ble_eq_true rfl) ?_
  intro p e s m below meth cd Qz ls hx hb hml hown hts hK hZ hP hS hl hret
  have hA := sgY.self (n := 26) (h := h) (sz := s.heap.size)
  have hl : lv_has ls 4 [(0, .ref (h 0)), (1, .int 0), (2, .int x1)] := hl
  obtain ⟨H, hH⟩ : ∃ z : Heap, z = s.heap := ⟨_, rfl⟩
  obtain ⟨locs, hlo⟩ : ∃ z : List Loc, z = [] := ⟨_, rfl⟩
  have hP : va_P D vwCl (sgw 26 h (eM ca h) f L Q) H := by rw [hH]; exact hP
  have hS : va_S (sgA 26 h s.heap.size) s.heap H locs := by rw [hH, hlo]; exact hS
  suffices hgo : W p l e ({ frames := 2, cells := 0, slots := 0, locals := 43 }) s m ([.ref (h 0), .int 0, .int x1] : List Value).toArray below meth cd H locs 0 0 Qz (F0 m 0 ls []) by rw [hH, hlo] at hgo; exact hgo
  clear hH hlo
  have o_1 : (f 0 48).toInt = 2 := (congrArg Int32.toInt (show f 0 48 = 2 from hf_0_48)).trans (by decide)
  have hF : sgK WkX12_sitsAs_0_f2_f2 f f := sgK.rf
  refine lv_iload_n hx hb dX12_sitsAs_0 rfl (lv_at hl 1 rfl) ?_
  refine lv_iconst (v := 3) hx hb dX12_sitsAs_1 (by decide) ?_
  refine lv_icmp_eq (tgt := 10) hx hb dX12_sitsAs_2 (by decide) (fun c => absurd c (by decide)) (fun c => ?_)
  refine lv_iload_n hx hb dX12_sitsAs_5 rfl (lv_at hl 1 rfl) ?_
  refine lv_iconst (v := 5) hx hb dX12_sitsAs_6 (by decide) ?_
  refine lv_icmp_ne (tgt := 25) hx hb dX12_sitsAs_7 (by decide) (fun c => ?_) (fun c => absurd c (by decide))
  refine lv_iload_n hx hb dX12_sitsAs_25 rfl (lv_at hl 1 rfl) ?_
  refine lv_iconst (v := 2) hx hb dX12_sitsAs_26 (by decide) ?_
  refine lv_icmp_ne (tgt := 44) hx hb dX12_sitsAs_27 (by decide) (fun c => ?_) (fun c => absurd c (by decide))
  refine lv_iload_n hx hb dX12_sitsAs_44 rfl (lv_at hl 1 rfl) ?_
  refine lv_bipush (v := 7) hx hb dX12_sitsAs_45 (by decide) ?_
  refine lv_icmp_ne (tgt := 75) hx hb dX12_sitsAs_47 (by decide) (fun c => ?_) (fun c => absurd c (by decide))
  refine lv_aload_n hx hb dX12_sitsAs_75 rfl (lv_at hl 0 rfl) ?_
  refine lv_bipush (v := 10) hx hb dX12_sitsAs_76 (by decide) ?_
  have q_2 : (f 0 48).toInt = 2 := (congrArg Int32.toInt (show f 0 48 = 2 from hf_0_48)).trans (by decide)
  have q_3 : (f 0 48).toInt = 2 := (congrArg Int32.toInt (show f 0 48 = 2 from hf_0_48)).trans (by decide)
  refine sg_callv (va_runV (As := [.int 10]) (rest := []) ⟨hx, hb, hml, hown, hts⟩ (kX12_begins_10_f2 l D ca za h hh f L Q hI hf_0_48 (by have k0 : (10 : Int32).toInt = 10 := (by decide); omega) H.size) (cwV 1 hts (gw_V (fun _ h => List.mem_cons_of_mem _ h) mw_734 mw_735 mw_736 mw_619 mw_733) rfl rfl rfl (by decide +kernel) ⟨Nat.le_of_ble_eq_true rfl, Nat.le_of_ble_eq_true rfl⟩) (sg_preV (ci := 12) (C := RX12) (T := TX12) (N := 55) hA hK hP hS hZ 0 (by decide) rfl rfl) rfl rfl hl.1 rfl (lv_room (Nat.le_of_ble_eq_true rfl)) dX12_sitsAs_78 ⟨Nat.le_refl _, Nat.le_refl _⟩) hA hS (fun f_4 L_5 Q_6 H locs hq hP hS => ?_)
  obtain ⟨⟨hI, hk_f_4, eL9, eQ9⟩, p_7⟩ := hq
  rw [eL9, eQ9] at hP; clear eL9 eQ9
  have hF : sgK WkX12_sitsAs_0_f2_f2 f f_4 := sgK.tr hF hk_f_4 (by decide)
  obtain ⟨v_8, ev_8⟩ : ∃ z : Int32, z = f_4 0 48 := ⟨_, rfl⟩
  have q_9 : 0 ≤ v_8.toInt ∧ v_8.toInt ≤ 19 := by rw [ev_8]; exact hI 0 48
  have q_10 : (f_4 0 48).toInt = v_8.toInt := (congrArg Int32.toInt (show f_4 0 48 = v_8 from ev_8.symm))
  have q_11 : (f_4 0 48).toInt = v_8.toInt := (congrArg Int32.toInt (show f_4 0 48 = v_8 from ev_8.symm))
  refine lv_aload_n hx hb dX12_sitsAs_81 rfl (lv_at hl 0 rfl) ?_
  refine lv_aload_n hx hb dX12_sitsAs_82 rfl (lv_at hl 0 rfl) ?_
  refine sg_get (ci := 12) (v := .int 2) (C := RX12) (T := TX12) (N := 55) hx hb hts (fun w h => List.mem_cons_of_mem _ (gx_12 w h)) hown hK hP 0 (by decide) rfl rfl 49 (by decide) (hts _ (List.mem_cons_of_mem _ mw_679)) (fun _ h9 => h9) (congrArg (fun z => some (Value.int z)) (show f_4 0 49 = 2 from ((hk_f_4 0 49 (by decide)).trans hf_0_49))) dX12_sitsAs_83 ?_
  refine lv_iload_n hx hb dX12_sitsAs_86 rfl (lv_at hl 2 rfl) ?_
  have c_12 : v_8 = 3 := Int32.toInt_inj.mp (by have k9 : (3 : Int32).toInt = 3 := (by decide); omega)
  have q_13 : (f_4 0 48).toInt = 3 := (congrArg Int32.toInt (show f_4 0 48 = 3 from (Eq.trans ev_8.symm c_12))).trans (by decide)
  have q_14 : (f_4 0 48).toInt = 3 := (congrArg Int32.toInt (show f_4 0 48 = 3 from (Eq.trans ev_8.symm c_12))).trans (by decide)
  refine sg_calli (va_runV (As := [.int 2, .int x1]) (rest := []) ⟨hx, hb, hml, hown, hts⟩ (kX12_setsAs_2_f3_f2 l D ca za h hh f_4 L Q hI x1 (Eq.trans ev_8.symm c_12) ((hk_f_4 0 49 (by decide)).trans hf_0_49) (by have k0 : (2 : Int32).toInt = 2 := (by decide); omega) H.size) (cwV 2 hts (gw_V (fun _ h => List.mem_cons_of_mem _ h) mw_744 mw_745 mw_746 mw_619 mw_743) rfl rfl rfl (by decide +kernel) ⟨Nat.le_of_ble_eq_true rfl, Nat.le_of_ble_eq_true rfl⟩) (sg_preV (ci := 12) (C := RX12) (T := TX12) (N := 55) hA hK hP hS hZ 0 (by decide) rfl rfl) rfl rfl hl.1 rfl (lv_room (Nat.le_of_ble_eq_true rfl)) dX12_sitsAs_87 ⟨Nat.le_refl _, Nat.le_refl _⟩) hA hS (fun r_18 f_15 L_16 Q_17 H locs hq hP hS => ?_)
  obtain ⟨⟨hI, hk_f_15, eL9, eQ9⟩, hq, p_19⟩ := hq
  rw [eL9, eQ9] at hP; clear eL9 eQ9
  have hF : sgK WkX12_sitsAs_0_f2_f2 f f_15 := sgK.tr hF hk_f_15 (by decide)
  obtain ⟨v_20, ev_20⟩ : ∃ z : Int32, z = f_15 0 48 := ⟨_, rfl⟩
  have q_21 : 0 ≤ v_20.toInt ∧ v_20.toInt ≤ 19 := by rw [ev_20]; exact hI 0 48
  have q_22 : (f_15 0 48).toInt = v_20.toInt := (congrArg Int32.toInt (show f_15 0 48 = v_20 from ev_20.symm))
  have q_23 : (f_15 0 48).toInt = v_20.toInt := (congrArg Int32.toInt (show f_15 0 48 = v_20 from ev_20.symm))
  have k_24 : (2 : Int32).toInt = 2 := by decide
  refine lv_iconst (v := 2) hx hb dX12_sitsAs_90 (by decide) ?_
  refine lv_imul hx hb dX12_sitsAs_91 ?_
  refine lv_topi (fun v_25 ev_25 => ?_)
  have q_26 : (f_15 0 48).toInt = v_20.toInt := (congrArg Int32.toInt (show f_15 0 48 = v_20 from ev_20.symm))
  have q_27 : (f_15 0 48).toInt = v_20.toInt := (congrArg Int32.toInt (show f_15 0 48 = v_20 from ev_20.symm))
  exact hret _ _ _ _ (v_25) f_15 L Q dX12_sitsAs_92 hP hS ⟨⟨hI, hF, rfl, rfl⟩, trivial, (by omega)⟩

abbrev WkX12_sitsAs_2_f1_f2 : List (Nat × Nat × Option Nat) := [(0, 0, some 48), (21, 21, none)]
set_option maxHeartbeats 4000000 in
set_option maxRecDepth 100000 in
theorem kX12_sitsAs_2_f1_f2 (l : Launch) (D : va_G) (ca : Nat → ClassId) (za h : Nat → Nat) (hh : sgH 26 h) (f : sg_F) (L : sg_L) (Q : sg_Q) (hI : sgI loM hiM f) (x1 : Int32) (hf_0_48 : f 0 48 = 1) (hf_0_49 : f 0 49 = 2) (p0 : 1 ≤ (f 0 48).toInt ∧ (f 0 48).toInt ≤ 1) (sz : Nat) : Met l yX12_sitsAs gwX12_sitsAs { frames := 3, cells := 0, slots := 0, locals := 66 } (sgP D vwCl (tyX ca) 26 h (eM ca h) zcM za f L Q sz [.ref (h 0), .int 2, .int x1]) (sgQi D vwCl 26 h (eM ca h) sz (fun r f1 L1 Q1 => ((sgI loM hiM f1 ∧ sgK WkX12_sitsAs_2_f1_f2 f f1 ∧ L1 = L ∧ Q1 = Q) ∧ True ∧ (4 ≤ (f1 0 48).toInt ∧ (f1 0 48).toInt ≤ 4)))) 0 0 (sgA 26 h sz) := by
  refine sg_ofWi (cc := cX12_sitsAs) (maxL := 4) RX12 (by decide) rfl rfl (Nat.le_of_ble_eq_true rfl) ?_
  intro p e s m below meth cd Qz ls hx hb hml hown hts hK hZ hP hS hl hret
  have hA := sgY.self (n := 26) (h := h) (sz := s.heap.size)
  have hl : lv_has ls 4 [(0, .ref (h 0)), (1, .int 2), (2, .int x1)] := hl
  obtain ⟨H, hH⟩ : ∃ z : Heap, z = s.heap := ⟨_, rfl⟩
  obtain ⟨locs, hlo⟩ : ∃ z : List Loc, z = [] := ⟨_, rfl⟩
  have hP : va_P D vwCl (sgw 26 h (eM ca h) f L Q) H := by rw [hH]; exact hP
  have hS : va_S (sgA 26 h s.heap.size) s.heap H locs := by rw [hH, hlo]; exact hS
  suffices hgo : W p l e ({ frames := 3, cells := 0, slots := 0, locals := 66 }) s m ([.ref (h 0), .int 2, .int x1] : List Value).toArray below meth cd H locs 0 0 Qz (F0 m 0 ls []) by rw [hH, hlo] at hgo; exact hgo
  clear hH hlo
  have o_1 : (f 0 48).toInt = 1 := (congrArg Int32.toInt (show f 0 48 = 1 from hf_0_48)).trans (by decide)
  have hF : sgK WkX12_sitsAs_2_f1_f2 f f := sgK.rf
  refine lv_iload_n hx hb dX12_sitsAs_0 rfl (lv_at hl 1 rfl) ?_
  refine lv_iconst (v := 3) hx hb dX12_sitsAs_1 (by decide) ?_
  refine lv_icmp_eq (tgt := 10) hx hb dX12_sitsAs_2 (by decide) (fun c => absurd c (by decide)) (fun c => ?_)
  refine lv_iload_n hx hb dX12_sitsAs_5 rfl (lv_at hl 1 rfl) ?_
  refine lv_iconst (v := 5) hx hb dX12_sitsAs_6 (by decide) ?_
  refine lv_icmp_ne (tgt := 25) hx hb dX12_sitsAs_7 (by decide) (fun c => ?_) (fun c => absurd c (by decide))
  refine lv_iload_n hx hb dX12_sitsAs_25 rfl (lv_at hl 1 rfl) ?_
  refine lv_iconst (v := 2) hx hb dX12_sitsAs_26 (by decide) ?_
  refine lv_icmp_ne (tgt := 44) hx hb dX12_sitsAs_27 (by decide) (fun c => absurd c (by decide)) (fun c => ?_)
  refine lv_aload_n hx hb dX12_sitsAs_30 rfl (lv_at hl 0 rfl) ?_
  refine lv_bipush (v := 30) hx hb dX12_sitsAs_31 (by decide) ?_
  have q_2 : (f 0 48).toInt = 1 := (congrArg Int32.toInt (show f 0 48 = 1 from hf_0_48)).trans (by decide)
  have q_3 : (f 0 48).toInt = 1 := (congrArg Int32.toInt (show f 0 48 = 1 from hf_0_48)).trans (by decide)
  refine sg_callv (va_runV (As := [.int 30]) (rest := []) ⟨hx, hb, hml, hown, hts⟩ (kX12_begins_30_f1 l D ca za h hh f L Q hI hf_0_48 (by have k0 : (30 : Int32).toInt = 30 := (by decide); omega) H.size) (cwV 1 hts (gw_V (fun _ h => List.mem_cons_of_mem _ h) mw_734 mw_735 mw_736 mw_619 mw_733) rfl rfl rfl (by decide +kernel) ⟨Nat.le_of_ble_eq_true rfl, Nat.le_of_ble_eq_true rfl⟩) (sg_preV (ci := 12) (C := RX12) (T := TX12) (N := 55) hA hK hP hS hZ 0 (by decide) rfl rfl) rfl rfl hl.1 rfl (lv_room (Nat.le_of_ble_eq_true rfl)) dX12_sitsAs_33 ⟨Nat.le_refl _, Nat.le_refl _⟩) hA hS (fun f_4 L_5 Q_6 H locs hq hP hS => ?_)
  obtain ⟨⟨hI, hk_f_4, eL9, eQ9⟩, p_7⟩ := hq
  rw [eL9, eQ9] at hP; clear eL9 eQ9
  have hF : sgK WkX12_sitsAs_2_f1_f2 f f_4 := sgK.tr hF hk_f_4 (by decide)
  obtain ⟨v_8, ev_8⟩ : ∃ z : Int32, z = f_4 0 48 := ⟨_, rfl⟩
  have q_9 : 0 ≤ v_8.toInt ∧ v_8.toInt ≤ 19 := by rw [ev_8]; exact hI 0 48
  have q_10 : (f_4 0 48).toInt = v_8.toInt := (congrArg Int32.toInt (show f_4 0 48 = v_8 from ev_8.symm))
  have q_11 : (f_4 0 48).toInt = v_8.toInt := (congrArg Int32.toInt (show f_4 0 48 = v_8 from ev_8.symm))
  refine lv_aload_n hx hb dX12_sitsAs_36 rfl (lv_at hl 0 rfl) ?_
  refine lv_iconst (v := 0) hx hb dX12_sitsAs_37 (by decide) ?_
  refine lv_iload_n hx hb dX12_sitsAs_38 rfl (lv_at hl 2 rfl) ?_
  have c_12 : v_8 = 2 := Int32.toInt_inj.mp (by have k9 : (2 : Int32).toInt = 2 := (by decide); omega)
  have q_13 : (f_4 0 48).toInt = 2 := (congrArg Int32.toInt (show f_4 0 48 = 2 from (Eq.trans ev_8.symm c_12))).trans (by decide)
  have q_14 : (f_4 0 48).toInt = 2 := (congrArg Int32.toInt (show f_4 0 48 = 2 from (Eq.trans ev_8.symm c_12))).trans (by decide)
  refine sg_calli (va_runV (As := [.int 0, .int x1]) (rest := []) ⟨hx, hb, hml, hown, hts⟩ (kX12_sitsAs_0_f2_f2 l D ca za h hh f_4 L Q hI x1 (Eq.trans ev_8.symm c_12) ((hk_f_4 0 49 (by decide)).trans hf_0_49) (by have k0 : (0 : Int32).toInt = 0 := (by decide); omega) H.size) (cwV 2 hts (gw_V (fun _ h => List.mem_cons_of_mem _ h) mw_801 mw_802 mw_803 mw_619 mw_800) rfl rfl rfl (by decide +kernel) ⟨Nat.le_of_ble_eq_true rfl, Nat.le_of_ble_eq_true rfl⟩) (sg_preV (ci := 12) (C := RX12) (T := TX12) (N := 55) hA hK hP hS hZ 0 (by decide) rfl rfl) rfl rfl hl.1 rfl (lv_room (Nat.le_of_ble_eq_true rfl)) dX12_sitsAs_39 ⟨Nat.le_refl _, Nat.le_refl _⟩) hA hS (fun r_18 f_15 L_16 Q_17 H locs hq hP hS => ?_)
  obtain ⟨⟨hI, hk_f_15, eL9, eQ9⟩, hq, p_19⟩ := hq
  rw [eL9, eQ9] at hP; clear eL9 eQ9
  have hF : sgK WkX12_sitsAs_2_f1_f2 f f_15 := sgK.tr hF hk_f_15 (by decide)
  obtain ⟨v_20, ev_20⟩ : ∃ z : Int32, z = f_15 0 48 := ⟨_, rfl⟩
  have q_21 : 0 ≤ v_20.toInt ∧ v_20.toInt ≤ 19 := by rw [ev_20]; exact hI 0 48
  have q_22 : (f_15 0 48).toInt = v_20.toInt := (congrArg Int32.toInt (show f_15 0 48 = v_20 from ev_20.symm))
  have q_23 : (f_15 0 48).toInt = v_20.toInt := (congrArg Int32.toInt (show f_15 0 48 = v_20 from ev_20.symm))
  have k_24 : (0 : Int32).toInt = 0 := by decide
  refine lv_ineg hx hb dX12_sitsAs_42 ?_
  refine lv_topi (fun v_25 ev_25 => ?_)
  have q_26 : (f_15 0 48).toInt = v_20.toInt := (congrArg Int32.toInt (show f_15 0 48 = v_20 from ev_20.symm))
  have q_27 : (f_15 0 48).toInt = v_20.toInt := (congrArg Int32.toInt (show f_15 0 48 = v_20 from ev_20.symm))
  exact hret _ _ _ _ (v_25) f_15 L Q dX12_sitsAs_43 hP hS ⟨⟨hI, hF, rfl, rfl⟩, trivial, (by omega)⟩

abbrev WkX12_slipsAs_2_f4_f2 : List (Nat × Nat × Option Nat) := [(0, 0, some 48), (21, 21, none)]
set_option maxHeartbeats 4000000 in
set_option maxRecDepth 100000 in
theorem kX12_slipsAs_2_f4_f2 (l : Launch) (D : va_G) (ca : Nat → ClassId) (za h : Nat → Nat) (hh : sgH 26 h) (f : sg_F) (L : sg_L) (Q : sg_Q) (hI : sgI loM hiM f) (x1 : Int32) (hf_0_48 : f 0 48 = 4) (hf_0_49 : f 0 49 = 2) (b1 : 1 ≤ x1.toInt ∧ x1.toInt ≤ 1) (p0 : 4 ≤ (f 0 48).toInt ∧ (f 0 48).toInt ≤ 4) (sz : Nat) : Met l yX12_slipsAs gwX12_slipsAs { frames := 1, cells := 0, slots := 0, locals := 21 } (sgP D vwCl (tyX ca) 26 h (eM ca h) zcM za f L Q sz [.ref (h 0), .int 2, .int x1]) (sgQi D vwCl 26 h (eM ca h) sz (fun r f1 L1 Q1 => ((sgI loM hiM f1 ∧ sgK WkX12_slipsAs_2_f4_f2 f f1 ∧ L1 = L ∧ Q1 = Q) ∧ True ∧ (5 ≤ (f1 0 48).toInt ∧ (f1 0 48).toInt ≤ 5)))) 0 0 (sgA 26 h sz) := by
  refine sg_ofWi (cc := cX12_slipsAs) (maxL := 4) RX12 (by decide) rfl rfl (Nat.le_of_ble_eq_true rfl) ?_
  intro p e s m below meth cd Qz ls hx hb hml hown hts hK hZ hP hS hl hret
  have hA := sgY.self (n := 26) (h := h) (sz := s.heap.size)
  have hl : lv_has ls 4 [(0, .ref (h 0)), (1, .int 2), (2, .int x1)] := hl
  obtain ⟨H, hH⟩ : ∃ z : Heap, z = s.heap := ⟨_, rfl⟩
  obtain ⟨locs, hlo⟩ : ∃ z : List Loc, z = [] := ⟨_, rfl⟩
  have hP : va_P D vwCl (sgw 26 h (eM ca h) f L Q) H := by rw [hH]; exact hP
  have hS : va_S (sgA 26 h s.heap.size) s.heap H locs := by rw [hH, hlo]; exact hS
  suffices hgo : W p l e ({ frames := 1, cells := 0, slots := 0, locals := 21 }) s m ([.ref (h 0), .int 2, .int x1] : List Value).toArray below meth cd H locs 0 0 Qz (F0 m 0 ls []) by rw [hH, hlo] at hgo; exact hgo
  clear hH hlo
  have o_1 : (f 0 48).toInt = 4 := (congrArg Int32.toInt (show f 0 48 = 4 from hf_0_48)).trans (by decide)
  have hF : sgK WkX12_slipsAs_2_f4_f2 f f := sgK.rf
  refine lv_iload_n hx hb dX12_slipsAs_0 rfl (lv_at hl 1 rfl) ?_
  refine lv_iconst (v := 3) hx hb dX12_slipsAs_1 (by decide) ?_
  refine lv_icmp_eq (tgt := 10) hx hb dX12_slipsAs_2 (by decide) (fun c => absurd c (by decide)) (fun c => ?_)
  refine lv_iload_n hx hb dX12_slipsAs_5 rfl (lv_at hl 1 rfl) ?_
  refine lv_iconst (v := 5) hx hb dX12_slipsAs_6 (by decide) ?_
  refine lv_icmp_ne (tgt := 25) hx hb dX12_slipsAs_7 (by decide) (fun c => ?_) (fun c => absurd c (by decide))
  refine lv_iload_n hx hb dX12_slipsAs_25 rfl (lv_at hl 1 rfl) ?_
  refine lv_iconst (v := 4) hx hb dX12_slipsAs_26 (by decide) ?_
  refine lv_icmp_eq (tgt := 36) hx hb dX12_slipsAs_27 (by decide) (fun c => absurd c (by decide)) (fun c => ?_)
  refine lv_iload_n hx hb dX12_slipsAs_30 rfl (lv_at hl 1 rfl) ?_
  refine lv_bipush (v := 7) hx hb dX12_slipsAs_31 (by decide) ?_
  refine lv_icmp_ne (tgt := 61) hx hb dX12_slipsAs_33 (by decide) (fun c => ?_) (fun c => absurd c (by decide))
  refine lv_aload_n hx hb dX12_slipsAs_61 rfl (lv_at hl 0 rfl) ?_
  refine lv_bipush (v := 11) hx hb dX12_slipsAs_62 (by decide) ?_
  have q_2 : (f 0 48).toInt = 4 := (congrArg Int32.toInt (show f 0 48 = 4 from hf_0_48)).trans (by decide)
  have q_3 : (f 0 48).toInt = 4 := (congrArg Int32.toInt (show f 0 48 = 4 from hf_0_48)).trans (by decide)
  refine sg_callv (va_runV (As := [.int 11]) (rest := []) ⟨hx, hb, hml, hown, hts⟩ (kX12_begins_11_f4 l D ca za h hh f L Q hI hf_0_48 (by have k0 : (11 : Int32).toInt = 11 := (by decide); omega) H.size) (cwV 1 hts (gw_V (fun _ h => List.mem_cons_of_mem _ h) mw_734 mw_735 mw_736 mw_619 mw_733) rfl rfl rfl (by decide +kernel) ⟨Nat.le_of_ble_eq_true rfl, Nat.le_of_ble_eq_true rfl⟩) (sg_preV (ci := 12) (C := RX12) (T := TX12) (N := 55) hA hK hP hS hZ 0 (by decide) rfl rfl) rfl rfl hl.1 rfl (lv_room (Nat.le_of_ble_eq_true rfl)) dX12_slipsAs_64 ⟨Nat.le_refl _, Nat.le_refl _⟩) hA hS (fun f_4 L_5 Q_6 H locs hq hP hS => ?_)
  obtain ⟨⟨hI, hk_f_4, eL9, eQ9⟩, p_7⟩ := hq
  rw [eL9, eQ9] at hP; clear eL9 eQ9
  have hF : sgK WkX12_slipsAs_2_f4_f2 f f_4 := sgK.tr hF hk_f_4 (by decide)
  obtain ⟨v_8, ev_8⟩ : ∃ z : Int32, z = f_4 0 48 := ⟨_, rfl⟩
  have q_9 : 0 ≤ v_8.toInt ∧ v_8.toInt ≤ 19 := by rw [ev_8]; exact hI 0 48
  have q_10 : (f_4 0 48).toInt = v_8.toInt := (congrArg Int32.toInt (show f_4 0 48 = v_8 from ev_8.symm))
  have q_11 : (f_4 0 48).toInt = v_8.toInt := (congrArg Int32.toInt (show f_4 0 48 = v_8 from ev_8.symm))
  refine lv_iload_n hx hb dX12_slipsAs_67 rfl (lv_at hl 2 rfl) ?_
  refine lv_aload_n hx hb dX12_slipsAs_68 rfl (lv_at hl 0 rfl) ?_
  refine sg_get (ci := 12) (v := .int (f_4 0 50)) (C := RX12) (T := TX12) (N := 55) hx hb hts (fun w h => List.mem_cons_of_mem _ (gx_12 w h)) hown hK hP 0 (by decide) rfl rfl 50 (by decide) (hts _ (List.mem_cons_of_mem _ mw_680)) (fun _ h9 => h9) rfl dX12_slipsAs_69 ?_
  refine lv_topi (fun v_12 ev_12 => ?_)
  have q_13 : 0 ≤ v_12.toInt ∧ v_12.toInt ≤ 49 := by rw [ev_12]; exact hI 0 50
  refine lv_ixor hx hb dX12_slipsAs_72 ?_
  refine lv_topi (fun v_14 ev_14 => ?_)
  have q_15 : (f_4 0 48).toInt = v_8.toInt := (congrArg Int32.toInt (show f_4 0 48 = v_8 from ev_8.symm))
  have q_16 : (f_4 0 48).toInt = v_8.toInt := (congrArg Int32.toInt (show f_4 0 48 = v_8 from ev_8.symm))
  exact hret _ _ _ _ (v_14) f_4 L Q dX12_slipsAs_73 hP hS ⟨⟨hI, hF, rfl, rfl⟩, trivial, (by omega)⟩

abbrev WkX12_tellsAs_2_f0_f2 : List (Nat × Nat × Option Nat) := [(0, 0, some 48), (21, 21, none)]
set_option maxHeartbeats 4000000 in
set_option maxRecDepth 100000 in
theorem kX12_tellsAs_2_f0_f2 (l : Launch) (D : va_G) (ca : Nat → ClassId) (za h : Nat → Nat) (hh : sgH 26 h) (f : sg_F) (L : sg_L) (Q : sg_Q) (hI : sgI loM hiM f) (x1 : Int32) (hf_0_48 : f 0 48 = 0) (hf_0_49 : f 0 49 = 2) (p0 : 0 ≤ (f 0 48).toInt ∧ (f 0 48).toInt ≤ 0) (sz : Nat) : Met l yX12_tellsAs gwX12_tellsAs { frames := 4, cells := 0, slots := 0, locals := 89 } (sgP D vwCl (tyX ca) 26 h (eM ca h) zcM za f L Q sz [.ref (h 0), .int 2, .int x1]) (sgQi D vwCl 26 h (eM ca h) sz (fun r f1 L1 Q1 => ((sgI loM hiM f1 ∧ sgK WkX12_tellsAs_2_f0_f2 f f1 ∧ L1 = L ∧ Q1 = Q) ∧ True ∧ (5 ≤ (f1 0 48).toInt ∧ (f1 0 48).toInt ≤ 5)))) 0 0 (sgA 26 h sz) := by
  refine sg_ofWi (cc := cX12_tellsAs) (maxL := 4) RX12 (by decide) rfl rfl (Nat.le_of_ble_eq_true rfl) ?_
  intro p e s m below meth cd Qz ls hx hb hml hown hts hK hZ hP hS hl hret
  have hA := sgY.self (n := 26) (h := h) (sz := s.heap.size)
  have hl : lv_has ls 4 [(0, .ref (h 0)), (1, .int 2), (2, .int x1)] := hl
  obtain ⟨H, hH⟩ : ∃ z : Heap, z = s.heap := ⟨_, rfl⟩
  obtain ⟨locs, hlo⟩ : ∃ z : List Loc, z = [] := ⟨_, rfl⟩
  have hP : va_P D vwCl (sgw 26 h (eM ca h) f L Q) H := by rw [hH]; exact hP
  have hS : va_S (sgA 26 h s.heap.size) s.heap H locs := by rw [hH, hlo]; exact hS
  suffices hgo : W p l e ({ frames := 4, cells := 0, slots := 0, locals := 89 }) s m ([.ref (h 0), .int 2, .int x1] : List Value).toArray below meth cd H locs 0 0 Qz (F0 m 0 ls []) by rw [hH, hlo] at hgo; exact hgo
  clear hH hlo
  have o_1 : (f 0 48).toInt = 0 := (congrArg Int32.toInt (show f 0 48 = 0 from hf_0_48)).trans (by decide)
  have hF : sgK WkX12_tellsAs_2_f0_f2 f f := sgK.rf
  refine lv_iload_n hx hb dX12_tellsAs_0 rfl (lv_at hl 1 rfl) ?_
  refine lv_iconst (v := 5) hx hb dX12_tellsAs_1 (by decide) ?_
  refine lv_icmp_ne (tgt := 20) hx hb dX12_tellsAs_2 (by decide) (fun c => ?_) (fun c => absurd c (by decide))
  refine lv_iload_n hx hb dX12_tellsAs_20 rfl (lv_at hl 1 rfl) ?_
  refine lv_bipush (v := 7) hx hb dX12_tellsAs_21 (by decide) ?_
  refine lv_icmp_ne (tgt := 41) hx hb dX12_tellsAs_23 (by decide) (fun c => ?_) (fun c => absurd c (by decide))
  refine lv_aload_n hx hb dX12_tellsAs_41 rfl (lv_at hl 0 rfl) ?_
  refine lv_iconst (v := 2) hx hb dX12_tellsAs_42 (by decide) ?_
  have q_2 : (f 0 48).toInt = 0 := (congrArg Int32.toInt (show f 0 48 = 0 from hf_0_48)).trans (by decide)
  have q_3 : (f 0 48).toInt = 0 := (congrArg Int32.toInt (show f 0 48 = 0 from hf_0_48)).trans (by decide)
  refine sg_callv (va_runV (As := [.int 2]) (rest := []) ⟨hx, hb, hml, hown, hts⟩ (kX12_begins_2_f0 l D ca za h hh f L Q hI hf_0_48 (by have k0 : (2 : Int32).toInt = 2 := (by decide); omega) H.size) (cwV 1 hts (gw_V (fun _ h => List.mem_cons_of_mem _ h) mw_734 mw_735 mw_736 mw_619 mw_733) rfl rfl rfl (by decide +kernel) ⟨Nat.le_of_ble_eq_true rfl, Nat.le_of_ble_eq_true rfl⟩) (sg_preV (ci := 12) (C := RX12) (T := TX12) (N := 55) hA hK hP hS hZ 0 (by decide) rfl rfl) rfl rfl hl.1 rfl (lv_room (Nat.le_of_ble_eq_true rfl)) dX12_tellsAs_43 ⟨Nat.le_refl _, Nat.le_refl _⟩) hA hS (fun f_4 L_5 Q_6 H locs hq hP hS => ?_)
  obtain ⟨⟨hI, hk_f_4, eL9, eQ9⟩, p_7⟩ := hq
  rw [eL9, eQ9] at hP; clear eL9 eQ9
  have hF : sgK WkX12_tellsAs_2_f0_f2 f f_4 := sgK.tr hF hk_f_4 (by decide)
  obtain ⟨v_8, ev_8⟩ : ∃ z : Int32, z = f_4 0 48 := ⟨_, rfl⟩
  have q_9 : 0 ≤ v_8.toInt ∧ v_8.toInt ≤ 19 := by rw [ev_8]; exact hI 0 48
  have q_10 : (f_4 0 48).toInt = v_8.toInt := (congrArg Int32.toInt (show f_4 0 48 = v_8 from ev_8.symm))
  have q_11 : (f_4 0 48).toInt = v_8.toInt := (congrArg Int32.toInt (show f_4 0 48 = v_8 from ev_8.symm))
  refine lv_aload_n hx hb dX12_tellsAs_46 rfl (lv_at hl 0 rfl) ?_
  refine lv_aload_n hx hb dX12_tellsAs_47 rfl (lv_at hl 0 rfl) ?_
  refine sg_get (ci := 12) (v := .int 2) (C := RX12) (T := TX12) (N := 55) hx hb hts (fun w h => List.mem_cons_of_mem _ (gx_12 w h)) hown hK hP 0 (by decide) rfl rfl 49 (by decide) (hts _ (List.mem_cons_of_mem _ mw_679)) (fun _ h9 => h9) (congrArg (fun z => some (Value.int z)) (show f_4 0 49 = 2 from ((hk_f_4 0 49 (by decide)).trans hf_0_49))) dX12_tellsAs_48 ?_
  refine lv_iload_n hx hb dX12_tellsAs_51 rfl (lv_at hl 2 rfl) ?_
  have c_12 : v_8 = 1 := Int32.toInt_inj.mp (by have k9 : (1 : Int32).toInt = 1 := (by decide); omega)
  have q_13 : (f_4 0 48).toInt = 1 := (congrArg Int32.toInt (show f_4 0 48 = 1 from (Eq.trans ev_8.symm c_12))).trans (by decide)
  have q_14 : (f_4 0 48).toInt = 1 := (congrArg Int32.toInt (show f_4 0 48 = 1 from (Eq.trans ev_8.symm c_12))).trans (by decide)
  refine sg_calli (va_runV (As := [.int 2, .int x1]) (rest := []) ⟨hx, hb, hml, hown, hts⟩ (kX12_sitsAs_2_f1_f2 l D ca za h hh f_4 L Q hI x1 (Eq.trans ev_8.symm c_12) ((hk_f_4 0 49 (by decide)).trans hf_0_49) (by have k0 : (2 : Int32).toInt = 2 := (by decide); omega) H.size) (cwV 2 hts (gw_V (fun _ h => List.mem_cons_of_mem _ h) mw_801 mw_802 mw_803 mw_619 mw_800) rfl rfl rfl (by decide +kernel) ⟨Nat.le_of_ble_eq_true rfl, Nat.le_of_ble_eq_true rfl⟩) (sg_preV (ci := 12) (C := RX12) (T := TX12) (N := 55) hA hK hP hS hZ 0 (by decide) rfl rfl) rfl rfl hl.1 rfl (lv_room (Nat.le_of_ble_eq_true rfl)) dX12_tellsAs_52 ⟨Nat.le_refl _, Nat.le_refl _⟩) hA hS (fun r_18 f_15 L_16 Q_17 H locs hq hP hS => ?_)
  obtain ⟨⟨hI, hk_f_15, eL9, eQ9⟩, hq, p_19⟩ := hq
  rw [eL9, eQ9] at hP; clear eL9 eQ9
  have hF : sgK WkX12_tellsAs_2_f0_f2 f f_15 := sgK.tr hF hk_f_15 (by decide)
  obtain ⟨v_20, ev_20⟩ : ∃ z : Int32, z = f_15 0 48 := ⟨_, rfl⟩
  have q_21 : 0 ≤ v_20.toInt ∧ v_20.toInt ≤ 19 := by rw [ev_20]; exact hI 0 48
  have q_22 : (f_15 0 48).toInt = v_20.toInt := (congrArg Int32.toInt (show f_15 0 48 = v_20 from ev_20.symm))
  have q_23 : (f_15 0 48).toInt = v_20.toInt := (congrArg Int32.toInt (show f_15 0 48 = v_20 from ev_20.symm))
  have k_24 : (2 : Int32).toInt = 2 := by decide
  refine lv_istore_n (lv' := [(3, .int r_18), (0, .ref (h 0)), (1, .int 2), (2, .int x1)]) hx hb dX12_tellsAs_55 rfl hl (by decide) rfl (fun ls hl => ?_)
  refine lv_iload_n hx hb dX12_tellsAs_56 rfl (lv_at hl 0 rfl) ?_
  refine lv_aload_n hx hb dX12_tellsAs_57 rfl (lv_at hl 1 rfl) ?_
  refine lv_aload_n hx hb dX12_tellsAs_58 rfl (lv_at hl 1 rfl) ?_
  refine sg_get (ci := 12) (v := .int 2) (C := RX12) (T := TX12) (N := 55) hx hb hts (fun w h => List.mem_cons_of_mem _ (gx_12 w h)) hown hK hP 0 (by decide) rfl rfl 49 (by decide) (hts _ (List.mem_cons_of_mem _ mw_679)) (fun _ h9 => h9) (congrArg (fun z => some (Value.int z)) (show f_15 0 49 = 2 from ((hk_f_15 0 49 (by decide)).trans ((hk_f_4 0 49 (by decide)).trans hf_0_49)))) dX12_tellsAs_59 ?_
  refine lv_iconst (v := 1) hx hb dX12_tellsAs_62 (by decide) ?_
  have c_25 : v_20 = 4 := Int32.toInt_inj.mp (by have k9 : (4 : Int32).toInt = 4 := (by decide); omega)
  have q_26 : (f_15 0 48).toInt = 4 := (congrArg Int32.toInt (show f_15 0 48 = 4 from (Eq.trans ev_20.symm c_25))).trans (by decide)
  have q_27 : (f_15 0 48).toInt = 4 := (congrArg Int32.toInt (show f_15 0 48 = 4 from (Eq.trans ev_20.symm c_25))).trans (by decide)
  refine sg_calli (va_runV (As := [.int 2, .int 1]) (rest := [.int r_18]) ⟨hx, hb, hml, hown, hts⟩ (kX12_slipsAs_2_f4_f2 l D ca za h hh f_15 L Q hI 1 (Eq.trans ev_20.symm c_25) ((hk_f_15 0 49 (by decide)).trans ((hk_f_4 0 49 (by decide)).trans hf_0_49)) (by decide) (by have k0 : (2 : Int32).toInt = 2 := (by decide); have k1 : (1 : Int32).toInt = 1 := (by decide); omega) H.size) (cwV 2 hts (gw_V (fun _ h => List.mem_cons_of_mem _ h) mw_748 mw_749 mw_750 mw_619 mw_747) rfl rfl rfl (by decide +kernel) ⟨Nat.le_of_ble_eq_true rfl, Nat.le_of_ble_eq_true rfl⟩) (sg_preV (ci := 12) (C := RX12) (T := TX12) (N := 55) hA hK hP hS hZ 0 (by decide) rfl rfl) rfl rfl hl.1 rfl (lv_room (Nat.le_of_ble_eq_true rfl)) dX12_tellsAs_63 ⟨Nat.le_refl _, Nat.le_refl _⟩) hA hS (fun r_31 f_28 L_29 Q_30 H locs hq hP hS => ?_)
  obtain ⟨⟨hI, hk_f_28, eL9, eQ9⟩, hq, p_32⟩ := hq
  rw [eL9, eQ9] at hP; clear eL9 eQ9
  have hF : sgK WkX12_tellsAs_2_f0_f2 f f_28 := sgK.tr hF hk_f_28 (by decide)
  obtain ⟨v_33, ev_33⟩ : ∃ z : Int32, z = f_28 0 48 := ⟨_, rfl⟩
  have q_34 : 0 ≤ v_33.toInt ∧ v_33.toInt ≤ 19 := by rw [ev_33]; exact hI 0 48
  have q_35 : (f_28 0 48).toInt = v_33.toInt := (congrArg Int32.toInt (show f_28 0 48 = v_33 from ev_33.symm))
  have q_36 : (f_28 0 48).toInt = v_33.toInt := (congrArg Int32.toInt (show f_28 0 48 = v_33 from ev_33.symm))
  have k_37 : (2 : Int32).toInt = 2 := by decide
  have k_38 : (1 : Int32).toInt = 1 := by decide
  refine lv_isub hx hb dX12_tellsAs_66 ?_
  refine lv_topi (fun v_39 ev_39 => ?_)
  have q_40 : (f_28 0 48).toInt = v_33.toInt := (congrArg Int32.toInt (show f_28 0 48 = v_33 from ev_33.symm))
  have q_41 : (f_28 0 48).toInt = v_33.toInt := (congrArg Int32.toInt (show f_28 0 48 = v_33 from ev_33.symm))
  exact hret _ _ _ _ (v_39) f_28 L Q dX12_tellsAs_67 hP hS ⟨⟨hI, hF, rfl, rfl⟩, trivial, (by omega)⟩

abbrev WkX12_begins_41_f1 : List (Nat × Nat × Option Nat) := [(0, 0, some 48), (21, 21, none)]
set_option maxHeartbeats 4000000 in
set_option maxRecDepth 100000 in
theorem kX12_begins_41_f1 (l : Launch) (D : va_G) (ca : Nat → ClassId) (za h : Nat → Nat) (hh : sgH 26 h) (f : sg_F) (L : sg_L) (Q : sg_Q) (hI : sgI loM hiM f) (hf_0_48 : f 0 48 = 1) (p0 : 1 ≤ (f 0 48).toInt ∧ (f 0 48).toInt ≤ 1) (sz : Nat) : Met l yX12_begins gwX12_begins { frames := 0, cells := 0, slots := 0, locals := 0 } (sgP D vwCl (tyX ca) 26 h (eM ca h) zcM za f L Q sz [.ref (h 0), .int 41]) (sgQv D vwCl 26 h (eM ca h) sz (fun f1 L1 Q1 => ((sgI loM hiM f1 ∧ sgK WkX12_begins_41_f1 f f1 ∧ L1 = L ∧ Q1 = Q) ∧ (2 ≤ (f1 0 48).toInt ∧ (f1 0 48).toInt ≤ 2)))) 0 0 (sgA 26 h sz) := by
  refine sg_ofWv (cc := cX12_begins) (maxL := 2) RX12 (by decide) rfl rfl (Nat.le_of_ble_eq_true rfl) ?_
  intro p e s m below meth cd Qz ls hx hb hml hown hts hK hZ hP hS hl hret
  have hA := sgY.self (n := 26) (h := h) (sz := s.heap.size)
  have hl : lv_has ls 2 [(0, .ref (h 0)), (1, .int 41)] := hl
  obtain ⟨H, hH⟩ : ∃ z : Heap, z = s.heap := ⟨_, rfl⟩
  obtain ⟨locs, hlo⟩ : ∃ z : List Loc, z = [] := ⟨_, rfl⟩
  have hP : va_P D vwCl (sgw 26 h (eM ca h) f L Q) H := by rw [hH]; exact hP
  have hS : va_S (sgA 26 h s.heap.size) s.heap H locs := by rw [hH, hlo]; exact hS
  suffices hgo : W p l e ({ frames := 0, cells := 0, slots := 0, locals := 0 }) s m ([.ref (h 0), .int 41] : List Value).toArray below meth cd H locs 0 0 Qz (F0 m 0 ls []) by rw [hH, hlo] at hgo; exact hgo
  clear hH hlo
  have o_1 : (f 0 48).toInt = 1 := (congrArg Int32.toInt (show f 0 48 = 1 from hf_0_48)).trans (by decide)
  have hF : sgK WkX12_begins_41_f1 f f := sgK.rf
  have blk_19 : ∀ (fp_19 : sg_F) (H : Heap) (locs : List Loc) (ls : Array Slot), 1 ≤ (fp_19 0 48).toInt ∧ (fp_19 0 48).toInt ≤ 1 → sgI loM hiM fp_19 → sgK WkX12_begins_41_f1 f fp_19 → va_P D vwCl (sgw 26 h (eM ca h) fp_19 L Q) H → va_S (sgA 26 h s.heap.size) s.heap H locs → lv_has ls 2 [(0, .ref (h 0))] → W p l e ({ frames := 0, cells := 0, slots := 0, locals := 0 }) s m ([.ref (h 0), .int 41] : List Value).toArray below meth cd H locs 0 0 Qz (F0 m 19 ls []) := by
    intro fp_19 H locs ls hy0_19 hI hF hP hS hl
    obtain ⟨v_2, ev_2⟩ : ∃ z : Int32, z = fp_19 0 48 := ⟨_, rfl⟩
    have q_3 : 0 ≤ v_2.toInt ∧ v_2.toInt ≤ 19 := by rw [ev_2]; exact hI 0 48
    have q_4 : (fp_19 0 48).toInt = v_2.toInt := by rw [ev_2]
    refine lv_aload_n hx hb dX12_begins_19 rfl (lv_at hl 0 rfl) ?_
    refine lv_dup hx hb dX12_begins_20 rfl ?_
    refine sg_get (ci := 12) (v := .int v_2) (C := RX12) (T := TX12) (N := 55) hx hb hts (fun w h => List.mem_cons_of_mem _ (gx_12 w h)) hown hK hP 0 (by decide) rfl rfl 48 (by decide) (hts _ (List.mem_cons_of_mem _ mw_621)) (fun _ h9 => h9) (congrArg (fun z => some (Value.int z)) (show fp_19 0 48 = v_2 from ev_2.symm)) dX12_begins_21 ?_
    refine lv_iconst (v := 1) hx hb dX12_begins_24 (by decide) ?_
    refine lv_iadd hx hb dX12_begins_25 ?_
    refine lv_topi (fun v_5 ev_5 => ?_)
    have q_6 : v_5.toInt = v_2.toInt + 1 := by rw [ev_5]; have k1 : (1 : Int32).toInt = 1 := (by decide); exact (bn_addI (by omega) (by omega)).trans (by omega)
    refine sg_put (ci := 12) (x := v_5) (ty := .int) (C := RX12) (T := TX12) (N := 55) hx hb hts (fun w h => List.mem_cons_of_mem _ (gx_12 w h)) tyX12 tyX12_ok nmX12 hown hh hA hK hP hS 0 (by decide) rfl rfl 48 (by decide) (hts _ (List.mem_cons_of_mem _ mw_621)) (fun _ h9 => h9) rfl rfl (by decide +kernel) rfl rfl (Nat.le_of_ble_eq_true rfl) dX12_begins_26 (fun f_7 H locs ef_7 hP hS => ?_)
    have hI : sgI loM hiM f_7 := by rw [ef_7]; exact sgI.put hI 0 48 (show 0 ≤ (v_5 : Int32).toInt ∧ (v_5 : Int32).toInt ≤ 19 from by omega)
    have hF : sgK WkX12_begins_41_f1 f f_7 := sgK.put hF ef_7 (by rfl)
    have q_8 : (f_7 0 48).toInt = v_5.toInt := (congrArg Int32.toInt (show f_7 0 48 = v_5 from (by rw [ef_7, sg_up_s, sgu_s])))
    have q_9 : (f_7 0 48).toInt = v_5.toInt := (congrArg Int32.toInt (show f_7 0 48 = v_5 from (by rw [ef_7, sg_up_s, sgu_s])))
    exact hret _ _ _ _ f_7 L Q dX12_begins_29 hP hS ⟨⟨hI, hF, rfl, rfl⟩, (by omega)⟩
  refine lv_aload_n hx hb dX12_begins_0 rfl (lv_at hl 0 rfl) ?_
  refine sg_get (ci := 12) (v := .int 1) (C := RX12) (T := TX12) (N := 55) hx hb hts (fun w h => List.mem_cons_of_mem _ (gx_12 w h)) hown hK hP 0 (by decide) rfl rfl 48 (by decide) (hts _ (List.mem_cons_of_mem _ mw_621)) (fun _ h9 => h9) (congrArg (fun z => some (Value.int z)) (show f 0 48 = 1 from hf_0_48)) dX12_begins_1 ?_
  refine lv_bipush (v := 24) hx hb dX12_begins_4 (by decide) ?_
  refine lv_icmp_ge (tgt := 19) hx hb dX12_begins_6 (by decide) (fun c => absurd c (by decide)) (fun c => ?_)
  refine lv_aload_n hx hb dX12_begins_9 rfl (lv_at hl 0 rfl) ?_
  refine sg_get (ci := 12) (v := .ref (h 21)) (C := RX12) (T := TX12) (N := 55) hx hb hts (fun w h => List.mem_cons_of_mem _ (gx_12 w h)) hown hK hP 0 (by decide) rfl rfl 47 (by decide) (hts _ (List.mem_cons_of_mem _ mw_718)) (fun _ h9 => h9) rfl dX12_begins_10 ?_
  refine lv_aload_n hx hb dX12_begins_13 rfl (lv_at hl 0 rfl) ?_
  refine sg_get (ci := 12) (v := .int 1) (C := RX12) (T := TX12) (N := 55) hx hb hts (fun w h => List.mem_cons_of_mem _ (gx_12 w h)) hown hK hP 0 (by decide) rfl rfl 48 (by decide) (hts _ (List.mem_cons_of_mem _ mw_621)) (fun _ h9 => h9) (congrArg (fun z => some (Value.int z)) (show f 0 48 = 1 from hf_0_48)) dX12_begins_14 ?_
  refine lv_iload_n hx hb dX12_begins_17 rfl (lv_at hl 1 rfl) ?_
  refine sg_iast hx hb hh hA hK hP hS 21 (by decide) 0 (fun _ => rfl) rfl (i := 1) (x := 41) (vp_in_iff.mpr (by decide)) dX12_begins_18 (fun f_10 H locs ef_10 hP hS => ?_)
  have hI : sgI loM hiM f_10 := by rw [ef_10]; exact sgI.put hI 21 (Int32.toNatClampNeg 1) (show 0 ≤ (41 : Int32).toInt ∧ (41 : Int32).toInt ≤ 81 from by decide)
  have hF : sgK WkX12_begins_41_f1 f f_10 := sgK.put hF ef_10 (by rfl)
  exact blk_19 f_10 _ _ _ (by have zz0_48 : (f_10 0 48).toInt = 1 := (congrArg Int32.toInt (show f_10 0 48 = 1 from (by rw [ef_10, sg_up_n (by decide)]; exact hf_0_48))).trans (by decide); omega) hI hF hP hS (lv_sub hl [0] rfl)

abbrev WkX12_begins_30_f2 : List (Nat × Nat × Option Nat) := [(0, 0, some 48), (21, 21, none)]
set_option maxHeartbeats 4000000 in
set_option maxRecDepth 100000 in
theorem kX12_begins_30_f2 (l : Launch) (D : va_G) (ca : Nat → ClassId) (za h : Nat → Nat) (hh : sgH 26 h) (f : sg_F) (L : sg_L) (Q : sg_Q) (hI : sgI loM hiM f) (hf_0_48 : f 0 48 = 2) (p0 : 2 ≤ (f 0 48).toInt ∧ (f 0 48).toInt ≤ 2) (sz : Nat) : Met l yX12_begins gwX12_begins { frames := 0, cells := 0, slots := 0, locals := 0 } (sgP D vwCl (tyX ca) 26 h (eM ca h) zcM za f L Q sz [.ref (h 0), .int 30]) (sgQv D vwCl 26 h (eM ca h) sz (fun f1 L1 Q1 => ((sgI loM hiM f1 ∧ sgK WkX12_begins_30_f2 f f1 ∧ L1 = L ∧ Q1 = Q) ∧ (3 ≤ (f1 0 48).toInt ∧ (f1 0 48).toInt ≤ 3)))) 0 0 (sgA 26 h sz) := by
  refine sg_ofWv (cc := cX12_begins) (maxL := 2) RX12 (by decide) rfl rfl (Nat.le_of_ble_eq_true rfl) ?_
  intro p e s m below meth cd Qz ls hx hb hml hown hts hK hZ hP hS hl hret
  have hA := sgY.self (n := 26) (h := h) (sz := s.heap.size)
  have hl : lv_has ls 2 [(0, .ref (h 0)), (1, .int 30)] := hl
  obtain ⟨H, hH⟩ : ∃ z : Heap, z = s.heap := ⟨_, rfl⟩
  obtain ⟨locs, hlo⟩ : ∃ z : List Loc, z = [] := ⟨_, rfl⟩
  have hP : va_P D vwCl (sgw 26 h (eM ca h) f L Q) H := by rw [hH]; exact hP
  have hS : va_S (sgA 26 h s.heap.size) s.heap H locs := by rw [hH, hlo]; exact hS
  suffices hgo : W p l e ({ frames := 0, cells := 0, slots := 0, locals := 0 }) s m ([.ref (h 0), .int 30] : List Value).toArray below meth cd H locs 0 0 Qz (F0 m 0 ls []) by rw [hH, hlo] at hgo; exact hgo
  clear hH hlo
  have o_1 : (f 0 48).toInt = 2 := (congrArg Int32.toInt (show f 0 48 = 2 from hf_0_48)).trans (by decide)
  have hF : sgK WkX12_begins_30_f2 f f := sgK.rf
  have blk_19 : ∀ (fp_19 : sg_F) (H : Heap) (locs : List Loc) (ls : Array Slot), 2 ≤ (fp_19 0 48).toInt ∧ (fp_19 0 48).toInt ≤ 2 → sgI loM hiM fp_19 → sgK WkX12_begins_30_f2 f fp_19 → va_P D vwCl (sgw 26 h (eM ca h) fp_19 L Q) H → va_S (sgA 26 h s.heap.size) s.heap H locs → lv_has ls 2 [(0, .ref (h 0))] → W p l e ({ frames := 0, cells := 0, slots := 0, locals := 0 }) s m ([.ref (h 0), .int 30] : List Value).toArray below meth cd H locs 0 0 Qz (F0 m 19 ls []) := by
    intro fp_19 H locs ls hy0_19 hI hF hP hS hl
    obtain ⟨v_2, ev_2⟩ : ∃ z : Int32, z = fp_19 0 48 := ⟨_, rfl⟩
    have q_3 : 0 ≤ v_2.toInt ∧ v_2.toInt ≤ 19 := by rw [ev_2]; exact hI 0 48
    have q_4 : (fp_19 0 48).toInt = v_2.toInt := by rw [ev_2]
    refine lv_aload_n hx hb dX12_begins_19 rfl (lv_at hl 0 rfl) ?_
    refine lv_dup hx hb dX12_begins_20 rfl ?_
    refine sg_get (ci := 12) (v := .int v_2) (C := RX12) (T := TX12) (N := 55) hx hb hts (fun w h => List.mem_cons_of_mem _ (gx_12 w h)) hown hK hP 0 (by decide) rfl rfl 48 (by decide) (hts _ (List.mem_cons_of_mem _ mw_621)) (fun _ h9 => h9) (congrArg (fun z => some (Value.int z)) (show fp_19 0 48 = v_2 from ev_2.symm)) dX12_begins_21 ?_
    refine lv_iconst (v := 1) hx hb dX12_begins_24 (by decide) ?_
    refine lv_iadd hx hb dX12_begins_25 ?_
    refine lv_topi (fun v_5 ev_5 => ?_)
    have q_6 : v_5.toInt = v_2.toInt + 1 := by rw [ev_5]; have k1 : (1 : Int32).toInt = 1 := (by decide); exact (bn_addI (by omega) (by omega)).trans (by omega)
    refine sg_put (ci := 12) (x := v_5) (ty := .int) (C := RX12) (T := TX12) (N := 55) hx hb hts (fun w h => List.mem_cons_of_mem _ (gx_12 w h)) tyX12 tyX12_ok nmX12 hown hh hA hK hP hS 0 (by decide) rfl rfl 48 (by decide) (hts _ (List.mem_cons_of_mem _ mw_621)) (fun _ h9 => h9) rfl rfl (by decide +kernel) rfl rfl (Nat.le_of_ble_eq_true rfl) dX12_begins_26 (fun f_7 H locs ef_7 hP hS => ?_)
    have hI : sgI loM hiM f_7 := by rw [ef_7]; exact sgI.put hI 0 48 (show 0 ≤ (v_5 : Int32).toInt ∧ (v_5 : Int32).toInt ≤ 19 from by omega)
    have hF : sgK WkX12_begins_30_f2 f f_7 := sgK.put hF ef_7 (by rfl)
    have q_8 : (f_7 0 48).toInt = v_5.toInt := (congrArg Int32.toInt (show f_7 0 48 = v_5 from (by rw [ef_7, sg_up_s, sgu_s])))
    have q_9 : (f_7 0 48).toInt = v_5.toInt := (congrArg Int32.toInt (show f_7 0 48 = v_5 from (by rw [ef_7, sg_up_s, sgu_s])))
    exact hret _ _ _ _ f_7 L Q dX12_begins_29 hP hS ⟨⟨hI, hF, rfl, rfl⟩, (by omega)⟩
  refine lv_aload_n hx hb dX12_begins_0 rfl (lv_at hl 0 rfl) ?_
  refine sg_get (ci := 12) (v := .int 2) (C := RX12) (T := TX12) (N := 55) hx hb hts (fun w h => List.mem_cons_of_mem _ (gx_12 w h)) hown hK hP 0 (by decide) rfl rfl 48 (by decide) (hts _ (List.mem_cons_of_mem _ mw_621)) (fun _ h9 => h9) (congrArg (fun z => some (Value.int z)) (show f 0 48 = 2 from hf_0_48)) dX12_begins_1 ?_
  refine lv_bipush (v := 24) hx hb dX12_begins_4 (by decide) ?_
  refine lv_icmp_ge (tgt := 19) hx hb dX12_begins_6 (by decide) (fun c => absurd c (by decide)) (fun c => ?_)
  refine lv_aload_n hx hb dX12_begins_9 rfl (lv_at hl 0 rfl) ?_
  refine sg_get (ci := 12) (v := .ref (h 21)) (C := RX12) (T := TX12) (N := 55) hx hb hts (fun w h => List.mem_cons_of_mem _ (gx_12 w h)) hown hK hP 0 (by decide) rfl rfl 47 (by decide) (hts _ (List.mem_cons_of_mem _ mw_718)) (fun _ h9 => h9) rfl dX12_begins_10 ?_
  refine lv_aload_n hx hb dX12_begins_13 rfl (lv_at hl 0 rfl) ?_
  refine sg_get (ci := 12) (v := .int 2) (C := RX12) (T := TX12) (N := 55) hx hb hts (fun w h => List.mem_cons_of_mem _ (gx_12 w h)) hown hK hP 0 (by decide) rfl rfl 48 (by decide) (hts _ (List.mem_cons_of_mem _ mw_621)) (fun _ h9 => h9) (congrArg (fun z => some (Value.int z)) (show f 0 48 = 2 from hf_0_48)) dX12_begins_14 ?_
  refine lv_iload_n hx hb dX12_begins_17 rfl (lv_at hl 1 rfl) ?_
  refine sg_iast hx hb hh hA hK hP hS 21 (by decide) 0 (fun _ => rfl) rfl (i := 2) (x := 30) (vp_in_iff.mpr (by decide)) dX12_begins_18 (fun f_10 H locs ef_10 hP hS => ?_)
  have hI : sgI loM hiM f_10 := by rw [ef_10]; exact sgI.put hI 21 (Int32.toNatClampNeg 2) (show 0 ≤ (30 : Int32).toInt ∧ (30 : Int32).toInt ≤ 81 from by decide)
  have hF : sgK WkX12_begins_30_f2 f f_10 := sgK.put hF ef_10 (by rfl)
  exact blk_19 f_10 _ _ _ (by have zz0_48 : (f_10 0 48).toInt = 2 := (congrArg Int32.toInt (show f_10 0 48 = 2 from (by rw [ef_10, sg_up_n (by decide)]; exact hf_0_48))).trans (by decide); omega) hI hF hP hS (lv_sub hl [0] rfl)

abbrev WkX12_begins_10_f3 : List (Nat × Nat × Option Nat) := [(0, 0, some 48), (21, 21, none)]
set_option maxHeartbeats 4000000 in
set_option maxRecDepth 100000 in
theorem kX12_begins_10_f3 (l : Launch) (D : va_G) (ca : Nat → ClassId) (za h : Nat → Nat) (hh : sgH 26 h) (f : sg_F) (L : sg_L) (Q : sg_Q) (hI : sgI loM hiM f) (hf_0_48 : f 0 48 = 3) (p0 : 3 ≤ (f 0 48).toInt ∧ (f 0 48).toInt ≤ 3) (sz : Nat) : Met l yX12_begins gwX12_begins { frames := 0, cells := 0, slots := 0, locals := 0 } (sgP D vwCl (tyX ca) 26 h (eM ca h) zcM za f L Q sz [.ref (h 0), .int 10]) (sgQv D vwCl 26 h (eM ca h) sz (fun f1 L1 Q1 => ((sgI loM hiM f1 ∧ sgK WkX12_begins_10_f3 f f1 ∧ L1 = L ∧ Q1 = Q) ∧ (4 ≤ (f1 0 48).toInt ∧ (f1 0 48).toInt ≤ 4)))) 0 0 (sgA 26 h sz) := by
  refine sg_ofWv (cc := cX12_begins) (maxL := 2) RX12 (by decide) rfl rfl (Nat.le_of_ble_eq_true rfl) ?_
  intro p e s m below meth cd Qz ls hx hb hml hown hts hK hZ hP hS hl hret
  have hA := sgY.self (n := 26) (h := h) (sz := s.heap.size)
  have hl : lv_has ls 2 [(0, .ref (h 0)), (1, .int 10)] := hl
  obtain ⟨H, hH⟩ : ∃ z : Heap, z = s.heap := ⟨_, rfl⟩
  obtain ⟨locs, hlo⟩ : ∃ z : List Loc, z = [] := ⟨_, rfl⟩
  have hP : va_P D vwCl (sgw 26 h (eM ca h) f L Q) H := by rw [hH]; exact hP
  have hS : va_S (sgA 26 h s.heap.size) s.heap H locs := by rw [hH, hlo]; exact hS
  suffices hgo : W p l e ({ frames := 0, cells := 0, slots := 0, locals := 0 }) s m ([.ref (h 0), .int 10] : List Value).toArray below meth cd H locs 0 0 Qz (F0 m 0 ls []) by rw [hH, hlo] at hgo; exact hgo
  clear hH hlo
  have o_1 : (f 0 48).toInt = 3 := (congrArg Int32.toInt (show f 0 48 = 3 from hf_0_48)).trans (by decide)
  have hF : sgK WkX12_begins_10_f3 f f := sgK.rf
  have blk_19 : ∀ (fp_19 : sg_F) (H : Heap) (locs : List Loc) (ls : Array Slot), 3 ≤ (fp_19 0 48).toInt ∧ (fp_19 0 48).toInt ≤ 3 → sgI loM hiM fp_19 → sgK WkX12_begins_10_f3 f fp_19 → va_P D vwCl (sgw 26 h (eM ca h) fp_19 L Q) H → va_S (sgA 26 h s.heap.size) s.heap H locs → lv_has ls 2 [(0, .ref (h 0))] → W p l e ({ frames := 0, cells := 0, slots := 0, locals := 0 }) s m ([.ref (h 0), .int 10] : List Value).toArray below meth cd H locs 0 0 Qz (F0 m 19 ls []) := by
    intro fp_19 H locs ls hy0_19 hI hF hP hS hl
    obtain ⟨v_2, ev_2⟩ : ∃ z : Int32, z = fp_19 0 48 := ⟨_, rfl⟩
    have q_3 : 0 ≤ v_2.toInt ∧ v_2.toInt ≤ 19 := by rw [ev_2]; exact hI 0 48
    have q_4 : (fp_19 0 48).toInt = v_2.toInt := by rw [ev_2]
    refine lv_aload_n hx hb dX12_begins_19 rfl (lv_at hl 0 rfl) ?_
    refine lv_dup hx hb dX12_begins_20 rfl ?_
    refine sg_get (ci := 12) (v := .int v_2) (C := RX12) (T := TX12) (N := 55) hx hb hts (fun w h => List.mem_cons_of_mem _ (gx_12 w h)) hown hK hP 0 (by decide) rfl rfl 48 (by decide) (hts _ (List.mem_cons_of_mem _ mw_621)) (fun _ h9 => h9) (congrArg (fun z => some (Value.int z)) (show fp_19 0 48 = v_2 from ev_2.symm)) dX12_begins_21 ?_
    refine lv_iconst (v := 1) hx hb dX12_begins_24 (by decide) ?_
    refine lv_iadd hx hb dX12_begins_25 ?_
    refine lv_topi (fun v_5 ev_5 => ?_)
    have q_6 : v_5.toInt = v_2.toInt + 1 := by rw [ev_5]; have k1 : (1 : Int32).toInt = 1 := (by decide); exact (bn_addI (by omega) (by omega)).trans (by omega)
    refine sg_put (ci := 12) (x := v_5) (ty := .int) (C := RX12) (T := TX12) (N := 55) hx hb hts (fun w h => List.mem_cons_of_mem _ (gx_12 w h)) tyX12 tyX12_ok nmX12 hown hh hA hK hP hS 0 (by decide) rfl rfl 48 (by decide) (hts _ (List.mem_cons_of_mem _ mw_621)) (fun _ h9 => h9) rfl rfl (by decide +kernel) rfl rfl (Nat.le_of_ble_eq_true rfl) dX12_begins_26 (fun f_7 H locs ef_7 hP hS => ?_)
    have hI : sgI loM hiM f_7 := by rw [ef_7]; exact sgI.put hI 0 48 (show 0 ≤ (v_5 : Int32).toInt ∧ (v_5 : Int32).toInt ≤ 19 from by omega)
    have hF : sgK WkX12_begins_10_f3 f f_7 := sgK.put hF ef_7 (by rfl)
    have q_8 : (f_7 0 48).toInt = v_5.toInt := (congrArg Int32.toInt (show f_7 0 48 = v_5 from (by rw [ef_7, sg_up_s, sgu_s])))
    have q_9 : (f_7 0 48).toInt = v_5.toInt := (congrArg Int32.toInt (show f_7 0 48 = v_5 from (by rw [ef_7, sg_up_s, sgu_s])))
    exact hret _ _ _ _ f_7 L Q dX12_begins_29 hP hS ⟨⟨hI, hF, rfl, rfl⟩, (by omega)⟩
  refine lv_aload_n hx hb dX12_begins_0 rfl (lv_at hl 0 rfl) ?_
  refine sg_get (ci := 12) (v := .int 3) (C := RX12) (T := TX12) (N := 55) hx hb hts (fun w h => List.mem_cons_of_mem _ (gx_12 w h)) hown hK hP 0 (by decide) rfl rfl 48 (by decide) (hts _ (List.mem_cons_of_mem _ mw_621)) (fun _ h9 => h9) (congrArg (fun z => some (Value.int z)) (show f 0 48 = 3 from hf_0_48)) dX12_begins_1 ?_
  refine lv_bipush (v := 24) hx hb dX12_begins_4 (by decide) ?_
  refine lv_icmp_ge (tgt := 19) hx hb dX12_begins_6 (by decide) (fun c => absurd c (by decide)) (fun c => ?_)
  refine lv_aload_n hx hb dX12_begins_9 rfl (lv_at hl 0 rfl) ?_
  refine sg_get (ci := 12) (v := .ref (h 21)) (C := RX12) (T := TX12) (N := 55) hx hb hts (fun w h => List.mem_cons_of_mem _ (gx_12 w h)) hown hK hP 0 (by decide) rfl rfl 47 (by decide) (hts _ (List.mem_cons_of_mem _ mw_718)) (fun _ h9 => h9) rfl dX12_begins_10 ?_
  refine lv_aload_n hx hb dX12_begins_13 rfl (lv_at hl 0 rfl) ?_
  refine sg_get (ci := 12) (v := .int 3) (C := RX12) (T := TX12) (N := 55) hx hb hts (fun w h => List.mem_cons_of_mem _ (gx_12 w h)) hown hK hP 0 (by decide) rfl rfl 48 (by decide) (hts _ (List.mem_cons_of_mem _ mw_621)) (fun _ h9 => h9) (congrArg (fun z => some (Value.int z)) (show f 0 48 = 3 from hf_0_48)) dX12_begins_14 ?_
  refine lv_iload_n hx hb dX12_begins_17 rfl (lv_at hl 1 rfl) ?_
  refine sg_iast hx hb hh hA hK hP hS 21 (by decide) 0 (fun _ => rfl) rfl (i := 3) (x := 10) (vp_in_iff.mpr (by decide)) dX12_begins_18 (fun f_10 H locs ef_10 hP hS => ?_)
  have hI : sgI loM hiM f_10 := by rw [ef_10]; exact sgI.put hI 21 (Int32.toNatClampNeg 3) (show 0 ≤ (10 : Int32).toInt ∧ (10 : Int32).toInt ≤ 81 from by decide)
  have hF : sgK WkX12_begins_10_f3 f f_10 := sgK.put hF ef_10 (by rfl)
  exact blk_19 f_10 _ _ _ (by have zz0_48 : (f_10 0 48).toInt = 3 := (congrArg Int32.toInt (show f_10 0 48 = 3 from (by rw [ef_10, sg_up_n (by decide)]; exact hf_0_48))).trans (by decide); omega) hI hF hP hS (lv_sub hl [0] rfl)

abbrev WkX12_begins_1_f4 : List (Nat × Nat × Option Nat) := [(0, 0, some 48), (21, 21, none)]
set_option maxHeartbeats 4000000 in
set_option maxRecDepth 100000 in
theorem kX12_begins_1_f4 (l : Launch) (D : va_G) (ca : Nat → ClassId) (za h : Nat → Nat) (hh : sgH 26 h) (f : sg_F) (L : sg_L) (Q : sg_Q) (hI : sgI loM hiM f) (hf_0_48 : f 0 48 = 4) (p0 : 4 ≤ (f 0 48).toInt ∧ (f 0 48).toInt ≤ 4) (sz : Nat) : Met l yX12_begins gwX12_begins { frames := 0, cells := 0, slots := 0, locals := 0 } (sgP D vwCl (tyX ca) 26 h (eM ca h) zcM za f L Q sz [.ref (h 0), .int 1]) (sgQv D vwCl 26 h (eM ca h) sz (fun f1 L1 Q1 => ((sgI loM hiM f1 ∧ sgK WkX12_begins_1_f4 f f1 ∧ L1 = L ∧ Q1 = Q) ∧ (5 ≤ (f1 0 48).toInt ∧ (f1 0 48).toInt ≤ 5)))) 0 0 (sgA 26 h sz) := by
  refine sg_ofWv (cc := cX12_begins) (maxL := 2) RX12 (by decide) rfl rfl (Nat.le_of_ble_eq_true rfl) ?_
  intro p e s m below meth cd Qz ls hx hb hml hown hts hK hZ hP hS hl hret
  have hA := sgY.self (n := 26) (h := h) (sz := s.heap.size)
  have hl : lv_has ls 2 [(0, .ref (h 0)), (1, .int 1)] := hl
  obtain ⟨H, hH⟩ : ∃ z : Heap, z = s.heap := ⟨_, rfl⟩
  obtain ⟨locs, hlo⟩ : ∃ z : List Loc, z = [] := ⟨_, rfl⟩
  have hP : va_P D vwCl (sgw 26 h (eM ca h) f L Q) H := by rw [hH]; exact hP
  have hS : va_S (sgA 26 h s.heap.size) s.heap H locs := by rw [hH, hlo]; exact hS
  suffices hgo : W p l e ({ frames := 0, cells := 0, slots := 0, locals := 0 }) s m ([.ref (h 0), .int 1] : List Value).toArray below meth cd H locs 0 0 Qz (F0 m 0 ls []) by rw [hH, hlo] at hgo; exact hgo
  clear hH hlo
  have o_1 : (f 0 48).toInt = 4 := (congrArg Int32.toInt (show f 0 48 = 4 from hf_0_48)).trans (by decide)
  have hF : sgK WkX12_begins_1_f4 f f := sgK.rf
  have blk_19 : ∀ (fp_19 : sg_F) (H : Heap) (locs : List Loc) (ls : Array Slot), 4 ≤ (fp_19 0 48).toInt ∧ (fp_19 0 48).toInt ≤ 4 → sgI loM hiM fp_19 → sgK WkX12_begins_1_f4 f fp_19 → va_P D vwCl (sgw 26 h (eM ca h) fp_19 L Q) H → va_S (sgA 26 h s.heap.size) s.heap H locs → lv_has ls 2 [(0, .ref (h 0))] → W p l e ({ frames := 0, cells := 0, slots := 0, locals := 0 }) s m ([.ref (h 0), .int 1] : List Value).toArray below meth cd H locs 0 0 Qz (F0 m 19 ls []) := by
    intro fp_19 H locs ls hy0_19 hI hF hP hS hl
    obtain ⟨v_2, ev_2⟩ : ∃ z : Int32, z = fp_19 0 48 := ⟨_, rfl⟩
    have q_3 : 0 ≤ v_2.toInt ∧ v_2.toInt ≤ 19 := by rw [ev_2]; exact hI 0 48
    have q_4 : (fp_19 0 48).toInt = v_2.toInt := by rw [ev_2]
    refine lv_aload_n hx hb dX12_begins_19 rfl (lv_at hl 0 rfl) ?_
    refine lv_dup hx hb dX12_begins_20 rfl ?_
    refine sg_get (ci := 12) (v := .int v_2) (C := RX12) (T := TX12) (N := 55) hx hb hts (fun w h => List.mem_cons_of_mem _ (gx_12 w h)) hown hK hP 0 (by decide) rfl rfl 48 (by decide) (hts _ (List.mem_cons_of_mem _ mw_621)) (fun _ h9 => h9) (congrArg (fun z => some (Value.int z)) (show fp_19 0 48 = v_2 from ev_2.symm)) dX12_begins_21 ?_
    refine lv_iconst (v := 1) hx hb dX12_begins_24 (by decide) ?_
    refine lv_iadd hx hb dX12_begins_25 ?_
    refine lv_topi (fun v_5 ev_5 => ?_)
    have q_6 : v_5.toInt = v_2.toInt + 1 := by rw [ev_5]; have k1 : (1 : Int32).toInt = 1 := (by decide); exact (bn_addI (by omega) (by omega)).trans (by omega)
    refine sg_put (ci := 12) (x := v_5) (ty := .int) (C := RX12) (T := TX12) (N := 55) hx hb hts (fun w h => List.mem_cons_of_mem _ (gx_12 w h)) tyX12 tyX12_ok nmX12 hown hh hA hK hP hS 0 (by decide) rfl rfl 48 (by decide) (hts _ (List.mem_cons_of_mem _ mw_621)) (fun _ h9 => h9) rfl rfl (by decide +kernel) rfl rfl (Nat.le_of_ble_eq_true rfl) dX12_begins_26 (fun f_7 H locs ef_7 hP hS => ?_)
    have hI : sgI loM hiM f_7 := by rw [ef_7]; exact sgI.put hI 0 48 (show 0 ≤ (v_5 : Int32).toInt ∧ (v_5 : Int32).toInt ≤ 19 from by omega)
    have hF : sgK WkX12_begins_1_f4 f f_7 := sgK.put hF ef_7 (by rfl)
    have q_8 : (f_7 0 48).toInt = v_5.toInt := (congrArg Int32.toInt (show f_7 0 48 = v_5 from (by rw [ef_7, sg_up_s, sgu_s])))
    have q_9 : (f_7 0 48).toInt = v_5.toInt := (congrArg Int32.toInt (show f_7 0 48 = v_5 from (by rw [ef_7, sg_up_s, sgu_s])))
    exact hret _ _ _ _ f_7 L Q dX12_begins_29 hP hS ⟨⟨hI, hF, rfl, rfl⟩, (by omega)⟩
  refine lv_aload_n hx hb dX12_begins_0 rfl (lv_at hl 0 rfl) ?_
  refine sg_get (ci := 12) (v := .int 4) (C := RX12) (T := TX12) (N := 55) hx hb hts (fun w h => List.mem_cons_of_mem _ (gx_12 w h)) hown hK hP 0 (by decide) rfl rfl 48 (by decide) (hts _ (List.mem_cons_of_mem _ mw_621)) (fun _ h9 => h9) (congrArg (fun z => some (Value.int z)) (show f 0 48 = 4 from hf_0_48)) dX12_begins_1 ?_
  refine lv_bipush (v := 24) hx hb dX12_begins_4 (by decide) ?_
  refine lv_icmp_ge (tgt := 19) hx hb dX12_begins_6 (by decide) (fun c => absurd c (by decide)) (fun c => ?_)
  refine lv_aload_n hx hb dX12_begins_9 rfl (lv_at hl 0 rfl) ?_
  refine sg_get (ci := 12) (v := .ref (h 21)) (C := RX12) (T := TX12) (N := 55) hx hb hts (fun w h => List.mem_cons_of_mem _ (gx_12 w h)) hown hK hP 0 (by decide) rfl rfl 47 (by decide) (hts _ (List.mem_cons_of_mem _ mw_718)) (fun _ h9 => h9) rfl dX12_begins_10 ?_
  refine lv_aload_n hx hb dX12_begins_13 rfl (lv_at hl 0 rfl) ?_
  refine sg_get (ci := 12) (v := .int 4) (C := RX12) (T := TX12) (N := 55) hx hb hts (fun w h => List.mem_cons_of_mem _ (gx_12 w h)) hown hK hP 0 (by decide) rfl rfl 48 (by decide) (hts _ (List.mem_cons_of_mem _ mw_621)) (fun _ h9 => h9) (congrArg (fun z => some (Value.int z)) (show f 0 48 = 4 from hf_0_48)) dX12_begins_14 ?_
  refine lv_iload_n hx hb dX12_begins_17 rfl (lv_at hl 1 rfl) ?_
  refine sg_iast hx hb hh hA hK hP hS 21 (by decide) 0 (fun _ => rfl) rfl (i := 4) (x := 1) (vp_in_iff.mpr (by decide)) dX12_begins_18 (fun f_10 H locs ef_10 hP hS => ?_)
  have hI : sgI loM hiM f_10 := by rw [ef_10]; exact sgI.put hI 21 (Int32.toNatClampNeg 4) (show 0 ≤ (1 : Int32).toInt ∧ (1 : Int32).toInt ≤ 81 from by decide)
  have hF : sgK WkX12_begins_1_f4 f f_10 := sgK.put hF ef_10 (by rfl)
  exact blk_19 f_10 _ _ _ (by have zz0_48 : (f_10 0 48).toInt = 4 := (congrArg Int32.toInt (show f_10 0 48 = 4 from (by rw [ef_10, sg_up_n (by decide)]; exact hf_0_48))).trans (by decide); omega) hI hF hP hS (lv_sub hl [0] rfl)
