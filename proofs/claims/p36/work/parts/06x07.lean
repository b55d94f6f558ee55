/-! contracts of any state. Laid by a program (wip/tool) -/
set_option maxHeartbeats 4000000 in
set_option maxRecDepth 100000 in
theorem kX11_count (l : Launch) (D : va_G) (ca : Nat → ClassId) (za h : Nat → Nat) (hh : sgH 52 h) (f : sg_F) (L : sg_L) (Q : sg_Q) (hI : sgI loX hiX f) (x0 : Int32) (sz : Nat) : Met l yX11_count gwX11_count { frames := 0, cells := 0, slots := 0, locals := 0 } (sgP D vwCl (tyX ca) 52 h (eX ca h) zcX za f L Q sz [.ref (h 0), .int x0]) (sgQi D vwCl 52 h (eX ca h) sz (fun r f1 L1 Q1 => ((f1 = f ∧ L1 = L ∧ Q1 = Q) ∧ ((-1) ≤ r.toInt ∧ r.toInt ≤ 120)))) 0 0 (sgA 52 h sz) := by
  refine sg_ofWi (cc := cX11_count) (maxL := 2) RX11 (by decide) rfl rfl (Nat.le_of_ble_eq_true rfl) ?_
  intro p e s m below meth cd Qz ls hx hb hml hown hts hK hZ hP hS hl hret
  have hA := sgY.self (n := 52) (h := h) (sz := s.heap.size)
  have hl : lv_has ls 2 [(0, .ref (h 0)), (1, .int x0)] := hl
  obtain ⟨H, hH⟩ : ∃ z : Heap, z = s.heap := ⟨_, rfl⟩
  obtain ⟨locs, hlo⟩ : ∃ z : List Loc, z = [] := ⟨_, rfl⟩
  have hP : va_P D vwCl (sgw 52 h (eX ca h) f L Q) H := by rw [hH]; exact hP
  have hS : va_S (sgA 52 h s.heap.size) s.heap H locs := by rw [hH, hlo]; exact hS
  suffices hgo : W p l e ({ frames := 0, cells := 0, slots := 0, locals := 0 }) s m ([.ref (h 0), .int x0] : List Value).toArray below meth cd H locs 0 0 Qz (F0 m 0 ls []) by rw [hH, hlo] at hgo; exact hgo
  clear hH hlo
  refine lv_iload_n hx hb dX11_count_0 rfl (lv_at hl 1 rfl) ?_
  rcases (show (x0.toInt ≠ 0 ∧ x0.toInt ≠ 1 ∧ x0.toInt ≠ 2 ∧ x0.toInt ≠ 3 ∧ x0.toInt ≠ 4) ∨ x0.toInt = 0 ∨ x0.toInt = 1 ∨ x0.toInt = 2 ∨ x0.toInt = 3 ∨ x0.toInt = 4 from by omega) with c | c | c | c | c | c
  · skip
    refine lv_tableOut (x := x0) (tgt := 79) hx hb dX11_count_1 (by omega) (by decide) ?_
    refine lv_iconst (v := (-1)) hx hb dX11_count_79 (by decide) ?_
    have k99 : ((-1) : Int32).toInt = (-1) := (by decide)
    exact hret _ _ _ _ (-1) f L Q dX11_count_80 hP hS ⟨⟨rfl, rfl, rfl⟩, (by decide)⟩
  · skip
    have c_1 := c
    refine lv_tableIn (x := x0) (tgt := 36) hx hb dX11_count_1 (by omega) (by omega) (by rw [c]; rfl) (by decide) ?_
    refine lv_aload_n hx hb dX11_count_36 rfl (lv_at hl 0 rfl) ?_
    refine sg_get (ci := 11) (v := .ref (h 1)) (C := RX11) (T := TX11) (N := 10) hx hb hts (fun w h => List.mem_cons_of_mem _ (gx_11 w h)) hown hK hP 0 (by decide) rfl rfl 0 (by decide) (hts _ (List.mem_cons_of_mem _ mw_0)) (fun _ h9 => h9) rfl dX11_count_37 ?_
    refine sg_get (ci := 0) (v := .int (f 1 3)) (C := RX0) (T := TX0) (N := 5) hx hb hts (fun w h => List.mem_cons_of_mem _ (gx_0 w h)) hown hK hP 1 (by decide) rfl rfl 3 (by decide) (hts _ (List.mem_cons_of_mem _ mw_13)) (fun _ h9 => h9) rfl dX11_count_40 ?_
    refine lv_topi (fun v_2 ev_2 => ?_)
    have q_3 : 0 ≤ v_2.toInt ∧ v_2.toInt ≤ 8 := by rw [ev_2]; exact hI 1 3
    exact hret _ _ _ _ (v_2) f L Q dX11_count_43 hP hS ⟨⟨rfl, rfl, rfl⟩, (by omega)⟩
  · skip
    have c_4 := c
    refine lv_tableIn (x := x0) (tgt := 44) hx hb dX11_count_1 (by omega) (by omega) (by rw [c]; rfl) (by decide) ?_
    refine lv_aload_n hx hb dX11_count_44 rfl (lv_at hl 0 rfl) ?_
    refine sg_get (ci := 11) (v := .ref (h 1)) (C := RX11) (T := TX11) (N := 10) hx hb hts (fun w h => List.mem_cons_of_mem _ (gx_11 w h)) hown hK hP 0 (by decide) rfl rfl 0 (by decide) (hts _ (List.mem_cons_of_mem _ mw_0)) (fun _ h9 => h9) rfl dX11_count_45 ?_
    refine sg_get (ci := 0) (v := .ref (h 4)) (C := RX0) (T := TX0) (N := 5) hx hb hts (fun w h => List.mem_cons_of_mem _ (gx_0 w h)) hown hK hP 1 (by decide) rfl rfl 2 (by decide) (hts _ (List.mem_cons_of_mem _ mw_1)) (fun _ h9 => h9) rfl dX11_count_48 ?_
    refine sg_get (ci := 5) (v := .int (f 4 1)) (C := RX5) (T := TX5) (N := 10) hx hb hts (fun w h => List.mem_cons_of_mem _ (gx_5 w h)) hown hK hP 4 (by decide) rfl rfl 1 (by decide) (hts _ (List.mem_cons_of_mem _ mw_14)) (fun _ h9 => h9) rfl dX11_count_51 ?_
    refine lv_topi (fun v_5 ev_5 => ?_)
    have q_6 : 0 ≤ v_5.toInt ∧ v_5.toInt ≤ 120 := by rw [ev_5]; exact hI 4 1
    exact hret _ _ _ _ (v_5) f L Q dX11_count_54 hP hS ⟨⟨rfl, rfl, rfl⟩, (by omega)⟩
  · skip
    have c_7 := c
    refine lv_tableIn (x := x0) (tgt := 55) hx hb dX11_count_1 (by omega) (by omega) (by rw [c]; rfl) (by decide) ?_
    refine lv_aload_n hx hb dX11_count_55 rfl (lv_at hl 0 rfl) ?_
    refine sg_get (ci := 11) (v := .ref (h 32)) (C := RX11) (T := TX11) (N := 10) hx hb hts (fun w h => List.mem_cons_of_mem _ (gx_11 w h)) hown hK hP 0 (by decide) rfl rfl 7 (by decide) (hts _ (List.mem_cons_of_mem _ mw_4)) (fun _ h9 => h9) rfl dX11_count_56 ?_
    refine sg_get (ci := 1) (v := .int (f 32 3)) (C := RX1) (T := TX1) (N := 5) hx hb hts (fun w h => List.mem_cons_of_mem _ (gx_1 w h)) hown hK hP 32 (by decide) rfl rfl 3 (by decide) (hts _ (List.mem_cons_of_mem _ mw_5)) (fun _ h9 => h9) rfl dX11_count_59 ?_
    refine lv_topi (fun v_8 ev_8 => ?_)
    have q_9 : 0 ≤ v_8.toInt ∧ v_8.toInt ≤ 40 := by rw [ev_8]; exact hI 32 3
    exact hret _ _ _ _ (v_8) f L Q dX11_count_62 hP hS ⟨⟨rfl, rfl, rfl⟩, (by omega)⟩
  · skip
    have c_10 := c
    refine lv_tableIn (x := x0) (tgt := 63) hx hb dX11_count_1 (by omega) (by omega) (by rw [c]; rfl) (by decide) ?_
    refine lv_aload_n hx hb dX11_count_63 rfl (lv_at hl 0 rfl) ?_
    refine sg_get (ci := 11) (v := .ref (h 36)) (C := RX11) (T := TX11) (N := 10) hx hb hts (fun w h => List.mem_cons_of_mem _ (gx_11 w h)) hown hK hP 0 (by decide) rfl rfl 8 (by decide) (hts _ (List.mem_cons_of_mem _ mw_7)) (fun _ h9 => h9) rfl dX11_count_64 ?_
    refine sg_get (ci := 3) (v := .int (f 36 2)) (C := RX3) (T := TX3) (N := 6) hx hb hts (fun w h => List.mem_cons_of_mem _ (gx_3 w h)) hown hK hP 36 (by decide) rfl rfl 2 (by decide) (hts _ (List.mem_cons_of_mem _ mw_15)) (fun _ h9 => h9) rfl dX11_count_67 ?_
    refine lv_topi (fun v_11 ev_11 => ?_)
    have q_12 : 0 ≤ v_11.toInt ∧ v_11.toInt ≤ 50 := by rw [ev_11]; exact hI 36 2
    exact hret _ _ _ _ (v_11) f L Q dX11_count_70 hP hS ⟨⟨rfl, rfl, rfl⟩, (by omega)⟩
  · skip
    have c_13 := c
    refine lv_tableIn (x := x0) (tgt := 71) hx hb dX11_count_1 (by omega) (by omega) (by rw [c]; rfl) (by decide) ?_
    refine lv_aload_n hx hb dX11_count_71 rfl (lv_at hl 0 rfl) ?_
    refine sg_get (ci := 11) (v := .ref (h 36)) (C := RX11) (T := TX11) (N := 10) hx hb hts (fun w h => List.mem_cons_of_mem _ (gx_11 w h)) hown hK hP 0 (by decide) rfl rfl 8 (by decide) (hts _ (List.mem_cons_of_mem _ mw_7)) (fun _ h9 => h9) rfl dX11_count_72 ?_
    refine sg_get (ci := 3) (v := .int (f 36 3)) (C := RX3) (T := TX3) (N := 6) hx hb hts (fun w h => List.mem_cons_of_mem _ (gx_3 w h)) hown hK hP 36 (by decide) rfl rfl 3 (by decide) (hts _ (List.mem_cons_of_mem _ mw_8)) (fun _ h9 => h9) rfl dX11_count_75 ?_
    refine lv_topi (fun v_14 ev_14 => ?_)
    have q_15 : 0 ≤ v_14.toInt ∧ v_14.toInt ≤ 19 := by rw [ev_14]; exact hI 36 3
    exact hret _ _ _ _ (v_14) f L Q dX11_count_78 hP hS ⟨⟨rfl, rfl, rfl⟩, (by omega)⟩
