/-! contracts of any state. Laid by a program (wip/tool) -/
abbrev WkX12_pays : List (Nat × Nat × Option Nat) := [(0, 0, some 12), (0, 0, some 13), (0, 0, some 14), (0, 0, some 15), (0, 0, some 16), (0, 0, some 20), (0, 0, some 21), (0, 0, some 29), (0, 0, some 30), (0, 0, some 31), (8, 8, none), (12, 12, none), (13, 13, none)]
set_option maxHeartbeats 4000000 in
set_option maxRecDepth 100000 in
theorem kX12_pays (l : Launch) (D : va_G) (ca : Nat → ClassId) (za h : Nat → Nat) (hh : sgH 26 h) (f : sg_F) (L : sg_L) (Q : sg_Q) (hI : sgI loM hiM f) (x0 : Int32) (x1 : Int32) (x2 : Int32) (sz : Nat) : Met l yX12_pays gwX12_pays { frames := 47, cells := 0, slots := 0, locals := 1079 } (sgP D vwCl (tyX ca) 26 h (eM ca h) zcM za f L Q sz [.ref (h 0), .int x0, .int x1, .int x2]) (sgQi D vwCl 26 h (eM ca h) sz (fun r f1 L1 Q1 => ((sgI loM hiM f1 ∧ sgK WkX12_pays f f1 ∧ L1 = L ∧ Q1 = Q) ∧ True))) 0 0 (sgA 26 h sz) := by
  refine sg_ofWi (cc := cX12_pays) (maxL := 7) RX12 (by decide) rfl rfl (Nat.le_of_ble_eq_true rfl) ?_
  intro p e s m below meth cd Qz ls hx hb hml hown hts hK hZ hP hS hl hret
  have hA := sgY.self (n := 26) (h := h) (sz := s.heap.size)
  have hl : lv_has ls 7 [(0, .ref (h 0)), (1, .int x0), (2, .int x1), (3, .int x2)] := hl
  obtain ⟨H, hH⟩ : ∃ z : Heap, z = s.heap := ⟨_, rfl⟩
  obtain ⟨locs, hlo⟩ : ∃ z : List Loc, z = [] := ⟨_, rfl⟩
  have hP : va_P D vwCl (sgw 26 h (eM ca h) f L Q) H := by rw [hH]; exact hP
  have hS : va_S (sgA 26 h s.heap.size) s.heap H locs := by rw [hH, hlo]; exact hS
  suffices hgo : W p l e ({ frames := 47, cells := 0, slots := 0, locals := 1079 }) s m ([.ref (h 0), .int x0, .int x1, .int x2] : List Value).toArray below meth cd H locs 0 0 Qz (F0 m 0 ls []) by rw [hH, hlo] at hgo; exact hgo
  clear hH hlo
  have hF : sgK WkX12_pays f f := sgK.rf
  have loop_60 : ∀ (n_60 : Nat) (y4_60 : Int32) (y5_60 : Int32) (fp_60 : sg_F) (H : Heap) (locs : List Loc) (ls : Array Slot), 61 - (fp_60 0 21).toInt < (n_60 : Int) → 0 ≤ (fp_60 0 20).toInt ∧ (fp_60 0 20).toInt ≤ 7 → 0 ≤ x0.toInt ∧ x0.toInt ≤ 5 → 0 ≤ x1.toInt ∧ x1.toInt ≤ 7 → 0 ≤ x2.toInt ∧ x2.toInt ≤ 1 → 0 ≤ y4_60.toInt ∧ y4_60.toInt ≤ 60 → sgI loM hiM fp_60 → sgK WkX12_pays f fp_60 → va_P D vwCl (sgw 26 h (eM ca h) fp_60 L Q) H → va_S (sgA 26 h s.heap.size) s.heap H locs → lv_has ls 7 [(0, .ref (h 0)), (1, .int x0), (3, .int x2), (4, .int y4_60), (5, .int y5_60)] → W p l e ({ frames := 47, cells := 0, slots := 0, locals := 1079 }) s m ([.ref (h 0), .int x0, .int x1, .int x2] : List Value).toArray below meth cd H locs 0 0 Qz (F0 m 60 ls []) := by
    intro n_60
    induction n_60 with
    | zero => intro y4_60 y5_60 fp_60 H locs ls hm_60 hy0_60 hy1_60 hy2_60 hy3_60 hy4_60 hI hF hP hS hl; have zb := (show 0 ≤ (fp_60 0 21).toInt ∧ (fp_60 0 21).toInt ≤ 61 from hI 0 21); exact absurd hm_60 (by omega)
    | succ n_60 ih_60 =>
      have blk_111 : ∀ (y4_111 : Int32) (y6_111 : Int32) (fp_111 : sg_F) (H : Heap) (locs : List Loc) (ls : Array Slot), 61 - (fp_111 0 21).toInt < ((n_60 + 1 : Nat) : Int) → 0 ≤ (fp_111 0 20).toInt ∧ (fp_111 0 20).toInt ≤ 7 → 0 ≤ (fp_111 0 21).toInt ∧ (fp_111 0 21).toInt ≤ 60 → 0 ≤ x0.toInt ∧ x0.toInt ≤ 5 → 0 ≤ x1.toInt ∧ x1.toInt ≤ 7 → 0 ≤ x2.toInt ∧ x2.toInt ≤ 1 → 0 ≤ y4_111.toInt ∧ y4_111.toInt ≤ 60 → sgI loM hiM fp_111 → sgK WkX12_pays f fp_111 → va_P D vwCl (sgw 26 h (eM ca h) fp_111 L Q) H → va_S (sgA 26 h s.heap.size) s.heap H locs → lv_has ls 7 [(0, .ref (h 0)), (1, .int x0), (3, .int x2), (4, .int y4_111), (6, .int y6_111)] → W p l e ({ frames := 47, cells := 0, slots := 0, locals := 1079 }) s m ([.ref (h 0), .int x0, .int x1, .int x2] : List Value).toArray below meth cd H locs 0 0 Qz (F0 m 111 ls []) := by
        intro y4_111 y6_111 fp_111 H locs ls hm_60 hy0_111 hy1_111 hy2_111 hy3_111 hy4_111 hy5_111 hI hF hP hS hl
        obtain ⟨v_1, ev_1⟩ : ∃ z : Int32, z = fp_111 0 20 := ⟨_, rfl⟩
        have q_2 : (-1) ≤ v_1.toInt ∧ v_1.toInt ≤ 7 := by rw [ev_1]; exact hI 0 20
        have q_3 : (fp_111 0 20).toInt = v_1.toInt := by rw [ev_1]
        obtain ⟨v_4, ev_4⟩ : ∃ z : Int32, z = fp_111 0 21 := ⟨_, rfl⟩
        have q_5 : 0 ≤ v_4.toInt ∧ v_4.toInt ≤ 61 := by rw [ev_4]; exact hI 0 21
        have q_6 : (fp_111 0 21).toInt = v_4.toInt := by rw [ev_4]
        refine lv_iload hx hb dX12_pays_111 (lv_at hl 4 rfl) ?_
        refine lv_goto (tgt := 118) hx hb dX12_pays_113 (by decide) ?_
        refine lv_istore (lv' := [(5, .int y6_111), (0, .ref (h 0)), (1, .int x0), (3, .int x2), (4, .int y4_111), (6, .int y6_111)]) hx hb dX12_pays_118 hl (by decide) rfl (fun ls hl => ?_)
        refine lv_aload_n hx hb dX12_pays_120 rfl (lv_at hl 1 rfl) ?_
        refine lv_dup hx hb dX12_pays_121 rfl ?_
        refine sg_get (ci := 12) (v := .int v_4) (C := RX12) (T := TX12) (N := 55) hx hb hts (fun w h => List.mem_cons_of_mem _ (gx_12 w h)) hown hK hP 0 (by decide) rfl rfl 21 (by decide) (hts _ (List.mem_cons_of_mem _ mw_697)) (fun _ h9 => h9) (congrArg (fun z => some (Value.int z)) (show fp_111 0 21 = v_4 from ev_4.symm)) dX12_pays_122 ?_
        refine lv_iconst (v := 1) hx hb dX12_pays_125 (by decide) ?_
        refine lv_iadd hx hb dX12_pays_126 ?_
        refine lv_topi (fun v_7 ev_7 => ?_)
        have q_8 : v_7.toInt = v_4.toInt + 1 := by rw [ev_7]; have k1 : (1 : Int32).toInt = 1 := (by decide); exact (bn_addI (by omega) (by omega)).trans (by omega)
        refine sg_put (ci := 12) (x := v_7) (ty := .int) (C := RX12) (T := TX12) (N := 55) hx hb hts (fun w h => List.mem_cons_of_mem _ (gx_12 w h)) tyX12 tyX12_ok nmX12 hown hh hA hK hP hS 0 (by decide) rfl rfl 21 (by decide) (hts _ (List.mem_cons_of_mem _ mw_697)) (fun _ h9 => h9) rfl rfl (by decide +kernel) rfl rfl (Nat.le_of_ble_eq_true rfl) dX12_pays_127 (fun f_9 H locs ef_9 hP hS => ?_)
        have hI : sgI loM hiM f_9 := by rw [ef_9]; exact sgI.put hI 0 21 (show 0 ≤ (v_7 : Int32).toInt ∧ (v_7 : Int32).toInt ≤ 61 from by omega)
        have hF : sgK WkX12_pays f f_9 := sgK.put hF ef_9 (by rfl)
        refine lv_goto (tgt := 60) hx hb dX12_pays_130 (by decide) ?_
        exact ih_60 y4_111 y6_111 f_9 _ _ _ (by have zz0_21 : (f_9 0 21).toInt = v_7.toInt := (congrArg Int32.toInt (show f_9 0 21 = v_7 from (by rw [ef_9, sg_up_s, sgu_s]))); omega) (by have zz0_20 : (f_9 0 20).toInt = v_1.toInt := (congrArg Int32.toInt (show f_9 0 20 = v_1 from (by rw [ef_9, sg_up_s, sgu_n (by decide)]; exact ev_1.symm))); omega) (by omega) (by omega) (by omega) (by omega) hI hF hP hS (lv_sub hl [1, 2, 3, 4, 0] rfl)
      have blk_88 : ∀ (y5_88 : Int32) (y6_88 : Int32) (fp_88 : sg_F) (H : Heap) (locs : List Loc) (ls : Array Slot), 61 - (fp_88 0 21).toInt < ((n_60 + 1 : Nat) : Int) → 0 ≤ (fp_88 0 20).toInt ∧ (fp_88 0 20).toInt ≤ 7 → 0 ≤ (fp_88 0 21).toInt ∧ (fp_88 0 21).toInt ≤ 60 → 0 ≤ x0.toInt ∧ x0.toInt ≤ 5 → 0 ≤ x1.toInt ∧ x1.toInt ≤ 7 → 0 ≤ x2.toInt ∧ x2.toInt ≤ 1 → sgI loM hiM fp_88 → sgK WkX12_pays f fp_88 → va_P D vwCl (sgw 26 h (eM ca h) fp_88 L Q) H → va_S (sgA 26 h s.heap.size) s.heap H locs → lv_has ls 7 [(0, .ref (h 0)), (1, .int x0), (3, .int x2), (5, .int y5_88), (6, .int y6_88)] → W p l e ({ frames := 47, cells := 0, slots := 0, locals := 1079 }) s m ([.ref (h 0), .int x0, .int x1, .int x2] : List Value).toArray below meth cd H locs 0 0 Qz (F0 m 88 ls []) := by
        intro y5_88 y6_88 fp_88 H locs ls hm_60 hy0_88 hy1_88 hy2_88 hy3_88 hy4_88 hI hF hP hS hl
        obtain ⟨v_10, ev_10⟩ : ∃ z : Int32, z = fp_88 0 20 := ⟨_, rfl⟩
        have q_11 : (-1) ≤ v_10.toInt ∧ v_10.toInt ≤ 7 := by rw [ev_10]; exact hI 0 20
        have q_12 : (fp_88 0 20).toInt = v_10.toInt := by rw [ev_10]
        obtain ⟨v_13, ev_13⟩ : ∃ z : Int32, z = fp_88 0 21 := ⟨_, rfl⟩
        have q_14 : 0 ≤ v_13.toInt ∧ v_13.toInt ≤ 61 := by rw [ev_13]; exact hI 0 21
        have q_15 : (fp_88 0 21).toInt = v_13.toInt := by rw [ev_13]
        refine lv_aload_n hx hb dX12_pays_88 rfl (lv_at hl 0 rfl) ?_
        refine sg_get (ci := 12) (v := .int v_13) (C := RX12) (T := TX12) (N := 55) hx hb hts (fun w h => List.mem_cons_of_mem _ (gx_12 w h)) hown hK hP 0 (by decide) rfl rfl 21 (by decide) (hts _ (List.mem_cons_of_mem _ mw_697)) (fun _ h9 => h9) (congrArg (fun z => some (Value.int z)) (show fp_88 0 21 = v_13 from ev_13.symm)) dX12_pays_89 ?_
        refine lv_goto (tgt := 97) hx hb dX12_pays_92 (by decide) ?_
        refine lv_istore (lv' := [(4, .int v_13), (0, .ref (h 0)), (1, .int x0), (3, .int x2), (5, .int y5_88), (6, .int y6_88)]) hx hb dX12_pays_97 hl (by decide) rfl (fun ls hl => ?_)
        refine lv_iload hx hb dX12_pays_99 (lv_at hl 4 rfl) ?_
        refine lv_if_lt (tgt := 111) hx hb dX12_pays_101 (by decide) (fun c => ?_) (fun c => ?_)
        · skip
          have c_16 : y5_88.toInt < 0 := (by have z := bn_lt c; have k1 : (0 : Int32).toInt = 0 := (by decide); omega)
          exact blk_111 v_13 y6_88 fp_88 _ _ _ (by have zz0_21 : (fp_88 0 21).toInt = v_13.toInt := (congrArg Int32.toInt (show fp_88 0 21 = v_13 from ev_13.symm)); omega) (by have zz0_20 : (fp_88 0 20).toInt = v_10.toInt := (congrArg Int32.toInt (show fp_88 0 20 = v_10 from ev_10.symm)); omega) (by have zz0_21 : (fp_88 0 21).toInt = v_13.toInt := (congrArg Int32.toInt (show fp_88 0 21 = v_13 from ev_13.symm)); omega) (by omega) (by omega) (by omega) (by omega) hI hF hP hS (lv_sub hl [1, 2, 3, 0, 5] rfl)
        · skip
          have c_17 : 0 ≤ y5_88.toInt := (by have z := bn_nlt c; have k1 : (0 : Int32).toInt = 0 := (by decide); omega)
          refine lv_iload hx hb dX12_pays_104 (lv_at hl 5 rfl) ?_
          refine lv_iload hx hb dX12_pays_106 (lv_at hl 4 rfl) ?_
          refine lv_icmp_ge (tgt := 116) hx hb dX12_pays_108 (by decide) (fun c => ?_) (fun c => ?_)
          · skip
            have c_18 : y5_88.toInt ≤ y6_88.toInt := (by have z := bn_le c; omega)
            refine lv_iload hx hb dX12_pays_116 (lv_at hl 4 rfl) ?_
            refine lv_istore (lv' := [(5, .int y5_88), (4, .int v_13), (0, .ref (h 0)), (1, .int x0), (3, .int x2), (6, .int y6_88)]) hx hb dX12_pays_118 hl (by decide) rfl (fun ls hl => ?_)
            refine lv_aload_n hx hb dX12_pays_120 rfl (lv_at hl 2 rfl) ?_
            refine lv_dup hx hb dX12_pays_121 rfl ?_
            refine sg_get (ci := 12) (v := .int v_13) (C := RX12) (T := TX12) (N := 55) hx hb hts (fun w h => List.mem_cons_of_mem _ (gx_12 w h)) hown hK hP 0 (by decide) rfl rfl 21 (by decide) (hts _ (List.mem_cons_of_mem _ mw_697)) (fun _ h9 => h9) (congrArg (fun z => some (Value.int z)) (show fp_88 0 21 = v_13 from ev_13.symm)) dX12_pays_122 ?_
            refine lv_iconst (v := 1) hx hb dX12_pays_125 (by decide) ?_
            refine lv_iadd hx hb dX12_pays_126 ?_
            refine lv_topi (fun v_20 ev_20 => ?_)
            have q_21 : v_20.toInt = v_13.toInt + 1 := by rw [ev_20]; have k1 : (1 : Int32).toInt = 1 := (by decide); exact (bn_addI (by omega) (by omega)).trans (by omega)
            refine sg_put (ci := 12) (x := v_20) (ty := .int) (C := RX12) (T := TX12) (N := 55) hx hb hts (fun w h => List.mem_cons_of_mem _ (gx_12 w h)) tyX12 tyX12_ok nmX12 hown hh hA hK hP hS 0 (by decide) rfl rfl 21 (by decide) (hts _ (List.mem_cons_of_mem _ mw_697)) (fun _ h9 => h9) rfl rfl (by decide +kernel) rfl rfl (Nat.le_of_ble_eq_true rfl) dX12_pays_127 (fun f_22 H locs ef_22 hP hS => ?_)
            have hI : sgI loM hiM f_22 := by rw [ef_22]; exact sgI.put hI 0 21 (show 0 ≤ (v_20 : Int32).toInt ∧ (v_20 : Int32).toInt ≤ 61 from by omega)
            have hF : sgK WkX12_pays f f_22 := sgK.put hF ef_22 (by rfl)
            refine lv_goto (tgt := 60) hx hb dX12_pays_130 (by decide) ?_
            exact ih_60 v_13 y5_88 f_22 _ _ _ (by have zz0_21 : (f_22 0 21).toInt = v_20.toInt := (congrArg Int32.toInt (show f_22 0 21 = v_20 from (by rw [ef_22, sg_up_s, sgu_s]))); omega) (by have zz0_20 : (f_22 0 20).toInt = v_10.toInt := (congrArg Int32.toInt (show f_22 0 20 = v_10 from (by rw [ef_22, sg_up_s, sgu_n (by decide)]; exact ev_10.symm))); omega) (by omega) (by omega) (by omega) (by omega) hI hF hP hS (lv_sub hl [2, 3, 4, 1, 0] rfl)
          · skip
            have c_19 : y6_88.toInt < y5_88.toInt := (by have z := bn_nle c; omega)
            exact blk_111 v_13 y6_88 fp_88 _ _ _ (by have zz0_21 : (fp_88 0 21).toInt = v_13.toInt := (congrArg Int32.toInt (show fp_88 0 21 = v_13 from ev_13.symm)); omega) (by have zz0_20 : (fp_88 0 20).toInt = v_10.toInt := (congrArg Int32.toInt (show fp_88 0 20 = v_10 from ev_10.symm)); omega) (by have zz0_21 : (fp_88 0 21).toInt = v_13.toInt := (congrArg Int32.toInt (show fp_88 0 21 = v_13 from ev_13.symm)); omega) (by omega) (by omega) (by omega) (by omega) hI hF hP hS (lv_sub hl [1, 2, 3, 0, 5] rfl)
      intro y4_60 y5_60 fp_60 H locs ls hm_60 hy0_60 hy1_60 hy2_60 hy3_60 hy4_60 hI hF hP hS hl
      obtain ⟨v_23, ev_23⟩ : ∃ z : Int32, z = fp_60 0 20 := ⟨_, rfl⟩
      have q_24 : (-1) ≤ v_23.toInt ∧ v_23.toInt ≤ 7 := by rw [ev_23]; exact hI 0 20
      have q_25 : (fp_60 0 20).toInt = v_23.toInt := by rw [ev_23]
      obtain ⟨v_26, ev_26⟩ : ∃ z : Int32, z = fp_60 0 21 := ⟨_, rfl⟩
      have q_27 : 0 ≤ v_26.toInt ∧ v_26.toInt ≤ 61 := by rw [ev_26]; exact hI 0 21
      have q_28 : (fp_60 0 21).toInt = v_26.toInt := by rw [ev_26]
      refine lv_aload_n hx hb dX12_pays_60 rfl (lv_at hl 0 rfl) ?_
      refine sg_get (ci := 12) (v := .int v_26) (C := RX12) (T := TX12) (N := 55) hx hb hts (fun w h => List.mem_cons_of_mem _ (gx_12 w h)) hown hK hP 0 (by decide) rfl rfl 21 (by decide) (hts _ (List.mem_cons_of_mem _ mw_697)) (fun _ h9 => h9) (congrArg (fun z => some (Value.int z)) (show fp_60 0 21 = v_26 from ev_26.symm)) dX12_pays_61 ?_
      refine lv_bipush (v := 61) hx hb dX12_pays_64 (by decide) ?_
      refine lv_icmp_ge (tgt := 133) hx hb dX12_pays_66 (by decide) (fun c => ?_) (fun c => ?_)
      · skip
        have c_29 : 61 ≤ v_26.toInt := (by have z := bn_le c; have k1 : (61 : Int32).toInt = 61 := (by decide); omega)
        refine lv_aload_n hx hb dX12_pays_133 rfl (lv_at hl 0 rfl) ?_
        refine lv_iconst (v := (-1)) hx hb dX12_pays_134 (by decide) ?_
        refine sg_put (ci := 12) (x := (-1)) (ty := .int) (C := RX12) (T := TX12) (N := 55) hx hb hts (fun w h => List.mem_cons_of_mem _ (gx_12 w h)) tyX12 tyX12_ok nmX12 hown hh hA hK hP hS 0 (by decide) rfl rfl 20 (by decide) (hts _ (List.mem_cons_of_mem _ mw_696)) (fun _ h9 => h9) rfl rfl (by decide +kernel) rfl rfl (Nat.le_of_ble_eq_true rfl) dX12_pays_135 (fun f_31 H locs ef_31 hP hS => ?_)
        have hI : sgI loM hiM f_31 := by rw [ef_31]; exact sgI.put hI 0 20 (show (-1) ≤ ((-1) : Int32).toInt ∧ ((-1) : Int32).toInt ≤ 7 from by decide)
        have hF : sgK WkX12_pays f f_31 := sgK.put hF ef_31 (by rfl)
        refine lv_iload_n hx hb dX12_pays_138 rfl (lv_at hl 2 rfl) ?_
        refine lv_if_ne (tgt := 147) hx hb dX12_pays_139 (by decide) (fun c => ?_) (fun c => ?_)
        · skip
          have c_32 : x2.toInt ≠ 0 := (by have z := bn_ne c; have k1 : (0 : Int32).toInt = 0 := (by decide); omega)
          refine lv_iload hx hb dX12_pays_147 (lv_at hl 4 rfl) ?_
          exact hret _ _ _ _ (y5_60) f_31 L Q dX12_pays_149 hP hS ⟨⟨hI, hF, rfl, rfl⟩, trivial⟩
        · skip
          have c_33 : x2.toInt = 0 := (by have z := Int32.toInt_inj.mpr c; have k1 : (0 : Int32).toInt = 0 := (by decide); omega)
          refine lv_iload hx hb dX12_pays_142 (lv_at hl 3 rfl) ?_
          refine lv_goto (tgt := 149) hx hb dX12_pays_144 (by decide) ?_
          exact hret _ _ _ _ (y4_60) f_31 L Q dX12_pays_149 hP hS ⟨⟨hI, hF, rfl, rfl⟩, trivial⟩
      · skip
        have c_30 : v_26.toInt < 61 := (by have z := bn_nle c; have k1 : (61 : Int32).toInt = 61 := (by decide); omega)
        refine lv_aload_n hx hb dX12_pays_69 rfl (lv_at hl 0 rfl) ?_
        refine lv_iload_n hx hb dX12_pays_70 rfl (lv_at hl 1 rfl) ?_
        refine sg_calli (va_runV (As := [.int x0]) (rest := []) ⟨hx, hb, hml, hown, hts⟩ (kX12_weekOf l D ca za h hh fp_60 L Q hI x0 (by omega) H.size) (cwV 1 hts (gw_V (fun _ h => List.mem_cons_of_mem _ h) mw_752 mw_753 mw_754 mw_619 mw_751) rfl rfl rfl (by decide +kernel) ⟨Nat.le_of_ble_eq_true rfl, Nat.le_of_ble_eq_true rfl⟩) (sg_preV (ci := 12) (C := RX12) (T := TX12) (N := 55) hA hK hP hS hZ 0 (by decide) rfl rfl) rfl rfl hl.1 rfl (lv_room (Nat.le_of_ble_eq_true rfl)) dX12_pays_71 ⟨Nat.le_refl _, Nat.le_refl _⟩) hA hS (fun r_37 f_34 L_35 Q_36 H locs hq hP hS => ?_)
        obtain ⟨⟨hI, hk_f_34, eL9, eQ9⟩, hq⟩ := hq
        rw [eL9, eQ9] at hP; clear eL9 eQ9
        have hF : sgK WkX12_pays f f_34 := sgK.tr hF hk_f_34 (by decide)
        refine lv_istore (lv' := [(6, .int r_37), (0, .ref (h 0)), (1, .int x0), (3, .int x2), (4, .int y4_60), (5, .int y5_60)]) hx hb dX12_pays_74 hl (by decide) rfl (fun ls hl => ?_)
        refine lv_iload hx hb dX12_pays_76 (lv_at hl 5 rfl) ?_
        refine lv_if_lt (tgt := 88) hx hb dX12_pays_78 (by decide) (fun c => ?_) (fun c => ?_)
        · skip
          have c_38 : y5_60.toInt < 0 := (by have z := bn_lt c; have k1 : (0 : Int32).toInt = 0 := (by decide); omega)
          exact blk_88 y5_60 r_37 f_34 _ _ _ (by have zz0_21 : (f_34 0 21).toInt = v_26.toInt := (congrArg Int32.toInt (show f_34 0 21 = v_26 from ((hk_f_34 0 21 (by decide)).trans ev_26.symm))); omega) (by have zz0_20 : (f_34 0 20).toInt = v_23.toInt := (congrArg Int32.toInt (show f_34 0 20 = v_23 from ((hk_f_34 0 20 (by decide)).trans ev_23.symm))); omega) (by have zz0_21 : (f_34 0 21).toInt = v_26.toInt := (congrArg Int32.toInt (show f_34 0 21 = v_26 from ((hk_f_34 0 21 (by decide)).trans ev_26.symm))); omega) (by omega) (by omega) (by omega) hI hF hP hS (lv_sub hl [1, 2, 3, 5, 0] rfl)
        · skip
          have c_39 : 0 ≤ y5_60.toInt := (by have z := bn_nlt c; have k1 : (0 : Int32).toInt = 0 := (by decide); omega)
          refine lv_iload hx hb dX12_pays_81 (lv_at hl 0 rfl) ?_
          refine lv_iload hx hb dX12_pays_83 (lv_at hl 5 rfl) ?_
          refine lv_icmp_ge (tgt := 95) hx hb dX12_pays_85 (by decide) (fun c => ?_) (fun c => ?_)
          · skip
            have c_40 : y5_60.toInt ≤ r_37.toInt := (by have z := bn_le c; omega)
            refine lv_iload hx hb dX12_pays_95 (lv_at hl 4 rfl) ?_
            refine lv_istore (lv' := [(4, .int y4_60), (6, .int r_37), (0, .ref (h 0)), (1, .int x0), (3, .int x2), (5, .int y5_60)]) hx hb dX12_pays_97 hl (by decide) rfl (fun ls hl => ?_)
            refine lv_iload hx hb dX12_pays_99 (lv_at hl 5 rfl) ?_
            refine lv_if_lt (tgt := 111) hx hb dX12_pays_101 (by decide) (fun c => ?_) (fun c => ?_)
            · skip
              exfalso; have c_42 : y5_60.toInt < 0 := (by have z := bn_lt c; have k1 : (0 : Int32).toInt = 0 := (by decide); omega); omega
            · skip
              have c_43 : 0 ≤ y5_60.toInt := (by have z := bn_nlt c; have k1 : (0 : Int32).toInt = 0 := (by decide); omega)
              refine lv_iload hx hb dX12_pays_104 (lv_at hl 1 rfl) ?_
              refine lv_iload hx hb dX12_pays_106 (lv_at hl 5 rfl) ?_
              refine lv_icmp_ge (tgt := 116) hx hb dX12_pays_108 (by decide) (fun c => ?_) (fun c => ?_)
              · skip
                have c_44 : y5_60.toInt ≤ r_37.toInt := (by have z := bn_le c; omega)
                refine lv_iload hx hb dX12_pays_116 (lv_at hl 5 rfl) ?_
                refine lv_istore (lv' := [(5, .int y5_60), (4, .int y4_60), (6, .int r_37), (0, .ref (h 0)), (1, .int x0), (3, .int x2)]) hx hb dX12_pays_118 hl (by decide) rfl (fun ls hl => ?_)
                refine lv_aload_n hx hb dX12_pays_120 rfl (lv_at hl 3 rfl) ?_
                refine lv_dup hx hb dX12_pays_121 rfl ?_
                refine sg_get (ci := 12) (v := .int v_26) (C := RX12) (T := TX12) (N := 55) hx hb hts (fun w h => List.mem_cons_of_mem _ (gx_12 w h)) hown hK hP 0 (by decide) rfl rfl 21 (by decide) (hts _ (List.mem_cons_of_mem _ mw_697)) (fun _ h9 => h9) (congrArg (fun z => some (Value.int z)) (show f_34 0 21 = v_26 from ((hk_f_34 0 21 (by decide)).trans ev_26.symm))) dX12_pays_122 ?_
                refine lv_iconst (v := 1) hx hb dX12_pays_125 (by decide) ?_
                refine lv_iadd hx hb dX12_pays_126 ?_
                refine lv_topi (fun v_46 ev_46 => ?_)
                have q_47 : v_46.toInt = v_26.toInt + 1 := by rw [ev_46]; have k1 : (1 : Int32).toInt = 1 := (by decide); exact (bn_addI (by omega) (by omega)).trans (by omega)
                refine sg_put (ci := 12) (x := v_46) (ty := .int) (C := RX12) (T := TX12) (N := 55) hx hb hts (fun w h => List.mem_cons_of_mem _ (gx_12 w h)) tyX12 tyX12_ok nmX12 hown hh hA hK hP hS 0 (by decide) rfl rfl 21 (by decide) (hts _ (List.mem_cons_of_mem _ mw_697)) (fun _ h9 => h9) rfl rfl (by decide +kernel) rfl rfl (Nat.le_of_ble_eq_true rfl) dX12_pays_127 (fun f_48 H locs ef_48 hP hS => ?_)
                have hI : sgI loM hiM f_48 := by rw [ef_48]; exact sgI.put hI 0 21 (show 0 ≤ (v_46 : Int32).toInt ∧ (v_46 : Int32).toInt ≤ 61 from by omega)
                have hF : sgK WkX12_pays f f_48 := sgK.put hF ef_48 (by rfl)
                refine lv_goto (tgt := 60) hx hb dX12_pays_130 (by decide) ?_
                exact ih_60 y4_60 y5_60 f_48 _ _ _ (by have zz0_21 : (f_48 0 21).toInt = v_46.toInt := (congrArg Int32.toInt (show f_48 0 21 = v_46 from (by rw [ef_48, sg_up_s, sgu_s]))); omega) (by have zz0_20 : (f_48 0 20).toInt = v_23.toInt := (congrArg Int32.toInt (show f_48 0 20 = v_23 from (by rw [ef_48, sg_up_s, sgu_n (by decide)]; exact ((hk_f_34 0 20 (by decide)).trans ev_23.symm)))); omega) (by omega) (by omega) (by omega) (by omega) hI hF hP hS (lv_sub hl [3, 4, 5, 1, 0] rfl)
              · skip
                have c_45 : r_37.toInt < y5_60.toInt := (by have z := bn_nle c; omega)
                exact blk_111 y4_60 r_37 f_34 _ _ _ (by have zz0_21 : (f_34 0 21).toInt = v_26.toInt := (congrArg Int32.toInt (show f_34 0 21 = v_26 from ((hk_f_34 0 21 (by decide)).trans ev_26.symm))); omega) (by have zz0_20 : (f_34 0 20).toInt = v_23.toInt := (congrArg Int32.toInt (show f_34 0 20 = v_23 from ((hk_f_34 0 20 (by decide)).trans ev_23.symm))); omega) (by have zz0_21 : (f_34 0 21).toInt = v_26.toInt := (congrArg Int32.toInt (show f_34 0 21 = v_26 from ((hk_f_34 0 21 (by decide)).trans ev_26.symm))); omega) (by omega) (by omega) (by omega) (by omega) hI hF hP hS (lv_sub hl [2, 3, 4, 0, 1] rfl)
          · skip
            have c_41 : r_37.toInt < y5_60.toInt := (by have z := bn_nle c; omega)
            exact blk_88 y5_60 r_37 f_34 _ _ _ (by have zz0_21 : (f_34 0 21).toInt = v_26.toInt := (congrArg Int32.toInt (show f_34 0 21 = v_26 from ((hk_f_34 0 21 (by decide)).trans ev_26.symm))); omega) (by have zz0_20 : (f_34 0 20).toInt = v_23.toInt := (congrArg Int32.toInt (show f_34 0 20 = v_23 from ((hk_f_34 0 20 (by decide)).trans ev_23.symm))); omega) (by have zz0_21 : (f_34 0 21).toInt = v_26.toInt := (congrArg Int32.toInt (show f_34 0 21 = v_26 from ((hk_f_34 0 21 (by decide)).trans ev_26.symm))); omega) (by omega) (by omega) (by omega) hI hF hP hS (lv_sub hl [1, 2, 3, 5, 0] rfl)
  refine lv_aload_n hx hb dX12_pays_0 rfl (lv_at hl 0 rfl) ?_
  refine lv_iload_n hx hb dX12_pays_1 rfl (lv_at hl 1 rfl) ?_
  refine sg_calli (va_runV (As := [.int x0]) (rest := []) ⟨hx, hb, hml, hown, hts⟩ (kX12_bytesIs l D ca za h hh f L Q hI x0 H.size) (cwV 1 hts (gw_V (fun _ h => List.mem_cons_of_mem _ h) mw_685 mw_686 mw_687 mw_619 mw_684) rfl rfl rfl (by decide +kernel) ⟨Nat.le_of_ble_eq_true rfl, Nat.le_of_ble_eq_true rfl⟩) (sg_preV (ci := 12) (C := RX12) (T := TX12) (N := 55) hA hK hP hS hZ 0 (by decide) rfl rfl) rfl rfl hl.1 rfl (lv_room (Nat.le_of_ble_eq_true rfl)) dX12_pays_2 ⟨Nat.le_refl _, Nat.le_refl _⟩) hA hS (fun r_52 f_49 L_50 Q_51 H locs hq hP hS => ?_)
  obtain ⟨⟨ef9, eL9, eQ9⟩, hq⟩ := hq
  rw [ef9, eL9, eQ9] at hP; clear ef9 eL9 eQ9
  rcases hq with ⟨rfl, hq⟩ | hq | ⟨rfl, hq⟩
  · skip
    have q_53 := hq
    refine lv_iconst (v := (-1)) hx hb dX12_pays_5 (by decide) ?_
    refine lv_icmp_eq (tgt := 28) hx hb dX12_pays_6 (by decide) (fun c => absurd c (by decide)) (fun c => ?_)
    refine lv_aload_n hx hb dX12_pays_9 rfl (lv_at hl 0 rfl) ?_
    refine lv_iload_n hx hb dX12_pays_10 rfl (lv_at hl 2 rfl) ?_
    obtain ⟨w_54, ew_54⟩ : ∃ z : Int64, z = Int32.toInt64 x1 := ⟨_, rfl⟩
    have q_55 : w_54.toInt = x1.toInt := by rw [ew_54]; exact Int32.toInt_toInt64 _
    refine lv_i2l (v := w_54) hx hb dX12_pays_11 ew_54.symm ?_
    obtain ⟨v_56, ev_56⟩ : ∃ z : Int32, z = f 0 6 := ⟨_, rfl⟩
    have q_57 : 0 ≤ v_56.toInt ∧ v_56.toInt ≤ 8 := by rw [ev_56]; exact hI 0 6
    have q_58 : (f 0 6).toInt = v_56.toInt := (congrArg Int32.toInt (show f 0 6 = v_56 from ev_56.symm))
    have q_59 : (f 0 6).toInt = v_56.toInt := (congrArg Int32.toInt (show f 0 6 = v_56 from ev_56.symm))
    refine sg_calli (va_runV (As := [.long w_54]) (rest := []) ⟨hx, hb, hml, hown, hts⟩ (kX12_isSitter l D ca za h hh f L Q hI w_54 H.size) (cwV 1 hts (gw_V (fun _ h => List.mem_cons_of_mem _ h) mw_663 mw_664 mw_665 mw_619 mw_662) rfl rfl rfl (by decide +kernel) ⟨Nat.le_of_ble_eq_true rfl, Nat.le_of_ble_eq_true rfl⟩) (sg_preV (ci := 12) (C := RX12) (T := TX12) (N := 55) hA hK hP hS hZ 0 (by decide) rfl rfl) rfl rfl hl.1 rfl (lv_room (Nat.le_of_ble_eq_true rfl)) dX12_pays_12 ⟨Nat.le_refl _, Nat.le_refl _⟩) hA hS (fun r_63 f_60 L_61 Q_62 H locs hq hP hS => ?_)
    obtain ⟨⟨ef9, eL9, eQ9⟩, hq⟩ := hq
    rw [ef9, eL9, eQ9] at hP; clear ef9 eL9 eQ9
    rcases hq with ⟨rfl, hq⟩ | ⟨rfl, hq⟩
    · skip
      have q_64 := hq
      refine lv_if_eq (tgt := 28) hx hb dX12_pays_15 (by decide) (fun c => absurd c (by decide)) (fun c => ?_)
      refine lv_iload_n hx hb dX12_pays_18 rfl (lv_at hl 3 rfl) ?_
      obtain ⟨w_65, ew_65⟩ : ∃ z : Int64, z = Int32.toInt64 x2 := ⟨_, rfl⟩
      have q_66 : w_65.toInt = x2.toInt := by rw [ew_65]; exact Int32.toInt_toInt64 _
      refine lv_i2l (v := w_65) hx hb dX12_pays_19 ew_65.symm ?_
      refine lv_lconst (v := 0) hx hb dX12_pays_20 (by decide) ?_
      refine lv_lconst (v := 1) hx hb dX12_pays_21 (by decide) ?_
      refine sg_calli (va_runS (As := [.long w_65, .long 0, .long 1]) (rest := []) ⟨hx, hb, hml, hown, hts⟩ (kX12_within l D ca za h hh f L Q hI w_65 0 1 H.size) (va_cwS 3 hts (gw_S (fun _ h => List.mem_cons_of_mem _ h) mw_631 mw_632 mw_619 mw_630) rfl rfl rfl (by decide +kernel) ⟨Nat.le_of_ble_eq_true rfl, Nat.le_of_ble_eq_true rfl⟩) (sg_preS hA hK hP hS hZ) rfl rfl hl.1 rfl (lv_room (Nat.le_of_ble_eq_true rfl)) dX12_pays_22 ⟨Nat.le_refl _, Nat.le_refl _⟩) hA hS (fun r_70 f_67 L_68 Q_69 H locs hq hP hS => ?_)
      obtain ⟨⟨ef9, eL9, eQ9⟩, hq⟩ := hq
      rw [ef9, eL9, eQ9] at hP; clear ef9 eL9 eQ9
      have k_71 : (0 : Int64).toInt = 0 := by decide
      have k_72 : (1 : Int64).toInt = 1 := by decide
      rcases hq with ⟨rfl, hq⟩ | ⟨rfl, hq⟩
      · skip
        have q_73 := hq
        refine lv_if_ne (tgt := 30) hx hb dX12_pays_25 (by decide) (fun c => ?_) (fun c => absurd c (by decide))
        refine lv_aload_n hx hb dX12_pays_30 rfl (lv_at hl 0 rfl) ?_
        refine lv_iload_n hx hb dX12_pays_31 rfl (lv_at hl 1 rfl) ?_
        refine sg_calli (va_runV (As := [.int x0]) (rest := []) ⟨hx, hb, hml, hown, hts⟩ (kX12_bytesIs l D ca za h hh f L Q hI x0 H.size) (cwV 1 hts (gw_V (fun _ h => List.mem_cons_of_mem _ h) mw_685 mw_686 mw_687 mw_619 mw_684) rfl rfl rfl (by decide +kernel) ⟨Nat.le_of_ble_eq_true rfl, Nat.le_of_ble_eq_true rfl⟩) (sg_preV (ci := 12) (C := RX12) (T := TX12) (N := 55) hA hK hP hS hZ 0 (by decide) rfl rfl) rfl rfl hl.1 rfl (lv_room (Nat.le_of_ble_eq_true rfl)) dX12_pays_32 ⟨Nat.le_refl _, Nat.le_refl _⟩) hA hS (fun r_77 f_74 L_75 Q_76 H locs hq hP hS => ?_)
        obtain ⟨⟨ef9, eL9, eQ9⟩, hq⟩ := hq
        rw [ef9, eL9, eQ9] at hP; clear ef9 eL9 eQ9
        rcases hq with ⟨rfl, hq⟩ | hq | ⟨rfl, hq⟩
        · skip
          have q_78 := hq
          refine lv_if_ge (tgt := 44) hx hb dX12_pays_35 (by decide) (fun c => ?_) (fun c => absurd c (by decide))
          refine lv_iconst (v := 0) hx hb dX12_pays_44 (by decide) ?_
          refine lv_istore (lv' := [(4, .int 0), (0, .ref (h 0)), (1, .int x0), (2, .int x1), (3, .int x2)]) hx hb dX12_pays_45 hl (by decide) rfl (fun ls hl => ?_)
          refine lv_iconst (v := (-1)) hx hb dX12_pays_47 (by decide) ?_
          refine lv_istore (lv' := [(5, .int (-1)), (4, .int 0), (0, .ref (h 0)), (1, .int x0), (2, .int x1), (3, .int x2)]) hx hb dX12_pays_48 hl (by decide) rfl (fun ls hl => ?_)
          refine lv_aload_n hx hb dX12_pays_50 rfl (lv_at hl 2 rfl) ?_
          refine lv_iload_n hx hb dX12_pays_51 rfl (lv_at hl 4 rfl) ?_
          refine sg_put (ci := 12) (x := x1) (ty := .int) (C := RX12) (T := TX12) (N := 55) hx hb hts (fun w h => List.mem_cons_of_mem _ (gx_12 w h)) tyX12 tyX12_ok nmX12 hown hh hA hK hP hS 0 (by decide) rfl rfl 20 (by decide) (hts _ (List.mem_cons_of_mem _ mw_696)) (fun _ h9 => h9) rfl rfl (by decide +kernel) rfl rfl (Nat.le_of_ble_eq_true rfl) dX12_pays_52 (fun f_79 H locs ef_79 hP hS => ?_)
          have hI : sgI loM hiM f_79 := by rw [ef_79]; exact sgI.put hI 0 20 (show (-1) ≤ (x1 : Int32).toInt ∧ (x1 : Int32).toInt ≤ 7 from by omega)
          have hF : sgK WkX12_pays f f_79 := sgK.put hF ef_79 (by rfl)
          refine lv_aload_n hx hb dX12_pays_55 rfl (lv_at hl 2 rfl) ?_
          refine lv_iconst (v := 0) hx hb dX12_pays_56 (by decide) ?_
          refine sg_put (ci := 12) (x := 0) (ty := .int) (C := RX12) (T := TX12) (N := 55) hx hb hts (fun w h => List.mem_cons_of_mem _ (gx_12 w h)) tyX12 tyX12_ok nmX12 hown hh hA hK hP hS 0 (by decide) rfl rfl 21 (by decide) (hts _ (List.mem_cons_of_mem _ mw_697)) (fun _ h9 => h9) rfl rfl (by decide +kernel) rfl rfl (Nat.le_of_ble_eq_true rfl) dX12_pays_57 (fun f_80 H locs ef_80 hP hS => ?_)
          have hI : sgI loM hiM f_80 := by rw [ef_80]; exact sgI.put hI 0 21 (show 0 ≤ (0 : Int32).toInt ∧ (0 : Int32).toInt ≤ 61 from by decide)
          have hF : sgK WkX12_pays f f_80 := sgK.put hF ef_80 (by rfl)
          exact loop_60 70 0 (-1) f_80 _ _ _ (by have kc0 : (0 : Int32).toInt = 0 := (by decide); have kc1 : ((-1) : Int32).toInt = (-1) := (by decide); have zz0_21 : (f_80 0 21).toInt = 0 := (congrArg Int32.toInt (show f_80 0 21 = 0 from (by rw [ef_80, sg_up_s, sgu_s]))).trans (by decide); omega) (by have zz0_20 : (f_80 0 20).toInt = x1.toInt := (congrArg Int32.toInt (show f_80 0 20 = x1 from (by rw [ef_80, sg_up_s, sgu_n (by decide)]; exact (by rw [ef_79, sg_up_s, sgu_s])))); omega) (by omega) (by omega) (by omega) (by decide) hI hF hP hS (lv_sub hl [2, 3, 5, 1, 0] rfl)
        · skip
          have q_81 := hq
          refine lv_if_ge (tgt := 44) hx hb dX12_pays_35 (by decide) (fun c => ?_) (fun c => ?_)
          · skip
            exfalso; have c_82 : 0 ≤ r_77.toInt := (by have z := bn_le c; have k1 : (0 : Int32).toInt = 0 := (by decide); omega); omega
          · skip
            have c_83 : r_77.toInt < 0 := (by have z := bn_nle c; have k1 : (0 : Int32).toInt = 0 := (by decide); omega)
            refine lv_aload_n hx hb dX12_pays_38 rfl (lv_at hl 0 rfl) ?_
            refine lv_iload_n hx hb dX12_pays_39 rfl (lv_at hl 1 rfl) ?_
            refine sg_calli (va_runV (As := [.int x0]) (rest := []) ⟨hx, hb, hml, hown, hts⟩ (kX12_bytesIs l D ca za h hh f L Q hI x0 H.size) (cwV 1 hts (gw_V (fun _ h => List.mem_cons_of_mem _ h) mw_685 mw_686 mw_687 mw_619 mw_684) rfl rfl rfl (by decide +kernel) ⟨Nat.le_of_ble_eq_true rfl, Nat.le_of_ble_eq_true rfl⟩) (sg_preV (ci := 12) (C := RX12) (T := TX12) (N := 55) hA hK hP hS hZ 0 (by decide) rfl rfl) rfl rfl hl.1 rfl (lv_room (Nat.le_of_ble_eq_true rfl)) dX12_pays_40 ⟨Nat.le_refl _, Nat.le_refl _⟩) hA hS (fun r_87 f_84 L_85 Q_86 H locs hq hP hS => ?_)
            obtain ⟨⟨ef9, eL9, eQ9⟩, hq⟩ := hq
            rw [ef9, eL9, eQ9] at hP; clear ef9 eL9 eQ9
            rcases hq with ⟨rfl, hq⟩ | hq | ⟨rfl, hq⟩
            · skip
              have q_88 := hq
              have k99 : (1 : Int32).toInt = 1 := (by decide)
              exact hret _ _ _ _ (1) f L Q dX12_pays_43 hP hS ⟨⟨hI, hF, rfl, rfl⟩, trivial⟩
            · skip
              have q_89 := hq
              exact hret _ _ _ _ (r_87) f L Q dX12_pays_43 hP hS ⟨⟨hI, hF, rfl, rfl⟩, trivial⟩
            · skip
              have q_90 := hq
              have k99 : ((-1) : Int32).toInt = (-1) := (by decide)
              exact hret _ _ _ _ (-1) f L Q dX12_pays_43 hP hS ⟨⟨hI, hF, rfl, rfl⟩, trivial⟩
        · skip
          have q_91 := hq
          refine lv_if_ge (tgt := 44) hx hb dX12_pays_35 (by decide) (fun c => absurd c (by decide)) (fun c => ?_)
          refine lv_aload_n hx hb dX12_pays_38 rfl (lv_at hl 0 rfl) ?_
          refine lv_iload_n hx hb dX12_pays_39 rfl (lv_at hl 1 rfl) ?_
          refine sg_calli (va_runV (As := [.int x0]) (rest := []) ⟨hx, hb, hml, hown, hts⟩ (kX12_bytesIs l D ca za h hh f L Q hI x0 H.size) (cwV 1 hts (gw_V (fun _ h => List.mem_cons_of_mem _ h) mw_685 mw_686 mw_687 mw_619 mw_684) rfl rfl rfl (by decide +kernel) ⟨Nat.le_of_ble_eq_true rfl, Nat.le_of_ble_eq_true rfl⟩) (sg_preV (ci := 12) (C := RX12) (T := TX12) (N := 55) hA hK hP hS hZ 0 (by decide) rfl rfl) rfl rfl hl.1 rfl (lv_room (Nat.le_of_ble_eq_true rfl)) dX12_pays_40 ⟨Nat.le_refl _, Nat.le_refl _⟩) hA hS (fun r_95 f_92 L_93 Q_94 H locs hq hP hS => ?_)
          obtain ⟨⟨ef9, eL9, eQ9⟩, hq⟩ := hq
          rw [ef9, eL9, eQ9] at hP; clear ef9 eL9 eQ9
          rcases hq with ⟨rfl, hq⟩ | hq | ⟨rfl, hq⟩
          · skip
            have q_96 := hq
            have k99 : (1 : Int32).toInt = 1 := (by decide)
            exact hret _ _ _ _ (1) f L Q dX12_pays_43 hP hS ⟨⟨hI, hF, rfl, rfl⟩, trivial⟩
          · skip
            have q_97 := hq
            exact hret _ _ _ _ (r_95) f L Q dX12_pays_43 hP hS ⟨⟨hI, hF, rfl, rfl⟩, trivial⟩
          · skip
            have q_98 := hq
            have k99 : ((-1) : Int32).toInt = (-1) := (by decide)
            exact hret _ _ _ _ (-1) f L Q dX12_pays_43 hP hS ⟨⟨hI, hF, rfl, rfl⟩, trivial⟩
      · skip
        have q_99 := hq
        refine lv_if_ne (tgt := 30) hx hb dX12_pays_25 (by decide) (fun c => absurd c (by decide)) (fun c => ?_)
        refine lv_iconst (v := (-1)) hx hb dX12_pays_28 (by decide) ?_
        have k99 : ((-1) : Int32).toInt = (-1) := (by decide)
        exact hret _ _ _ _ (-1) f L Q dX12_pays_29 hP hS ⟨⟨hI, hF, rfl, rfl⟩, trivial⟩
    · skip
      have q_100 := hq
      refine lv_if_eq (tgt := 28) hx hb dX12_pays_15 (by decide) (fun c => ?_) (fun c => absurd c (by decide))
      refine lv_iconst (v := (-1)) hx hb dX12_pays_28 (by decide) ?_
      have k99 : ((-1) : Int32).toInt = (-1) := (by decide)
      exact hret _ _ _ _ (-1) f L Q dX12_pays_29 hP hS ⟨⟨hI, hF, rfl, rfl⟩, trivial⟩
  · skip
    have q_101 := hq
    refine lv_iconst (v := (-1)) hx hb dX12_pays_5 (by decide) ?_
    refine lv_icmp_eq (tgt := 28) hx hb dX12_pays_6 (by decide) (fun c => ?_) (fun c => ?_)
    · skip
      exfalso; have c_102 : r_52.toInt = (-1) := (by have z := Int32.toInt_inj.mpr c; have k1 : ((-1) : Int32).toInt = (-1) := (by decide); omega); omega
    · skip
      have c_103 : r_52.toInt ≠ (-1) := (by have z := bn_ne c; have k1 : ((-1) : Int32).toInt = (-1) := (by decide); omega)
      refine lv_aload_n hx hb dX12_pays_9 rfl (lv_at hl 0 rfl) ?_
      refine lv_iload_n hx hb dX12_pays_10 rfl (lv_at hl 2 rfl) ?_
      obtain ⟨w_104, ew_104⟩ : ∃ z : Int64, z = Int32.toInt64 x1 := ⟨_, rfl⟩
      have q_105 : w_104.toInt = x1.toInt := by rw [ew_104]; exact Int32.toInt_toInt64 _
      refine lv_i2l (v := w_104) hx hb dX12_pays_11 ew_104.symm ?_
      obtain ⟨v_106, ev_106⟩ : ∃ z : Int32, z = f 0 6 := ⟨_, rfl⟩
      have q_107 : 0 ≤ v_106.toInt ∧ v_106.toInt ≤ 8 := by rw [ev_106]; exact hI 0 6
      have q_108 : (f 0 6).toInt = v_106.toInt := (congrArg Int32.toInt (show f 0 6 = v_106 from ev_106.symm))
      have q_109 : (f 0 6).toInt = v_106.toInt := (congrArg Int32.toInt (show f 0 6 = v_106 from ev_106.symm))
      refine sg_calli (va_runV (As := [.long w_104]) (rest := []) ⟨hx, hb, hml, hown, hts⟩ (kX12_isSitter l D ca za h hh f L Q hI w_104 H.size) (cwV 1 hts (gw_V (fun _ h => List.mem_cons_of_mem _ h) mw_663 mw_664 mw_665 mw_619 mw_662) rfl rfl rfl (by decide +kernel) ⟨Nat.le_of_ble_eq_true rfl, Nat.le_of_ble_eq_true rfl⟩) (sg_preV (ci := 12) (C := RX12) (T := TX12) (N := 55) hA hK hP hS hZ 0 (by decide) rfl rfl) rfl rfl hl.1 rfl (lv_room (Nat.le_of_ble_eq_true rfl)) dX12_pays_12 ⟨Nat.le_refl _, Nat.le_refl _⟩) hA hS (fun r_113 f_110 L_111 Q_112 H locs hq hP hS => ?_)
      obtain ⟨⟨ef9, eL9, eQ9⟩, hq⟩ := hq
      rw [ef9, eL9, eQ9] at hP; clear ef9 eL9 eQ9
      rcases hq with ⟨rfl, hq⟩ | ⟨rfl, hq⟩
      · skip
        have q_114 := hq
        refine lv_if_eq (tgt := 28) hx hb dX12_pays_15 (by decide) (fun c => absurd c (by decide)) (fun c => ?_)
        refine lv_iload_n hx hb dX12_pays_18 rfl (lv_at hl 3 rfl) ?_
        obtain ⟨w_115, ew_115⟩ : ∃ z : Int64, z = Int32.toInt64 x2 := ⟨_, rfl⟩
        have q_116 : w_115.toInt = x2.toInt := by rw [ew_115]; exact Int32.toInt_toInt64 _
        refine lv_i2l (v := w_115) hx hb dX12_pays_19 ew_115.symm ?_
        refine lv_lconst (v := 0) hx hb dX12_pays_20 (by decide) ?_
        refine lv_lconst (v := 1) hx hb dX12_pays_21 (by decide) ?_
        refine sg_calli (va_runS (As := [.long w_115, .long 0, .long 1]) (rest := []) ⟨hx, hb, hml, hown, hts⟩ (kX12_within l D ca za h hh f L Q hI w_115 0 1 H.size) (va_cwS 3 hts (gw_S (fun _ h => List.mem_cons_of_mem _ h) mw_631 mw_632 mw_619 mw_630) rfl rfl rfl (by decide +kernel) ⟨Nat.le_of_ble_eq_true rfl, Nat.le_of_ble_eq_true rfl⟩) (sg_preS hA hK hP hS hZ) rfl rfl hl.1 rfl (lv_room (Nat.le_of_ble_eq_true rfl)) dX12_pays_22 ⟨Nat.le_refl _, Nat.le_refl _⟩) hA hS (fun r_120 f_117 L_118 Q_119 H locs hq hP hS => ?_)
        obtain ⟨⟨ef9, eL9, eQ9⟩, hq⟩ := hq
        rw [ef9, eL9, eQ9] at hP; clear ef9 eL9 eQ9
        have k_121 : (0 : Int64).toInt = 0 := by decide
        have k_122 : (1 : Int64).toInt = 1 := by decide
        rcases hq with ⟨rfl, hq⟩ | ⟨rfl, hq⟩
        · skip
          have q_123 := hq
          refine lv_if_ne (tgt := 30) hx hb dX12_pays_25 (by decide) (fun c => ?_) (fun c => absurd c (by decide))
          refine lv_aload_n hx hb dX12_pays_30 rfl (lv_at hl 0 rfl) ?_
          refine lv_iload_n hx hb dX12_pays_31 rfl (lv_at hl 1 rfl) ?_
          refine sg_calli (va_runV (As := [.int x0]) (rest := []) ⟨hx, hb, hml, hown, hts⟩ (kX12_bytesIs l D ca za h hh f L Q hI x0 H.size) (cwV 1 hts (gw_V (fun _ h => List.mem_cons_of_mem _ h) mw_685 mw_686 mw_687 mw_619 mw_684) rfl rfl rfl (by decide +kernel) ⟨Nat.le_of_ble_eq_true rfl, Nat.le_of_ble_eq_true rfl⟩) (sg_preV (ci := 12) (C := RX12) (T := TX12) (N := 55) hA hK hP hS hZ 0 (by decide) rfl rfl) rfl rfl hl.1 rfl (lv_room (Nat.le_of_ble_eq_true rfl)) dX12_pays_32 ⟨Nat.le_refl _, Nat.le_refl _⟩) hA hS (fun r_127 f_124 L_125 Q_126 H locs hq hP hS => ?_)
          obtain ⟨⟨ef9, eL9, eQ9⟩, hq⟩ := hq
          rw [ef9, eL9, eQ9] at hP; clear ef9 eL9 eQ9
          rcases hq with ⟨rfl, hq⟩ | hq | ⟨rfl, hq⟩
          · skip
            have q_128 := hq
            refine lv_if_ge (tgt := 44) hx hb dX12_pays_35 (by decide) (fun c => ?_) (fun c => absurd c (by decide))
            refine lv_iconst (v := 0) hx hb dX12_pays_44 (by decide) ?_
            refine lv_istore (lv' := [(4, .int 0), (0, .ref (h 0)), (1, .int x0), (2, .int x1), (3, .int x2)]) hx hb dX12_pays_45 hl (by decide) rfl (fun ls hl => ?_)
            refine lv_iconst (v := (-1)) hx hb dX12_pays_47 (by decide) ?_
            refine lv_istore (lv' := [(5, .int (-1)), (4, .int 0), (0, .ref (h 0)), (1, .int x0), (2, .int x1), (3, .int x2)]) hx hb dX12_pays_48 hl (by decide) rfl (fun ls hl => ?_)
            refine lv_aload_n hx hb dX12_pays_50 rfl (lv_at hl 2 rfl) ?_
            refine lv_iload_n hx hb dX12_pays_51 rfl (lv_at hl 4 rfl) ?_
            refine sg_put (ci := 12) (x := x1) (ty := .int) (C := RX12) (T := TX12) (N := 55) hx hb hts (fun w h => List.mem_cons_of_mem _ (gx_12 w h)) tyX12 tyX12_ok nmX12 hown hh hA hK hP hS 0 (by decide) rfl rfl 20 (by decide) (hts _ (List.mem_cons_of_mem _ mw_696)) (fun _ h9 => h9) rfl rfl (by decide +kernel) rfl rfl (Nat.le_of_ble_eq_true rfl) dX12_pays_52 (fun f_129 H locs ef_129 hP hS => ?_)
            have hI : sgI loM hiM f_129 := by rw [ef_129]; exact sgI.put hI 0 20 (show (-1) ≤ (x1 : Int32).toInt ∧ (x1 : Int32).toInt ≤ 7 from by omega)
            have hF : sgK WkX12_pays f f_129 := sgK.put hF ef_129 (by rfl)
            refine lv_aload_n hx hb dX12_pays_55 rfl (lv_at hl 2 rfl) ?_
            refine lv_iconst (v := 0) hx hb dX12_pays_56 (by decide) ?_
            refine sg_put (ci := 12) (x := 0) (ty := .int) (C := RX12) (T := TX12) (N := 55) hx hb hts (fun w h => List.mem_cons_of_mem _ (gx_12 w h)) tyX12 tyX12_ok nmX12 hown hh hA hK hP hS 0 (by decide) rfl rfl 21 (by decide) (hts _ (List.mem_cons_of_mem _ mw_697)) (fun _ h9 => h9) rfl rfl (by decide +kernel) rfl rfl (Nat.le_of_ble_eq_true rfl) dX12_pays_57 (fun f_130 H locs ef_130 hP hS => ?_)
            have hI : sgI loM hiM f_130 := by rw [ef_130]; exact sgI.put hI 0 21 (show 0 ≤ (0 : Int32).toInt ∧ (0 : Int32).toInt ≤ 61 from by decide)
            have hF : sgK WkX12_pays f f_130 := sgK.put hF ef_130 (by rfl)
            exact loop_60 70 0 (-1) f_130 _ _ _ (by have kc0 : (0 : Int32).toInt = 0 := (by decide); have kc1 : ((-1) : Int32).toInt = (-1) := (by decide); have zz0_21 : (f_130 0 21).toInt = 0 := (congrArg Int32.toInt (show f_130 0 21 = 0 from (by rw [ef_130, sg_up_s, sgu_s]))).trans (by decide); omega) (by have zz0_20 : (f_130 0 20).toInt = x1.toInt := (congrArg Int32.toInt (show f_130 0 20 = x1 from (by rw [ef_130, sg_up_s, sgu_n (by decide)]; exact (by rw [ef_129, sg_up_s, sgu_s])))); omega) (by omega) (by omega) (by omega) (by decide) hI hF hP hS (lv_sub hl [2, 3, 5, 1, 0] rfl)
          · skip
            have q_131 := hq
            refine lv_if_ge (tgt := 44) hx hb dX12_pays_35 (by decide) (fun c => ?_) (fun c => ?_)
            · skip
              exfalso; have c_132 : 0 ≤ r_127.toInt := (by have z := bn_le c; have k1 : (0 : Int32).toInt = 0 := (by decide); omega); omega
            · skip
              have c_133 : r_127.toInt < 0 := (by have z := bn_nle c; have k1 : (0 : Int32).toInt = 0 := (by decide); omega)
              refine lv_aload_n hx hb dX12_pays_38 rfl (lv_at hl 0 rfl) ?_
              refine lv_iload_n hx hb dX12_pays_39 rfl (lv_at hl 1 rfl) ?_
              refine sg_calli (va_runV (As := [.int x0]) (rest := []) ⟨hx, hb, hml, hown, hts⟩ (kX12_bytesIs l D ca za h hh f L Q hI x0 H.size) (cwV 1 hts (gw_V (fun _ h => List.mem_cons_of_mem _ h) mw_685 mw_686 mw_687 mw_619 mw_684) rfl rfl rfl (by decide +kernel) ⟨Nat.le_of_ble_eq_true rfl, Nat.le_of_ble_eq_true rfl⟩) (sg_preV (ci := 12) (C := RX12) (T := TX12) (N := 55) hA hK hP hS hZ 0 (by decide) rfl rfl) rfl rfl hl.1 rfl (lv_room (Nat.le_of_ble_eq_true rfl)) dX12_pays_40 ⟨Nat.le_refl _, Nat.le_refl _⟩) hA hS (fun r_137 f_134 L_135 Q_136 H locs hq hP hS => ?_)
              obtain ⟨⟨ef9, eL9, eQ9⟩, hq⟩ := hq
              rw [ef9, eL9, eQ9] at hP; clear ef9 eL9 eQ9
              rcases hq with ⟨rfl, hq⟩ | hq | ⟨rfl, hq⟩
              · skip
                have q_138 := hq
                have k99 : (1 : Int32).toInt = 1 := (by decide)
                exact hret _ _ _ _ (1) f L Q dX12_pays_43 hP hS ⟨⟨hI, hF, rfl, rfl⟩, trivial⟩
              · skip
                have q_139 := hq
                exact hret _ _ _ _ (r_137) f L Q dX12_pays_43 hP hS ⟨⟨hI, hF, rfl, rfl⟩, trivial⟩
              · skip
                have q_140 := hq
                have k99 : ((-1) : Int32).toInt = (-1) := (by decide)
                exact hret _ _ _ _ (-1) f L Q dX12_pays_43 hP hS ⟨⟨hI, hF, rfl, rfl⟩, trivial⟩
          · skip
            have q_141 := hq
            refine lv_if_ge (tgt := 44) hx hb dX12_pays_35 (by decide) (fun c => absurd c (by decide)) (fun c => ?_)
            refine lv_aload_n hx hb dX12_pays_38 rfl (lv_at hl 0 rfl) ?_
            refine lv_iload_n hx hb dX12_pays_39 rfl (lv_at hl 1 rfl) ?_
            refine sg_calli (va_runV (As := [.int x0]) (rest := []) ⟨hx, hb, hml, hown, hts⟩ (kX12_bytesIs l D ca za h hh f L Q hI x0 H.size) (cwV 1 hts (gw_V (fun _ h => List.mem_cons_of_mem _ h) mw_685 mw_686 mw_687 mw_619 mw_684) rfl rfl rfl (by decide +kernel) ⟨Nat.le_of_ble_eq_true rfl, Nat.le_of_ble_eq_true rfl⟩) (sg_preV (ci := 12) (C := RX12) (T := TX12) (N := 55) hA hK hP hS hZ 0 (by decide) rfl rfl) rfl rfl hl.1 rfl (lv_room (Nat.le_of_ble_eq_true rfl)) dX12_pays_40 ⟨Nat.le_refl _, Nat.le_refl _⟩) hA hS (fun r_145 f_142 L_143 Q_144 H locs hq hP hS => ?_)
            obtain ⟨⟨ef9, eL9, eQ9⟩, hq⟩ := hq
            rw [ef9, eL9, eQ9] at hP; clear ef9 eL9 eQ9
            rcases hq with ⟨rfl, hq⟩ | hq | ⟨rfl, hq⟩
            · skip
              have q_146 := hq
              have k99 : (1 : Int32).toInt = 1 := (by decide)
              exact hret _ _ _ _ (1) f L Q dX12_pays_43 hP hS ⟨⟨hI, hF, rfl, rfl⟩, trivial⟩
            · skip
              have q_147 := hq
              exact hret _ _ _ _ (r_145) f L Q dX12_pays_43 hP hS ⟨⟨hI, hF, rfl, rfl⟩, trivial⟩
            · skip
              have q_148 := hq
              have k99 : ((-1) : Int32).toInt = (-1) := (by decide)
              exact hret _ _ _ _ (-1) f L Q dX12_pays_43 hP hS ⟨⟨hI, hF, rfl, rfl⟩, trivial⟩
        · skip
          have q_149 := hq
          refine lv_if_ne (tgt := 30) hx hb dX12_pays_25 (by decide) (fun c => absurd c (by decide)) (fun c => ?_)
          refine lv_iconst (v := (-1)) hx hb dX12_pays_28 (by decide) ?_
          have k99 : ((-1) : Int32).toInt = (-1) := (by decide)
          exact hret _ _ _ _ (-1) f L Q dX12_pays_29 hP hS ⟨⟨hI, hF, rfl, rfl⟩, trivial⟩
      · skip
        have q_150 := hq
        refine lv_if_eq (tgt := 28) hx hb dX12_pays_15 (by decide) (fun c => ?_) (fun c => absurd c (by decide))
        refine lv_iconst (v := (-1)) hx hb dX12_pays_28 (by decide) ?_
        have k99 : ((-1) : Int32).toInt = (-1) := (by decide)
        exact hret _ _ _ _ (-1) f L Q dX12_pays_29 hP hS ⟨⟨hI, hF, rfl, rfl⟩, trivial⟩
  · skip
    have q_151 := hq
    refine lv_iconst (v := (-1)) hx hb dX12_pays_5 (by decide) ?_
    refine lv_icmp_eq (tgt := 28) hx hb dX12_pays_6 (by decide) (fun c => ?_) (fun c => absurd c (by decide))
    refine lv_iconst (v := (-1)) hx hb dX12_pays_28 (by decide) ?_
    have k99 : ((-1) : Int32).toInt = (-1) := (by decide)
    exact hret _ _ _ _ (-1) f L Q dX12_pays_29 hP hS ⟨⟨hI, hF, rfl, rfl⟩, trivial⟩

set_option maxHeartbeats 4000000 in
set_option maxRecDepth 100000 in
theorem kX12_bitsOf (l : Launch) (D : va_G) (ca : Nat → ClassId) (za h : Nat → Nat) (hh : sgH 26 h) (f : sg_F) (L : sg_L) (Q : sg_Q) (hI : sgI loM hiM f) (x0 : Int32) (b0 : 0 ≤ x0.toInt ∧ x0.toInt ≤ 255) (sz : Nat) : Met l yX12_bitsOf gwX12_bitsOf { frames := 0, cells := 0, slots := 0, locals := 0 } (sgP D vwCl (tyX ca) 26 h (eM ca h) zcM za f L Q sz [.int x0]) (sgQi D vwCl 26 h (eM ca h) sz (fun r f1 L1 Q1 => ((f1 = f ∧ L1 = L ∧ Q1 = Q) ∧ True))) 0 0 (sgA 26 h sz) := by
  refine sg_ofWi (cc := cX12_bitsOf) (maxL := 3) RX12 (by decide) rfl rfl (Nat.le_of_ble_eq_true rfl) ?_
  intro p e s m below meth cd Qz ls hx hb hml hown hts hK hZ hP hS hl hret
  have hA := sgY.self (n := 26) (h := h) (sz := s.heap.size)
  have hl : lv_has ls 3 [(0, .int x0)] := hl
  obtain ⟨H, hH⟩ : ∃ z : Heap, z = s.heap := ⟨_, rfl⟩
  obtain ⟨locs, hlo⟩ : ∃ z : List Loc, z = [] := ⟨_, rfl⟩
  have hP : va_P D vwCl (sgw 26 h (eM ca h) f L Q) H := by rw [hH]; exact hP
  have hS : va_S (sgA 26 h s.heap.size) s.heap H locs := by rw [hH, hlo]; exact hS
  suffices hgo : W p l e ({ frames := 0, cells := 0, slots := 0, locals := 0 }) s m ([.int x0] : List Value).toArray below meth cd H locs 0 0 Qz (F0 m 0 ls []) by rw [hH, hlo] at hgo; exact hgo
  clear hH hlo
  have loop_4 : ∀ (n_4 : Nat) (y1_4 : Int32) (y2_4 : Int32) (H : Heap) (locs : List Loc) (ls : Array Slot), y2_4.toInt < (n_4 : Int) → 0 ≤ y2_4.toInt ∧ y2_4.toInt ≤ 255 → va_P D vwCl (sgw 26 h (eM ca h) f L Q) H → va_S (sgA 26 h s.heap.size) s.heap H locs → lv_has ls 3 [(1, .int y1_4), (2, .int y2_4)] → W p l e ({ frames := 0, cells := 0, slots := 0, locals := 0 }) s m ([.int x0] : List Value).toArray below meth cd H locs 0 0 Qz (F0 m 4 ls []) := by
    intro n_4
    induction n_4 with
    | zero => intro y1_4 y2_4 H locs ls hm_4 hy0_4 hP hS hl; exact absurd hm_4 (by omega)
    | succ n_4 ih_4 =>
      intro y1_4 y2_4 H locs ls hm_4 hy0_4 hP hS hl
      refine lv_iload_n hx hb dX12_bitsOf_4 rfl (lv_at hl 1 rfl) ?_
      refine lv_if_eq (tgt := 20) hx hb dX12_bitsOf_5 (by decide) (fun c => ?_) (fun c => ?_)
      · skip
        have c_1 : y2_4.toInt = 0 := (by have z := Int32.toInt_inj.mpr c; have k1 : (0 : Int32).toInt = 0 := (by decide); omega)
        refine lv_iload_n hx hb dX12_bitsOf_20 rfl (lv_at hl 0 rfl) ?_
        exact hret _ _ _ _ (y1_4) f L Q dX12_bitsOf_21 hP hS ⟨⟨rfl, rfl, rfl⟩, trivial⟩
      · skip
        have c_2 : y2_4.toInt ≠ 0 := (by have z := bn_ne c; have k1 : (0 : Int32).toInt = 0 := (by decide); omega)
        obtain ⟨v_3, ev_3⟩ : ∃ z : Int32, z = y1_4 + 1 := ⟨_, rfl⟩
        refine lv_iinc (v := v_3) (lv' := [(1, .int v_3), (2, .int y2_4)]) hx hb dX12_bitsOf_8 hl (k := 0) rfl (by rw [ev_3]; rfl) (by decide) rfl (fun ls hl => ?_)
        refine lv_iload_n hx hb dX12_bitsOf_11 rfl (lv_at hl 1 rfl) ?_
        refine lv_iload_n hx hb dX12_bitsOf_12 rfl (lv_at hl 1 rfl) ?_
        refine lv_iconst (v := 1) hx hb dX12_bitsOf_13 (by decide) ?_
        refine lv_isub hx hb dX12_bitsOf_14 ?_
        refine lv_topi (fun v_4 ev_4 => ?_)
        have q_5 : v_4.toInt = y2_4.toInt - 1 := by rw [ev_4]; have k1 : (1 : Int32).toInt = 1 := (by decide); exact (bn_subI (by omega) (by omega)).trans (by omega)
        refine lv_iand hx hb dX12_bitsOf_15 ?_
        refine lv_topi (fun v_6 ev_6 => ?_)
        have q_7 : 0 ≤ v_6.toInt ∧ v_6.toInt ≤ 255 ∧ (y2_4.toInt ≠ 0 → v_6.toInt < y2_4.toInt) := by rw [ev_6]; exact bn_andm (by omega) (by omega) (by omega)
        refine lv_istore_n (lv' := [(2, .int v_6), (1, .int v_3)]) hx hb dX12_bitsOf_16 rfl hl (by decide) rfl (fun ls hl => ?_)
        refine lv_goto (tgt := 4) hx hb dX12_bitsOf_17 (by decide) ?_
        exact ih_4 v_3 v_6 _ _ _ (by omega) (by omega) hP hS (lv_sub hl [1, 0] rfl)
  refine lv_iconst (v := 0) hx hb dX12_bitsOf_0 (by decide) ?_
  refine lv_istore_n (lv' := [(1, .int 0), (0, .int x0)]) hx hb dX12_bitsOf_1 rfl hl (by decide) rfl (fun ls hl => ?_)
  refine lv_iload_n hx hb dX12_bitsOf_2 rfl (lv_at hl 1 rfl) ?_
  refine lv_istore_n (lv' := [(2, .int x0), (1, .int 0), (0, .int x0)]) hx hb dX12_bitsOf_3 rfl hl (by decide) rfl (fun ls hl => ?_)
  exact loop_4 300 0 x0 _ _ _ (by have kc0 : (0 : Int32).toInt = 0 := (by decide); omega) (by omega) hP hS (lv_sub hl [1, 0] rfl)

abbrev WkX12_memories : List (Nat × Nat × Option Nat) := [(0, 0, some 12), (0, 0, some 13), (0, 0, some 14), (0, 0, some 15), (0, 0, some 16), (0, 0, some 22), (0, 0, some 29), (0, 0, some 30), (0, 0, some 31), (8, 8, none), (12, 12, none), (13, 13, none)]
set_option maxHeartbeats 4000000 in
set_option maxRecDepth 100000 in
theorem kX12_memories (l : Launch) (D : va_G) (ca : Nat → ClassId) (za h : Nat → Nat) (hh : sgH 26 h) (f : sg_F) (L : sg_L) (Q : sg_Q) (hI : sgI loM hiM f) (x0 : Int32) (x1 : Int32) (x2 : Int32) (sz : Nat) : Met l yX12_memories gwX12_memories { frames := 47, cells := 0, slots := 0, locals := 1079 } (sgP D vwCl (tyX ca) 26 h (eM ca h) zcM za f L Q sz [.ref (h 0), .int x0, .int x1, .int x2]) (sgQi D vwCl 26 h (eM ca h) sz (fun r f1 L1 Q1 => ((sgI loM hiM f1 ∧ sgK WkX12_memories f f1 ∧ L1 = L ∧ Q1 = Q) ∧ True))) 0 0 (sgA 26 h sz) := by
  refine sg_ofWi (cc := cX12_memories) (maxL := 8) RX12 (by decide) rfl rfl (Nat.le_of_ble_eq_true rfl) ?_
  intro p e s m below meth cd Qz ls hx hb hml hown hts hK hZ hP hS hl hret
  have hA := sgY.self (n := 26) (h := h) (sz := s.heap.size)
  have hl : lv_has ls 8 [(0, .ref (h 0)), (1, .int x0), (2, .int x1), (3, .int x2)] := hl
  obtain ⟨H, hH⟩ : ∃ z : Heap, z = s.heap := ⟨_, rfl⟩
  obtain ⟨locs, hlo⟩ : ∃ z : List Loc, z = [] := ⟨_, rfl⟩
  have hP : va_P D vwCl (sgw 26 h (eM ca h) f L Q) H := by rw [hH]; exact hP
  have hS : va_S (sgA 26 h s.heap.size) s.heap H locs := by rw [hH, hlo]; exact hS
  suffices hgo : W p l e ({ frames := 47, cells := 0, slots := 0, locals := 1079 }) s m ([.ref (h 0), .int x0, .int x1, .int x2] : List Value).toArray below meth cd H locs 0 0 Qz (F0 m 0 ls []) by rw [hH, hlo] at hgo; exact hgo
  clear hH hlo
  have hF : sgK WkX12_memories f f := sgK.rf
  have loop_56 : ∀ (n_56 : Nat) (y4_56 : Int32) (y5_56 : Int32) (y6_56 : Int32) (fp_56 : sg_F) (H : Heap) (locs : List Loc) (ls : Array Slot), 4 - y6_56.toInt < (n_56 : Int) → 0 ≤ x0.toInt ∧ x0.toInt ≤ 5 → 0 ≤ x1.toInt ∧ x1.toInt ≤ 3 → 0 ≤ x2.toInt ∧ x2.toInt ≤ 1 → 0 ≤ y4_56.toInt ∧ y4_56.toInt ≤ 255 → 0 ≤ y6_56.toInt ∧ y6_56.toInt ≤ 4 → sgI loM hiM fp_56 → sgK WkX12_memories f fp_56 → va_P D vwCl (sgw 26 h (eM ca h) fp_56 L Q) H → va_S (sgA 26 h s.heap.size) s.heap H locs → lv_has ls 8 [(0, .ref (h 0)), (1, .int x0), (2, .int x1), (3, .int x2), (4, .int y4_56), (5, .int y5_56), (6, .int y6_56)] → W p l e ({ frames := 47, cells := 0, slots := 0, locals := 1079 }) s m ([.ref (h 0), .int x0, .int x1, .int x2] : List Value).toArray below meth cd H locs 0 0 Qz (F0 m 56 ls []) := by
    intro n_56
    induction n_56 with
    | zero => intro y4_56 y5_56 y6_56 fp_56 H locs ls hm_56 hy0_56 hy1_56 hy2_56 hy3_56 hy4_56 hI hF hP hS hl; exact absurd hm_56 (by omega)
    | succ n_56 ih_56 =>
      have loop_67 : ∀ (n_67 : Nat) (y4_67 : Int32) (y5_67 : Int32) (y6_67 : Int32) (fp_67 : sg_F) (H : Heap) (locs : List Loc) (ls : Array Slot), 487 - (fp_67 0 22).toInt < (n_67 : Int) → 4 - y6_67.toInt < ((n_56 + 1 : Nat) : Int) → 0 ≤ (fp_67 0 22).toInt ∧ (fp_67 0 22).toInt ≤ 256 → 0 ≤ x0.toInt ∧ x0.toInt ≤ 5 → 0 ≤ x1.toInt ∧ x1.toInt ≤ 3 → 0 ≤ x2.toInt ∧ x2.toInt ≤ 1 → 0 ≤ y4_67.toInt ∧ y4_67.toInt ≤ 255 → 0 ≤ y6_67.toInt ∧ y6_67.toInt ≤ 3 → sgI loM hiM fp_67 → sgK WkX12_memories f fp_67 → va_P D vwCl (sgw 26 h (eM ca h) fp_67 L Q) H → va_S (sgA 26 h s.heap.size) s.heap H locs → lv_has ls 8 [(0, .ref (h 0)), (1, .int x0), (2, .int x1), (3, .int x2), (4, .int y4_67), (5, .int y5_67), (6, .int y6_67)] → W p l e ({ frames := 47, cells := 0, slots := 0, locals := 1079 }) s m ([.ref (h 0), .int x0, .int x1, .int x2] : List Value).toArray below meth cd H locs 0 0 Qz (F0 m 67 ls []) := by
        intro n_67
        induction n_67 with
        | zero => intro y4_67 y5_67 y6_67 fp_67 H locs ls hm_67 hm_56 hy0_67 hy1_67 hy2_67 hy3_67 hy4_67 hy5_67 hI hF hP hS hl; have zb := (show 0 ≤ (fp_67 0 22).toInt ∧ (fp_67 0 22).toInt ≤ 487 from hI 0 22); exact absurd hm_67 (by omega)
        | succ n_67 ih_67 =>
          have blk_143 : ∀ (y4_143 : Int32) (y5_143 : Int32) (y6_143 : Int32) (fp_143 : sg_F) (H : Heap) (locs : List Loc) (ls : Array Slot), 4 - y6_143.toInt < ((n_56 + 1 : Nat) : Int) → 487 - (fp_143 0 22).toInt < ((n_67 + 1 : Nat) : Int) → 0 ≤ (fp_143 0 22).toInt ∧ (fp_143 0 22).toInt ≤ 255 → 0 ≤ x0.toInt ∧ x0.toInt ≤ 5 → 0 ≤ x1.toInt ∧ x1.toInt ≤ 3 → 0 ≤ x2.toInt ∧ x2.toInt ≤ 1 → 0 ≤ y4_143.toInt ∧ y4_143.toInt ≤ 255 → 0 ≤ y6_143.toInt ∧ y6_143.toInt ≤ 3 → sgI loM hiM fp_143 → sgK WkX12_memories f fp_143 → va_P D vwCl (sgw 26 h (eM ca h) fp_143 L Q) H → va_S (sgA 26 h s.heap.size) s.heap H locs → lv_has ls 8 [(0, .ref (h 0)), (1, .int x0), (2, .int x1), (3, .int x2), (4, .int y4_143), (5, .int y5_143), (6, .int y6_143)] → W p l e ({ frames := 47, cells := 0, slots := 0, locals := 1079 }) s m ([.ref (h 0), .int x0, .int x1, .int x2] : List Value).toArray below meth cd H locs 0 0 Qz (F0 m 143 ls []) := by
            intro y4_143 y5_143 y6_143 fp_143 H locs ls hm_56 hm_67 hy0_143 hy1_143 hy2_143 hy3_143 hy4_143 hy5_143 hI hF hP hS hl
            obtain ⟨v_1, ev_1⟩ : ∃ z : Int32, z = fp_143 0 22 := ⟨_, rfl⟩
            have q_2 : 0 ≤ v_1.toInt ∧ v_1.toInt ≤ 487 := by rw [ev_1]; exact hI 0 22
            have q_3 : (fp_143 0 22).toInt = v_1.toInt := by rw [ev_1]
            refine lv_aload_n hx hb dX12_memories_143 rfl (lv_at hl 0 rfl) ?_
            refine lv_dup hx hb dX12_memories_144 rfl ?_
            refine sg_get (ci := 12) (v := .int v_1) (C := RX12) (T := TX12) (N := 55) hx hb hts (fun w h => List.mem_cons_of_mem _ (gx_12 w h)) hown hK hP 0 (by decide) rfl rfl 22 (by decide) (hts _ (List.mem_cons_of_mem _ mw_695)) (fun _ h9 => h9) (congrArg (fun z => some (Value.int z)) (show fp_143 0 22 = v_1 from ev_1.symm)) dX12_memories_145 ?_
            refine lv_iconst (v := 1) hx hb dX12_memories_148 (by decide) ?_
            refine lv_iadd hx hb dX12_memories_149 ?_
            refine lv_topi (fun v_4 ev_4 => ?_)
            have q_5 : v_4.toInt = v_1.toInt + 1 := by rw [ev_4]; have k1 : (1 : Int32).toInt = 1 := (by decide); exact (bn_addI (by omega) (by omega)).trans (by omega)
            refine sg_put (ci := 12) (x := v_4) (ty := .int) (C := RX12) (T := TX12) (N := 55) hx hb hts (fun w h => List.mem_cons_of_mem _ (gx_12 w h)) tyX12 tyX12_ok nmX12 hown hh hA hK hP hS 0 (by decide) rfl rfl 22 (by decide) (hts _ (List.mem_cons_of_mem _ mw_695)) (fun _ h9 => h9) rfl rfl (by decide +kernel) rfl rfl (Nat.le_of_ble_eq_true rfl) dX12_memories_150 (fun f_6 H locs ef_6 hP hS => ?_)
            have hI : sgI loM hiM f_6 := by rw [ef_6]; exact sgI.put hI 0 22 (show 0 ≤ (v_4 : Int32).toInt ∧ (v_4 : Int32).toInt ≤ 487 from by omega)
            have hF : sgK WkX12_memories f f_6 := sgK.put hF ef_6 (by rfl)
            refine lv_goto (tgt := 67) hx hb dX12_memories_153 (by decide) ?_
            exact ih_67 y4_143 y5_143 y6_143 f_6 _ _ _ (by have zz0_22 : (f_6 0 22).toInt = v_4.toInt := (congrArg Int32.toInt (show f_6 0 22 = v_4 from (by rw [ef_6, sg_up_s, sgu_s]))); omega) (by omega) (by have zz0_22 : (f_6 0 22).toInt = v_4.toInt := (congrArg Int32.toInt (show f_6 0 22 = v_4 from (by rw [ef_6, sg_up_s, sgu_s]))); omega) (by omega) (by omega) (by omega) (by omega) (by omega) hI hF hP hS (lv_sub hl [0, 1, 2, 3, 4, 5, 6] rfl)
          have blk_134 : ∀ (y4_134 : Int32) (y6_134 : Int32) (y7_134 : Int32) (fp_134 : sg_F) (H : Heap) (locs : List Loc) (ls : Array Slot), 4 - y6_134.toInt < ((n_56 + 1 : Nat) : Int) → 487 - (fp_134 0 22).toInt < ((n_67 + 1 : Nat) : Int) → 0 ≤ (fp_134 0 22).toInt ∧ (fp_134 0 22).toInt ≤ 255 → 0 ≤ x0.toInt ∧ x0.toInt ≤ 5 → 0 ≤ x1.toInt ∧ x1.toInt ≤ 3 → 0 ≤ x2.toInt ∧ x2.toInt ≤ 1 → 0 ≤ y4_134.toInt ∧ y4_134.toInt ≤ 255 → 0 ≤ y6_134.toInt ∧ y6_134.toInt ≤ 3 → sgI loM hiM fp_134 → sgK WkX12_memories f fp_134 → va_P D vwCl (sgw 26 h (eM ca h) fp_134 L Q) H → va_S (sgA 26 h s.heap.size) s.heap H locs → lv_has ls 8 [(0, .ref (h 0)), (1, .int x0), (2, .int x1), (3, .int x2), (4, .int y4_134), (6, .int y6_134), (7, .int y7_134)] → W p l e ({ frames := 47, cells := 0, slots := 0, locals := 1079 }) s m ([.ref (h 0), .int x0, .int x1, .int x2] : List Value).toArray below meth cd H locs 0 0 Qz (F0 m 134 ls []) := by
            intro y4_134 y6_134 y7_134 fp_134 H locs ls hm_56 hm_67 hy0_134 hy1_134 hy2_134 hy3_134 hy4_134 hy5_134 hI hF hP hS hl
            obtain ⟨v_7, ev_7⟩ : ∃ z : Int32, z = fp_134 0 22 := ⟨_, rfl⟩
            have q_8 : 0 ≤ v_7.toInt ∧ v_7.toInt ≤ 487 := by rw [ev_7]; exact hI 0 22
            have q_9 : (fp_134 0 22).toInt = v_7.toInt := by rw [ev_7]
            refine lv_iload hx hb dX12_memories_134 (lv_at hl 6 rfl) ?_
            refine lv_goto (tgt := 141) hx hb dX12_memories_136 (by decide) ?_
            refine lv_istore (lv' := [(5, .int y7_134), (0, .ref (h 0)), (1, .int x0), (2, .int x1), (3, .int x2), (4, .int y4_134), (6, .int y6_134), (7, .int y7_134)]) hx hb dX12_memories_141 hl (by decide) rfl (fun ls hl => ?_)
            exact blk_143 y4_134 y7_134 y6_134 fp_134 _ _ _ (by omega) (by have zz0_22 : (fp_134 0 22).toInt = v_7.toInt := (congrArg Int32.toInt (show fp_134 0 22 = v_7 from ev_7.symm)); omega) (by have zz0_22 : (fp_134 0 22).toInt = v_7.toInt := (congrArg Int32.toInt (show fp_134 0 22 = v_7 from ev_7.symm)); omega) (by omega) (by omega) (by omega) (by omega) (by omega) hI hF hP hS (lv_sub hl [1, 2, 3, 4, 5, 0, 6] rfl)
          have blk_111 : ∀ (y5_111 : Int32) (y6_111 : Int32) (y7_111 : Int32) (fp_111 : sg_F) (H : Heap) (locs : List Loc) (ls : Array Slot), 4 - y6_111.toInt < ((n_56 + 1 : Nat) : Int) → 487 - (fp_111 0 22).toInt < ((n_67 + 1 : Nat) : Int) → 0 ≤ (fp_111 0 22).toInt ∧ (fp_111 0 22).toInt ≤ 255 → 0 ≤ x0.toInt ∧ x0.toInt ≤ 5 → 0 ≤ x1.toInt ∧ x1.toInt ≤ 3 → 0 ≤ x2.toInt ∧ x2.toInt ≤ 1 → 0 ≤ y6_111.toInt ∧ y6_111.toInt ≤ 3 → sgI loM hiM fp_111 → sgK WkX12_memories f fp_111 → va_P D vwCl (sgw 26 h (eM ca h) fp_111 L Q) H → va_S (sgA 26 h s.heap.size) s.heap H locs → lv_has ls 8 [(0, .ref (h 0)), (1, .int x0), (2, .int x1), (3, .int x2), (5, .int y5_111), (6, .int y6_111), (7, .int y7_111)] → W p l e ({ frames := 47, cells := 0, slots := 0, locals := 1079 }) s m ([.ref (h 0), .int x0, .int x1, .int x2] : List Value).toArray below meth cd H locs 0 0 Qz (F0 m 111 ls []) := by
            intro y5_111 y6_111 y7_111 fp_111 H locs ls hm_56 hm_67 hy0_111 hy1_111 hy2_111 hy3_111 hy4_111 hI hF hP hS hl
            obtain ⟨v_10, ev_10⟩ : ∃ z : Int32, z = fp_111 0 22 := ⟨_, rfl⟩
            have q_11 : 0 ≤ v_10.toInt ∧ v_10.toInt ≤ 487 := by rw [ev_10]; exact hI 0 22
            have q_12 : (fp_111 0 22).toInt = v_10.toInt := by rw [ev_10]
            refine lv_aload_n hx hb dX12_memories_111 rfl (lv_at hl 0 rfl) ?_
            refine sg_get (ci := 12) (v := .int v_10) (C := RX12) (T := TX12) (N := 55) hx hb hts (fun w h => List.mem_cons_of_mem _ (gx_12 w h)) hown hK hP 0 (by decide) rfl rfl 22 (by decide) (hts _ (List.mem_cons_of_mem _ mw_695)) (fun _ h9 => h9) (congrArg (fun z => some (Value.int z)) (show fp_111 0 22 = v_10 from ev_10.symm)) dX12_memories_112 ?_
            refine lv_goto (tgt := 120) hx hb dX12_memories_115 (by decide) ?_
            refine lv_istore (lv' := [(4, .int v_10), (0, .ref (h 0)), (1, .int x0), (2, .int x1), (3, .int x2), (5, .int y5_111), (6, .int y6_111), (7, .int y7_111)]) hx hb dX12_memories_120 hl (by decide) rfl (fun ls hl => ?_)
            refine lv_iload hx hb dX12_memories_122 (lv_at hl 5 rfl) ?_
            refine lv_if_lt (tgt := 134) hx hb dX12_memories_124 (by decide) (fun c => ?_) (fun c => ?_)
            · skip
              have c_13 : y5_111.toInt < 0 := (by have z := bn_lt c; have k1 : (0 : Int32).toInt = 0 := (by decide); omega)
              exact blk_134 v_10 y6_111 y7_111 fp_111 _ _ _ (by omega) (by have zz0_22 : (fp_111 0 22).toInt = v_10.toInt := (congrArg Int32.toInt (show fp_111 0 22 = v_10 from ev_10.symm)); omega) (by have zz0_22 : (fp_111 0 22).toInt = v_10.toInt := (congrArg Int32.toInt (show fp_111 0 22 = v_10 from ev_10.symm)); omega) (by omega) (by omega) (by omega) (by omega) (by omega) hI hF hP hS (lv_sub hl [1, 2, 3, 4, 0, 6, 7] rfl)
            · skip
              have c_14 : 0 ≤ y5_111.toInt := (by have z := bn_nlt c; have k1 : (0 : Int32).toInt = 0 := (by decide); omega)
              refine lv_iload hx hb dX12_memories_127 (lv_at hl 7 rfl) ?_
              refine lv_iload hx hb dX12_memories_129 (lv_at hl 5 rfl) ?_
              refine lv_icmp_ge (tgt := 139) hx hb dX12_memories_131 (by decide) (fun c => ?_) (fun c => ?_)
              · skip
                have c_15 : y5_111.toInt ≤ y7_111.toInt := (by have z := bn_le c; omega)
                refine lv_iload hx hb dX12_memories_139 (lv_at hl 5 rfl) ?_
                refine lv_istore (lv' := [(5, .int y5_111), (4, .int v_10), (0, .ref (h 0)), (1, .int x0), (2, .int x1), (3, .int x2), (6, .int y6_111), (7, .int y7_111)]) hx hb dX12_memories_141 hl (by decide) rfl (fun ls hl => ?_)
                exact blk_143 v_10 y5_111 y6_111 fp_111 _ _ _ (by omega) (by have zz0_22 : (fp_111 0 22).toInt = v_10.toInt := (congrArg Int32.toInt (show fp_111 0 22 = v_10 from ev_10.symm)); omega) (by have zz0_22 : (fp_111 0 22).toInt = v_10.toInt := (congrArg Int32.toInt (show fp_111 0 22 = v_10 from ev_10.symm)); omega) (by omega) (by omega) (by omega) (by omega) (by omega) hI hF hP hS (lv_sub hl [2, 3, 4, 5, 1, 0, 6] rfl)
              · skip
                have c_16 : y7_111.toInt < y5_111.toInt := (by have z := bn_nle c; omega)
                exact blk_134 v_10 y6_111 y7_111 fp_111 _ _ _ (by omega) (by have zz0_22 : (fp_111 0 22).toInt = v_10.toInt := (congrArg Int32.toInt (show fp_111 0 22 = v_10 from ev_10.symm)); omega) (by have zz0_22 : (fp_111 0 22).toInt = v_10.toInt := (congrArg Int32.toInt (show fp_111 0 22 = v_10 from ev_10.symm)); omega) (by omega) (by omega) (by omega) (by omega) (by omega) hI hF hP hS (lv_sub hl [1, 2, 3, 4, 0, 6, 7] rfl)
          intro y4_67 y5_67 y6_67 fp_67 H locs ls hm_67 hm_56 hy0_67 hy1_67 hy2_67 hy3_67 hy4_67 hy5_67 hI hF hP hS hl
          obtain ⟨v_17, ev_17⟩ : ∃ z : Int32, z = fp_67 0 22 := ⟨_, rfl⟩
          have q_18 : 0 ≤ v_17.toInt ∧ v_17.toInt ≤ 487 := by rw [ev_17]; exact hI 0 22
          have q_19 : (fp_67 0 22).toInt = v_17.toInt := by rw [ev_17]
          refine lv_aload_n hx hb dX12_memories_67 rfl (lv_at hl 0 rfl) ?_
          refine sg_get (ci := 12) (v := .int v_17) (C := RX12) (T := TX12) (N := 55) hx hb hts (fun w h => List.mem_cons_of_mem _ (gx_12 w h)) hown hK hP 0 (by decide) rfl rfl 22 (by decide) (hts _ (List.mem_cons_of_mem _ mw_695)) (fun _ h9 => h9) (congrArg (fun z => some (Value.int z)) (show fp_67 0 22 = v_17 from ev_17.symm)) dX12_memories_68 ?_
          refine lv_iconst (v := 1) hx hb dX12_memories_71 (by decide) ?_
          refine lv_aload_n hx hb dX12_memories_72 rfl (lv_at hl 0 rfl) ?_
          refine sg_get (ci := 12) (v := .int (fp_67 0 6)) (C := RX12) (T := TX12) (N := 55) hx hb hts (fun w h => List.mem_cons_of_mem _ (gx_12 w h)) hown hK hP 0 (by decide) rfl rfl 6 (by decide) (hts _ (List.mem_cons_of_mem _ mw_622)) (fun _ h9 => h9) rfl dX12_memories_73 ?_
          refine lv_topi (fun v_20 ev_20 => ?_)
          have q_21 : 0 ≤ v_20.toInt ∧ v_20.toInt ≤ 8 := by rw [ev_20]; exact hI 0 6
          refine lv_ishl hx hb dX12_memories_76 ?_
          refine lv_topi (fun v_22 ev_22 => ?_)
          have q_23 : 1 ≤ v_22.toInt ∧ v_22.toInt ≤ 256 := by rw [ev_22]; have z := bn_shl1 (y := v_20) (by omega) (by omega); omega
          refine lv_icmp_ge (tgt := 156) hx hb dX12_memories_77 (by decide) (fun c => ?_) (fun c => ?_)
          · skip
            have c_24 : v_22.toInt ≤ v_17.toInt := (by have z := bn_le c; omega)
            obtain ⟨v_26, ev_26⟩ : ∃ z : Int32, z = y6_67 + 1 := ⟨_, rfl⟩
            have q_27 : v_26.toInt = y6_67.toInt + 1 := by rw [ev_26]; exact (bn_addc y6_67 1 (by decide) (by omega) (by omega))
            refine lv_iinc (v := v_26) (lv' := [(6, .int v_26), (0, .ref (h 0)), (1, .int x0), (2, .int x1), (3, .int x2), (4, .int y4_67), (5, .int y5_67)]) hx hb dX12_memories_156 hl (k := 6) rfl (by rw [ev_26]; rfl) (by decide) rfl (fun ls hl => ?_)
            refine lv_goto (tgt := 56) hx hb dX12_memories_159 (by decide) ?_
            exact ih_56 y4_67 y5_67 v_26 fp_67 _ _ _ (by omega) (by omega) (by omega) (by omega) (by omega) (by omega) hI hF hP hS (lv_sub hl [1, 2, 3, 4, 5, 6, 0] rfl)
          · skip
            have c_25 : v_17.toInt < v_22.toInt := (by have z := bn_nle c; omega)
            refine lv_aload_n hx hb dX12_memories_80 rfl (lv_at hl 0 rfl) ?_
            refine sg_get (ci := 12) (v := .int v_17) (C := RX12) (T := TX12) (N := 55) hx hb hts (fun w h => List.mem_cons_of_mem _ (gx_12 w h)) hown hK hP 0 (by decide) rfl rfl 22 (by decide) (hts _ (List.mem_cons_of_mem _ mw_695)) (fun _ h9 => h9) (congrArg (fun z => some (Value.int z)) (show fp_67 0 22 = v_17 from ev_17.symm)) dX12_memories_81 ?_
            refine sg_calli (va_runS (As := [.int v_17]) (rest := []) ⟨hx, hb, hml, hown, hts⟩ (kX12_bitsOf l D ca za h hh fp_67 L Q hI v_17 (by omega) H.size) (va_cwS 1 hts (gw_S (fun _ h => List.mem_cons_of_mem _ h) mw_764 mw_765 mw_619 mw_763) rfl rfl rfl (by decide +kernel) ⟨Nat.le_of_ble_eq_true rfl, Nat.le_of_ble_eq_true rfl⟩) (sg_preS hA hK hP hS hZ) rfl rfl hl.1 rfl (lv_room (Nat.le_of_ble_eq_true rfl)) dX12_memories_84 ⟨Nat.le_refl _, Nat.le_refl _⟩) hA hS (fun r_31 f_28 L_29 Q_30 H locs hq hP hS => ?_)
            obtain ⟨⟨ef9, eL9, eQ9⟩, hq⟩ := hq
            rw [ef9, eL9, eQ9] at hP; clear ef9 eL9 eQ9
            refine lv_iload hx hb dX12_memories_87 (lv_at hl 6 rfl) ?_
            refine lv_icmp_ne (tgt := 143) hx hb dX12_memories_89 (by decide) (fun c => ?_) (fun c => ?_)
            · skip
              have c_32 : r_31.toInt ≠ y6_67.toInt := (by have z := bn_ne c; omega)
              exact blk_143 y4_67 y5_67 y6_67 fp_67 _ _ _ (by omega) (by have zz0_22 : (fp_67 0 22).toInt = v_17.toInt := (congrArg Int32.toInt (show fp_67 0 22 = v_17 from ev_17.symm)); omega) (by have zz0_22 : (fp_67 0 22).toInt = v_17.toInt := (congrArg Int32.toInt (show fp_67 0 22 = v_17 from ev_17.symm)); omega) (by omega) (by omega) (by omega) (by omega) (by omega) hI hF hP hS (lv_sub hl [0, 1, 2, 3, 4, 5, 6] rfl)
            · skip
              have c_33 : r_31.toInt = y6_67.toInt := (by have z := Int32.toInt_inj.mpr c; omega)
              refine lv_aload_n hx hb dX12_memories_92 rfl (lv_at hl 0 rfl) ?_
              refine lv_iload_n hx hb dX12_memories_93 rfl (lv_at hl 1 rfl) ?_
              refine sg_calli (va_runV (As := [.int x0]) (rest := []) ⟨hx, hb, hml, hown, hts⟩ (kX12_weekOf l D ca za h hh fp_67 L Q hI x0 (by omega) H.size) (cwV 1 hts (gw_V (fun _ h => List.mem_cons_of_mem _ h) mw_752 mw_753 mw_754 mw_619 mw_751) rfl rfl rfl (by decide +kernel) ⟨Nat.le_of_ble_eq_true rfl, Nat.le_of_ble_eq_true rfl⟩) (sg_preV (ci := 12) (C := RX12) (T := TX12) (N := 55) hA hK hP hS hZ 0 (by decide) rfl rfl) rfl rfl hl.1 rfl (lv_room (Nat.le_of_ble_eq_true rfl)) dX12_memories_94 ⟨Nat.le_refl _, Nat.le_refl _⟩) hA hS (fun r_37 f_34 L_35 Q_36 H locs hq hP hS => ?_)
              obtain ⟨⟨hI, hk_f_34, eL9, eQ9⟩, hq⟩ := hq
              rw [eL9, eQ9] at hP; clear eL9 eQ9
              have hF : sgK WkX12_memories f f_34 := sgK.tr hF hk_f_34 (by decide)
              refine lv_istore (lv' := [(7, .int r_37), (0, .ref (h 0)), (1, .int x0), (2, .int x1), (3, .int x2), (4, .int y4_67), (5, .int y5_67), (6, .int y6_67)]) hx hb dX12_memories_97 hl (by decide) rfl (fun ls hl => ?_)
              refine lv_iload hx hb dX12_memories_99 (lv_at hl 6 rfl) ?_
              refine lv_if_lt (tgt := 111) hx hb dX12_memories_101 (by decide) (fun c => ?_) (fun c => ?_)
              · skip
                have c_38 : y5_67.toInt < 0 := (by have z := bn_lt c; have k1 : (0 : Int32).toInt = 0 := (by decide); omega)
                exact blk_111 y5_67 y6_67 r_37 f_34 _ _ _ (by omega) (by have zz0_22 : (f_34 0 22).toInt = v_17.toInt := (congrArg Int32.toInt (show f_34 0 22 = v_17 from ((hk_f_34 0 22 (by decide)).trans ev_17.symm))); omega) (by have zz0_22 : (f_34 0 22).toInt = v_17.toInt := (congrArg Int32.toInt (show f_34 0 22 = v_17 from ((hk_f_34 0 22 (by decide)).trans ev_17.symm))); omega) (by omega) (by omega) (by omega) (by omega) hI hF hP hS (lv_sub hl [1, 2, 3, 4, 6, 7, 0] rfl)
              · skip
                have c_39 : 0 ≤ y5_67.toInt := (by have z := bn_nlt c; have k1 : (0 : Int32).toInt = 0 := (by decide); omega)
                refine lv_iload hx hb dX12_memories_104 (lv_at hl 0 rfl) ?_
                refine lv_iload hx hb dX12_memories_106 (lv_at hl 6 rfl) ?_
                refine lv_icmp_ge (tgt := 118) hx hb dX12_memories_108 (by decide) (fun c => ?_) (fun c => ?_)
                · skip
                  have c_40 : y5_67.toInt ≤ r_37.toInt := (by have z := bn_le c; omega)
                  refine lv_iload hx hb dX12_memories_118 (lv_at hl 5 rfl) ?_
                  refine lv_istore (lv' := [(4, .int y4_67), (7, .int r_37), (0, .ref (h 0)), (1, .int x0), (2, .int x1), (3, .int x2), (5, .int y5_67), (6, .int y6_67)]) hx hb dX12_memories_120 hl (by decide) rfl (fun ls hl => ?_)
                  refine lv_iload hx hb dX12_memories_122 (lv_at hl 6 rfl) ?_
                  refine lv_if_lt (tgt := 134) hx hb dX12_memories_124 (by decide) (fun c => ?_) (fun c => ?_)
                  · skip
                    exfalso; have c_42 : y5_67.toInt < 0 := (by have z := bn_lt c; have k1 : (0 : Int32).toInt = 0 := (by decide); omega); omega
                  · skip
                    have c_43 : 0 ≤ y5_67.toInt := (by have z := bn_nlt c; have k1 : (0 : Int32).toInt = 0 := (by decide); omega)
                    refine lv_iload hx hb dX12_memories_127 (lv_at hl 1 rfl) ?_
                    refine lv_iload hx hb dX12_memories_129 (lv_at hl 6 rfl) ?_
                    refine lv_icmp_ge (tgt := 139) hx hb dX12_memories_131 (by decide) (fun c => ?_) (fun c => ?_)
                    · skip
                      have c_44 : y5_67.toInt ≤ r_37.toInt := (by have z := bn_le c; omega)
                      refine lv_iload hx hb dX12_memories_139 (lv_at hl 6 rfl) ?_
                      refine lv_istore (lv' := [(5, .int y5_67), (4, .int y4_67), (7, .int r_37), (0, .ref (h 0)), (1, .int x0), (2, .int x1), (3, .int x2), (6, .int y6_67)]) hx hb dX12_memories_141 hl (by decide) rfl (fun ls hl => ?_)
                      exact blk_143 y4_67 y5_67 y6_67 f_34 _ _ _ (by omega) (by have zz0_22 : (f_34 0 22).toInt = v_17.toInt := (congrArg Int32.toInt (show f_34 0 22 = v_17 from ((hk_f_34 0 22 (by decide)).trans ev_17.symm))); omega) (by have zz0_22 : (f_34 0 22).toInt = v_17.toInt := (congrArg Int32.toInt (show f_34 0 22 = v_17 from ((hk_f_34 0 22 (by decide)).trans ev_17.symm))); omega) (by omega) (by omega) (by omega) (by omega) (by omega) hI hF hP hS (lv_sub hl [3, 4, 5, 6, 1, 0, 7] rfl)
                    · skip
                      have c_45 : r_37.toInt < y5_67.toInt := (by have z := bn_nle c; omega)
                      exact blk_134 y4_67 y6_67 r_37 f_34 _ _ _ (by omega) (by have zz0_22 : (f_34 0 22).toInt = v_17.toInt := (congrArg Int32.toInt (show f_34 0 22 = v_17 from ((hk_f_34 0 22 (by decide)).trans ev_17.symm))); omega) (by have zz0_22 : (f_34 0 22).toInt = v_17.toInt := (congrArg Int32.toInt (show f_34 0 22 = v_17 from ((hk_f_34 0 22 (by decide)).trans ev_17.symm))); omega) (by omega) (by omega) (by omega) (by omega) (by omega) hI hF hP hS (lv_sub hl [2, 3, 4, 5, 0, 7, 1] rfl)
                · skip
                  have c_41 : r_37.toInt < y5_67.toInt := (by have z := bn_nle c; omega)
                  exact blk_111 y5_67 y6_67 r_37 f_34 _ _ _ (by omega) (by have zz0_22 : (f_34 0 22).toInt = v_17.toInt := (congrArg Int32.toInt (show f_34 0 22 = v_17 from ((hk_f_34 0 22 (by decide)).trans ev_17.symm))); omega) (by have zz0_22 : (f_34 0 22).toInt = v_17.toInt := (congrArg Int32.toInt (show f_34 0 22 = v_17 from ((hk_f_34 0 22 (by decide)).trans ev_17.symm))); omega) (by omega) (by omega) (by omega) (by omega) hI hF hP hS (lv_sub hl [1, 2, 3, 4, 6, 7, 0] rfl)
      intro y4_56 y5_56 y6_56 fp_56 H locs ls hm_56 hy0_56 hy1_56 hy2_56 hy3_56 hy4_56 hI hF hP hS hl
      refine lv_iload hx hb dX12_memories_56 (lv_at hl 6 rfl) ?_
      refine lv_iload_n hx hb dX12_memories_58 rfl (lv_at hl 2 rfl) ?_
      refine lv_icmp_gt (tgt := 162) hx hb dX12_memories_59 (by decide) (fun c => ?_) (fun c => ?_)
      · skip
        have c_46 : x1.toInt < y6_56.toInt := (by have z := bn_lt c; omega)
        refine lv_aload_n hx hb dX12_memories_162 rfl (lv_at hl 0 rfl) ?_
        refine lv_iconst (v := 0) hx hb dX12_memories_163 (by decide) ?_
        refine sg_put (ci := 12) (x := 0) (ty := .int) (C := RX12) (T := TX12) (N := 55) hx hb hts (fun w h => List.mem_cons_of_mem _ (gx_12 w h)) tyX12 tyX12_ok nmX12 hown hh hA hK hP hS 0 (by decide) rfl rfl 22 (by decide) (hts _ (List.mem_cons_of_mem _ mw_695)) (fun _ h9 => h9) rfl rfl (by decide +kernel) rfl rfl (Nat.le_of_ble_eq_true rfl) dX12_memories_164 (fun f_48 H locs ef_48 hP hS => ?_)
        have hI : sgI loM hiM f_48 := by rw [ef_48]; exact sgI.put hI 0 22 (show 0 ≤ (0 : Int32).toInt ∧ (0 : Int32).toInt ≤ 487 from by decide)
        have hF : sgK WkX12_memories f f_48 := sgK.put hF ef_48 (by rfl)
        refine lv_iload_n hx hb dX12_memories_167 rfl (lv_at hl 3 rfl) ?_
        refine lv_if_ne (tgt := 176) hx hb dX12_memories_168 (by decide) (fun c => ?_) (fun c => ?_)
        · skip
          have c_49 : x2.toInt ≠ 0 := (by have z := bn_ne c; have k1 : (0 : Int32).toInt = 0 := (by decide); omega)
          refine lv_iload hx hb dX12_memories_176 (lv_at hl 5 rfl) ?_
          exact hret _ _ _ _ (y5_56) f_48 L Q dX12_memories_178 hP hS ⟨⟨hI, hF, rfl, rfl⟩, trivial⟩
        · skip
          have c_50 : x2.toInt = 0 := (by have z := Int32.toInt_inj.mpr c; have k1 : (0 : Int32).toInt = 0 := (by decide); omega)
          refine lv_iload hx hb dX12_memories_171 (lv_at hl 4 rfl) ?_
          refine lv_goto (tgt := 178) hx hb dX12_memories_173 (by decide) ?_
          exact hret _ _ _ _ (y4_56) f_48 L Q dX12_memories_178 hP hS ⟨⟨hI, hF, rfl, rfl⟩, trivial⟩
      · skip
        have c_47 : y6_56.toInt ≤ x1.toInt := (by have z := bn_nlt c; omega)
        refine lv_aload_n hx hb dX12_memories_62 rfl (lv_at hl 0 rfl) ?_
        refine lv_iconst (v := 0) hx hb dX12_memories_63 (by decide) ?_
        refine sg_put (ci := 12) (x := 0) (ty := .int) (C := RX12) (T := TX12) (N := 55) hx hb hts (fun w h => List.mem_cons_of_mem _ (gx_12 w h)) tyX12 tyX12_ok nmX12 hown hh hA hK hP hS 0 (by decide) rfl rfl 22 (by decide) (hts _ (List.mem_cons_of_mem _ mw_695)) (fun _ h9 => h9) rfl rfl (by decide +kernel) rfl rfl (Nat.le_of_ble_eq_true rfl) dX12_memories_64 (fun f_51 H locs ef_51 hP hS => ?_)
        have hI : sgI loM hiM f_51 := by rw [ef_51]; exact sgI.put hI 0 22 (show 0 ≤ (0 : Int32).toInt ∧ (0 : Int32).toInt ≤ 487 from by decide)
        have hF : sgK WkX12_memories f f_51 := sgK.put hF ef_51 (by rfl)
        exact loop_67 488 y4_56 y5_56 y6_56 f_51 _ _ _ (by have zz0_22 : (f_51 0 22).toInt = 0 := (congrArg Int32.toInt (show f_51 0 22 = 0 from (by rw [ef_51, sg_up_s, sgu_s]))).trans (by decide); omega) (by omega) (by have zz0_22 : (f_51 0 22).toInt = 0 := (congrArg Int32.toInt (show f_51 0 22 = 0 from (by rw [ef_51, sg_up_s, sgu_s]))).trans (by decide); omega) (by omega) (by omega) (by omega) (by omega) (by omega) hI hF hP hS (lv_sub hl [0, 1, 2, 3, 4, 5, 6] rfl)
  refine lv_aload_n hx hb dX12_memories_0 rfl (lv_at hl 0 rfl) ?_
  refine lv_iload_n hx hb dX12_memories_1 rfl (lv_at hl 1 rfl) ?_
  refine sg_calli (va_runV (As := [.int x0]) (rest := []) ⟨hx, hb, hml, hown, hts⟩ (kX12_bytesIs l D ca za h hh f L Q hI x0 H.size) (cwV 1 hts (gw_V (fun _ h => List.mem_cons_of_mem _ h) mw_685 mw_686 mw_687 mw_619 mw_684) rfl rfl rfl (by decide +kernel) ⟨Nat.le_of_ble_eq_true rfl, Nat.le_of_ble_eq_true rfl⟩) (sg_preV (ci := 12) (C := RX12) (T := TX12) (N := 55) hA hK hP hS hZ 0 (by decide) rfl rfl) rfl rfl hl.1 rfl (lv_room (Nat.le_of_ble_eq_true rfl)) dX12_memories_2 ⟨Nat.le_refl _, Nat.le_refl _⟩) hA hS (fun r_55 f_52 L_53 Q_54 H locs hq hP hS => ?_)
  obtain ⟨⟨ef9, eL9, eQ9⟩, hq⟩ := hq
  rw [ef9, eL9, eQ9] at hP; clear ef9 eL9 eQ9
  rcases hq with ⟨rfl, hq⟩ | hq | ⟨rfl, hq⟩
  · skip
    have q_56 := hq
    refine lv_iconst (v := (-1)) hx hb dX12_memories_5 (by decide) ?_
    refine lv_icmp_eq (tgt := 31) hx hb dX12_memories_6 (by decide) (fun c => absurd c (by decide)) (fun c => ?_)
    refine lv_iload_n hx hb dX12_memories_9 rfl (lv_at hl 2 rfl) ?_
    obtain ⟨w_57, ew_57⟩ : ∃ z : Int64, z = Int32.toInt64 x1 := ⟨_, rfl⟩
    have q_58 : w_57.toInt = x1.toInt := by rw [ew_57]; exact Int32.toInt_toInt64 _
    refine lv_i2l (v := w_57) hx hb dX12_memories_10 ew_57.symm ?_
    refine lv_lconst (v := 0) hx hb dX12_memories_11 (by decide) ?_
    refine lv_ldc2 (v := 3) hx hb hown (hts _ (List.mem_cons_of_mem _ mw_692)) dX12_memories_12 ?_
    refine sg_calli (va_runS (As := [.long w_57, .long 0, .long 3]) (rest := []) ⟨hx, hb, hml, hown, hts⟩ (kX12_within l D ca za h hh f L Q hI w_57 0 3 H.size) (va_cwS 3 hts (gw_S (fun _ h => List.mem_cons_of_mem _ h) mw_631 mw_632 mw_619 mw_630) rfl rfl rfl (by decide +kernel) ⟨Nat.le_of_ble_eq_true rfl, Nat.le_of_ble_eq_true rfl⟩) (sg_preS hA hK hP hS hZ) rfl rfl hl.1 rfl (lv_room (Nat.le_of_ble_eq_true rfl)) dX12_memories_15 ⟨Nat.le_refl _, Nat.le_refl _⟩) hA hS (fun r_62 f_59 L_60 Q_61 H locs hq hP hS => ?_)
    obtain ⟨⟨ef9, eL9, eQ9⟩, hq⟩ := hq
    rw [ef9, eL9, eQ9] at hP; clear ef9 eL9 eQ9
    have k_63 : (0 : Int64).toInt = 0 := by decide
    have k_64 : (3 : Int64).toInt = 3 := by decide
    rcases hq with ⟨rfl, hq⟩ | ⟨rfl, hq⟩
    · skip
      have q_65 := hq
      refine lv_if_eq (tgt := 31) hx hb dX12_memories_18 (by decide) (fun c => absurd c (by decide)) (fun c => ?_)
      refine lv_iload_n hx hb dX12_memories_21 rfl (lv_at hl 3 rfl) ?_
      obtain ⟨w_66, ew_66⟩ : ∃ z : Int64, z = Int32.toInt64 x2 := ⟨_, rfl⟩
      have q_67 : w_66.toInt = x2.toInt := by rw [ew_66]; exact Int32.toInt_toInt64 _
      refine lv_i2l (v := w_66) hx hb dX12_memories_22 ew_66.symm ?_
      refine lv_lconst (v := 0) hx hb dX12_memories_23 (by decide) ?_
      refine lv_lconst (v := 1) hx hb dX12_memories_24 (by decide) ?_
      refine sg_calli (va_runS (As := [.long w_66, .long 0, .long 1]) (rest := []) ⟨hx, hb, hml, hown, hts⟩ (kX12_within l D ca za h hh f L Q hI w_66 0 1 H.size) (va_cwS 3 hts (gw_S (fun _ h => List.mem_cons_of_mem _ h) mw_631 mw_632 mw_619 mw_630) rfl rfl rfl (by decide +kernel) ⟨Nat.le_of_ble_eq_true rfl, Nat.le_of_ble_eq_true rfl⟩) (sg_preS hA hK hP hS hZ) rfl rfl hl.1 rfl (lv_room (Nat.le_of_ble_eq_true rfl)) dX12_memories_25 ⟨Nat.le_refl _, Nat.le_refl _⟩) hA hS (fun r_71 f_68 L_69 Q_70 H locs hq hP hS => ?_)
      obtain ⟨⟨ef9, eL9, eQ9⟩, hq⟩ := hq
      rw [ef9, eL9, eQ9] at hP; clear ef9 eL9 eQ9
      have k_72 : (0 : Int64).toInt = 0 := by decide
      have k_73 : (1 : Int64).toInt = 1 := by decide
      rcases hq with ⟨rfl, hq⟩ | ⟨rfl, hq⟩
      · skip
        have q_74 := hq
        refine lv_if_ne (tgt := 33) hx hb dX12_memories_28 (by decide) (fun c => ?_) (fun c => absurd c (by decide))
        refine lv_aload_n hx hb dX12_memories_33 rfl (lv_at hl 0 rfl) ?_
        refine lv_iload_n hx hb dX12_memories_34 rfl (lv_at hl 1 rfl) ?_
        refine sg_calli (va_runV (As := [.int x0]) (rest := []) ⟨hx, hb, hml, hown, hts⟩ (kX12_bytesIs l D ca za h hh f L Q hI x0 H.size) (cwV 1 hts (gw_V (fun _ h => List.mem_cons_of_mem _ h) mw_685 mw_686 mw_687 mw_619 mw_684) rfl rfl rfl (by decide +kernel) ⟨Nat.le_of_ble_eq_true rfl, Nat.le_of_ble_eq_true rfl⟩) (sg_preV (ci := 12) (C := RX12) (T := TX12) (N := 55) hA hK hP hS hZ 0 (by decide) rfl rfl) rfl rfl hl.1 rfl (lv_room (Nat.le_of_ble_eq_true rfl)) dX12_memories_35 ⟨Nat.le_refl _, Nat.le_refl _⟩) hA hS (fun r_78 f_75 L_76 Q_77 H locs hq hP hS => ?_)
        obtain ⟨⟨ef9, eL9, eQ9⟩, hq⟩ := hq
        rw [ef9, eL9, eQ9] at hP; clear ef9 eL9 eQ9
        rcases hq with ⟨rfl, hq⟩ | hq | ⟨rfl, hq⟩
        · skip
          have q_79 := hq
          refine lv_if_ge (tgt := 47) hx hb dX12_memories_38 (by decide) (fun c => ?_) (fun c => absurd c (by decide))
          refine lv_iconst (v := 0) hx hb dX12_memories_47 (by decide) ?_
          refine lv_istore (lv' := [(4, .int 0), (0, .ref (h 0)), (1, .int x0), (2, .int x1), (3, .int x2)]) hx hb dX12_memories_48 hl (by decide) rfl (fun ls hl => ?_)
          refine lv_iconst (v := (-1)) hx hb dX12_memories_50 (by decide) ?_
          refine lv_istore (lv' := [(5, .int (-1)), (4, .int 0), (0, .ref (h 0)), (1, .int x0), (2, .int x1), (3, .int x2)]) hx hb dX12_memories_51 hl (by decide) rfl (fun ls hl => ?_)
          refine lv_iconst (v := 0) hx hb dX12_memories_53 (by decide) ?_
          refine lv_istore (lv' := [(6, .int 0), (5, .int (-1)), (4, .int 0), (0, .ref (h 0)), (1, .int x0), (2, .int x1), (3, .int x2)]) hx hb dX12_memories_54 hl (by decide) rfl (fun ls hl => ?_)
          exact loop_56 5 0 (-1) 0 f _ _ _ (by have kc0 : (0 : Int32).toInt = 0 := (by decide); have kc1 : ((-1) : Int32).toInt = (-1) := (by decide); have kc2 : (0 : Int32).toInt = 0 := (by decide); omega) (by omega) (by omega) (by omega) (by decide) (by decide) hI hF hP hS (lv_sub hl [3, 4, 5, 6, 2, 1, 0] rfl)
        · skip
          have q_80 := hq
          refine lv_if_ge (tgt := 47) hx hb dX12_memories_38 (by decide) (fun c => ?_) (fun c => ?_)
          · skip
            exfalso; have c_81 : 0 ≤ r_78.toInt := (by have z := bn_le c; have k1 : (0 : Int32).toInt = 0 := (by decide); omega); omega
          · skip
            have c_82 : r_78.toInt < 0 := (by have z := bn_nle c; have k1 : (0 : Int32).toInt = 0 := (by decide); omega)
            refine lv_aload_n hx hb dX12_memories_41 rfl (lv_at hl 0 rfl) ?_
            refine lv_iload_n hx hb dX12_memories_42 rfl (lv_at hl 1 rfl) ?_
            refine sg_calli (va_runV (As := [.int x0]) (rest := []) ⟨hx, hb, hml, hown, hts⟩ (kX12_bytesIs l D ca za h hh f L Q hI x0 H.size) (cwV 1 hts (gw_V (fun _ h => List.mem_cons_of_mem _ h) mw_685 mw_686 mw_687 mw_619 mw_684) rfl rfl rfl (by decide +kernel) ⟨Nat.le_of_ble_eq_true rfl, Nat.le_of_ble_eq_true rfl⟩) (sg_preV (ci := 12) (C := RX12) (T := TX12) (N := 55) hA hK hP hS hZ 0 (by decide) rfl rfl) rfl rfl hl.1 rfl (lv_room (Nat.le_of_ble_eq_true rfl)) dX12_memories_43 ⟨Nat.le_refl _, Nat.le_refl _⟩) hA hS (fun r_86 f_83 L_84 Q_85 H locs hq hP hS => ?_)
            obtain ⟨⟨ef9, eL9, eQ9⟩, hq⟩ := hq
            rw [ef9, eL9, eQ9] at hP; clear ef9 eL9 eQ9
            rcases hq with ⟨rfl, hq⟩ | hq | ⟨rfl, hq⟩
            · skip
              have q_87 := hq
              have k99 : (1 : Int32).toInt = 1 := (by decide)
              exact hret _ _ _ _ (1) f L Q dX12_memories_46 hP hS ⟨⟨hI, hF, rfl, rfl⟩, trivial⟩
            · skip
              have q_88 := hq
              exact hret _ _ _ _ (r_86) f L Q dX12_memories_46 hP hS ⟨⟨hI, hF, rfl, rfl⟩, trivial⟩
            · skip
              have q_89 := hq
              have k99 : ((-1) : Int32).toInt = (-1) := (by decide)
              exact hret _ _ _ _ (-1) f L Q dX12_memories_46 hP hS ⟨⟨hI, hF, rfl, rfl⟩, trivial⟩
        · skip
          have q_90 := hq
          refine lv_if_ge (tgt := 47) hx hb dX12_memories_38 (by decide) (fun c => absurd c (by decide)) (fun c => ?_)
          refine lv_aload_n hx hb dX12_memories_41 rfl (lv_at hl 0 rfl) ?_
          refine lv_iload_n hx hb dX12_memories_42 rfl (lv_at hl 1 rfl) ?_
          refine sg_calli (va_runV (As := [.int x0]) (rest := []) ⟨hx, hb, hml, hown, hts⟩ (kX12_bytesIs l D ca za h hh f L Q hI x0 H.size) (cwV 1 hts (gw_V (fun _ h => List.mem_cons_of_mem _ h) mw_685 mw_686 mw_687 mw_619 mw_684) rfl rfl rfl (by decide +kernel) ⟨Nat.le_of_ble_eq_true rfl, Nat.le_of_ble_eq_true rfl⟩) (sg_preV (ci := 12) (C := RX12) (T := TX12) (N := 55) hA hK hP hS hZ 0 (by decide) rfl rfl) rfl rfl hl.1 rfl (lv_room (Nat.le_of_ble_eq_true rfl)) dX12_memories_43 ⟨Nat.le_refl _, Nat.le_refl _⟩) hA hS (fun r_94 f_91 L_92 Q_93 H locs hq hP hS => ?_)
          obtain ⟨⟨ef9, eL9, eQ9⟩, hq⟩ := hq
          rw [ef9, eL9, eQ9] at hP; clear ef9 eL9 eQ9
          rcases hq with ⟨rfl, hq⟩ | hq | ⟨rfl, hq⟩
          · skip
            have q_95 := hq
            have k99 : (1 : Int32).toInt = 1 := (by decide)
            exact hret _ _ _ _ (1) f L Q dX12_memories_46 hP hS ⟨⟨hI, hF, rfl, rfl⟩, trivial⟩
          · skip
            have q_96 := hq
            exact hret _ _ _ _ (r_94) f L Q dX12_memories_46 hP hS ⟨⟨hI, hF, rfl, rfl⟩, trivial⟩
          · skip
            have q_97 := hq
            have k99 : ((-1) : Int32).toInt = (-1) := (by decide)
            exact hret _ _ _ _ (-1) f L Q dX12_memories_46 hP hS ⟨⟨hI, hF, rfl, rfl⟩, trivial⟩
      · skip
        have q_98 := hq
        refine lv_if_ne (tgt := 33) hx hb dX12_memories_28 (by decide) (fun c => absurd c (by decide)) (fun c => ?_)
        refine lv_iconst (v := (-1)) hx hb dX12_memories_31 (by decide) ?_
        have k99 : ((-1) : Int32).toInt = (-1) := (by decide)
        exact hret _ _ _ _ (-1) f L Q dX12_memories_32 hP hS ⟨⟨hI, hF, rfl, rfl⟩, trivial⟩
    · skip
      have q_99 := hq
      refine lv_if_eq (tgt := 31) hx hb dX12_memories_18 (by decide) (fun c => ?_) (fun c => absurd c (by decide))
      refine lv_iconst (v := (-1)) hx hb dX12_memories_31 (by decide) ?_
      have k99 : ((-1) : Int32).toInt = (-1) := (by decide)
      exact hret _ _ _ _ (-1) f L Q dX12_memories_32 hP hS ⟨⟨hI, hF, rfl, rfl⟩, trivial⟩
  · skip
    have q_100 := hq
    refine lv_iconst (v := (-1)) hx hb dX12_memories_5 (by decide) ?_
    refine lv_icmp_eq (tgt := 31) hx hb dX12_memories_6 (by decide) (fun c => ?_) (fun c => ?_)
    · skip
      exfalso; have c_101 : r_55.toInt = (-1) := (by have z := Int32.toInt_inj.mpr c; have k1 : ((-1) : Int32).toInt = (-1) := (by decide); omega); omega
    · skip
      have c_102 : r_55.toInt ≠ (-1) := (by have z := bn_ne c; have k1 : ((-1) : Int32).toInt = (-1) := (by decide); omega)
      refine lv_iload_n hx hb dX12_memories_9 rfl (lv_at hl 2 rfl) ?_
      obtain ⟨w_103, ew_103⟩ : ∃ z : Int64, z = Int32.toInt64 x1 := ⟨_, rfl⟩
      have q_104 : w_103.toInt = x1.toInt := by rw [ew_103]; exact Int32.toInt_toInt64 _
      refine lv_i2l (v := w_103) hx hb dX12_memories_10 ew_103.symm ?_
      refine lv_lconst (v := 0) hx hb dX12_memories_11 (by decide) ?_
      refine lv_ldc2 (v := 3) hx hb hown (hts _ (List.mem_cons_of_mem _ mw_692)) dX12_memories_12 ?_
      refine sg_calli (va_runS (As := [.long w_103, .long 0, .long 3]) (rest := []) ⟨hx, hb, hml, hown, hts⟩ (kX12_within l D ca za h hh f L Q hI w_103 0 3 H.size) (va_cwS 3 hts (gw_S (fun _ h => List.mem_cons_of_mem _ h) mw_631 mw_632 mw_619 mw_630) rfl rfl rfl (by decide +kernel) ⟨Nat.le_of_ble_eq_true rfl, Nat.le_of_ble_eq_true rfl⟩) (sg_preS hA hK hP hS hZ) rfl rfl hl.1 rfl (lv_room (Nat.le_of_ble_eq_true rfl)) dX12_memories_15 ⟨Nat.le_refl _, Nat.le_refl _⟩) hA hS (fun r_108 f_105 L_106 Q_107 H locs hq hP hS => ?_)
      obtain ⟨⟨ef9, eL9, eQ9⟩, hq⟩ := hq
      rw [ef9, eL9, eQ9] at hP; clear ef9 eL9 eQ9
      have k_109 : (0 : Int64).toInt = 0 := by decide
      have k_110 : (3 : Int64).toInt = 3 := by decide
      rcases hq with ⟨rfl, hq⟩ | ⟨rfl, hq⟩
      · skip
        have q_111 := hq
        refine lv_if_eq (tgt := 31) hx hb dX12_memories_18 (by decide) (fun c => absurd c (by decide)) (fun c => ?_)
        refine lv_iload_n hx hb dX12_memories_21 rfl (lv_at hl 3 rfl) ?_
        obtain ⟨w_112, ew_112⟩ : ∃ z : Int64, z = Int32.toInt64 x2 := ⟨_, rfl⟩
        have q_113 : w_112.toInt = x2.toInt := by rw [ew_112]; exact Int32.toInt_toInt64 _
        refine lv_i2l (v := w_112) hx hb dX12_memories_22 ew_112.symm ?_
        refine lv_lconst (v := 0) hx hb dX12_memories_23 (by decide) ?_
        refine lv_lconst (v := 1) hx hb dX12_memories_24 (by decide) ?_
        refine sg_calli (va_runS (As := [.long w_112, .long 0, .long 1]) (rest := []) ⟨hx, hb, hml, hown, hts⟩ (kX12_within l D ca za h hh f L Q hI w_112 0 1 H.size) (va_cwS 3 hts (gw_S (fun _ h => List.mem_cons_of_mem _ h) mw_631 mw_632 mw_619 mw_630) rfl rfl rfl (by decide +kernel) ⟨Nat.le_of_ble_eq_true rfl, Nat.le_of_ble_eq_true rfl⟩) (sg_preS hA hK hP hS hZ) rfl rfl hl.1 rfl (lv_room (Nat.le_of_ble_eq_true rfl)) dX12_memories_25 ⟨Nat.le_refl _, Nat.le_refl _⟩) hA hS (fun r_117 f_114 L_115 Q_116 H locs hq hP hS => ?_)
        obtain ⟨⟨ef9, eL9, eQ9⟩, hq⟩ := hq
        rw [ef9, eL9, eQ9] at hP; clear ef9 eL9 eQ9
        have k_118 : (0 : Int64).toInt = 0 := by decide
        have k_119 : (1 : Int64).toInt = 1 := by decide
        rcases hq with ⟨rfl, hq⟩ | ⟨rfl, hq⟩
        · skip
          have q_120 := hq
          refine lv_if_ne (tgt := 33) hx hb dX12_memories_28 (by decide) (fun c => ?_) (fun c => absurd c (by decide))
          refine lv_aload_n hx hb dX12_memories_33 rfl (lv_at hl 0 rfl) ?_
          refine lv_iload_n hx hb dX12_memories_34 rfl (lv_at hl 1 rfl) ?_
          refine sg_calli (va_runV (As := [.int x0]) (rest := []) ⟨hx, hb, hml, hown, hts⟩ (kX12_bytesIs l D ca za h hh f L Q hI x0 H.size) (cwV 1 hts (gw_V (fun _ h => List.mem_cons_of_mem _ h) mw_685 mw_686 mw_687 mw_619 mw_684) rfl rfl rfl (by decide +kernel) ⟨Nat.le_of_ble_eq_true rfl, Nat.le_of_ble_eq_true rfl⟩) (sg_preV (ci := 12) (C := RX12) (T := TX12) (N := 55) hA hK hP hS hZ 0 (by decide) rfl rfl) rfl rfl hl.1 rfl (lv_room (Nat.le_of_ble_eq_true rfl)) dX12_memories_35 ⟨Nat.le_refl _, Nat.le_refl _⟩) hA hS (fun r_124 f_121 L_122 Q_123 H locs hq hP hS => ?_)
          obtain ⟨⟨ef9, eL9, eQ9⟩, hq⟩ := hq
          rw [ef9, eL9, eQ9] at hP; clear ef9 eL9 eQ9
          rcases hq with ⟨rfl, hq⟩ | hq | ⟨rfl, hq⟩
          · skip
            have q_125 := hq
            refine lv_if_ge (tgt := 47) hx hb dX12_memories_38 (by decide) (fun c => ?_) (fun c => absurd c (by decide))
            refine lv_iconst (v := 0) hx hb dX12_memories_47 (by decide) ?_
            refine lv_istore (lv' := [(4, .int 0), (0, .ref (h 0)), (1, .int x0), (2, .int x1), (3, .int x2)]) hx hb dX12_memories_48 hl (by decide) rfl (fun ls hl => ?_)
            refine lv_iconst (v := (-1)) hx hb dX12_memories_50 (by decide) ?_
            refine lv_istore (lv' := [(5, .int (-1)), (4, .int 0), (0, .ref (h 0)), (1, .int x0), (2, .int x1), (3, .int x2)]) hx hb dX12_memories_51 hl (by decide) rfl (fun ls hl => ?_)
            refine lv_iconst (v := 0) hx hb dX12_memories_53 (by decide) ?_
            refine lv_istore (lv' := [(6, .int 0), (5, .int (-1)), (4, .int 0), (0, .ref (h 0)), (1, .int x0), (2, .int x1), (3, .int x2)]) hx hb dX12_memories_54 hl (by decide) rfl (fun ls hl => ?_)
            exact loop_56 5 0 (-1) 0 f _ _ _ (by have kc0 : (0 : Int32).toInt = 0 := (by decide); have kc1 : ((-1) : Int32).toInt = (-1) := (by decide); have kc2 : (0 : Int32).toInt = 0 := (by decide); omega) (by omega) (by omega) (by omega) (by decide) (by decide) hI hF hP hS (lv_sub hl [3, 4, 5, 6, 2, 1, 0] rfl)
          · skip
            have q_126 := hq
            refine lv_if_ge (tgt := 47) hx hb dX12_memories_38 (by decide) (fun c => ?_) (fun c => ?_)
            · skip
              exfalso; have c_127 : 0 ≤ r_124.toInt := (by have z := bn_le c; have k1 : (0 : Int32).toInt = 0 := (by decide); omega); omega
            · skip
              have c_128 : r_124.toInt < 0 := (by have z := bn_nle c; have k1 : (0 : Int32).toInt = 0 := (by decide); omega)
              refine lv_aload_n hx hb dX12_memories_41 rfl (lv_at hl 0 rfl) ?_
              refine lv_iload_n hx hb dX12_memories_42 rfl (lv_at hl 1 rfl) ?_
              refine sg_calli (va_runV (As := [.int x0]) (rest := []) ⟨hx, hb, hml, hown, hts⟩ (kX12_bytesIs l D ca za h hh f L Q hI x0 H.size) (cwV 1 hts (gw_V (fun _ h => List.mem_cons_of_mem _ h) mw_685 mw_686 mw_687 mw_619 mw_684) rfl rfl rfl (by decide +kernel) ⟨Nat.le_of_ble_eq_true rfl, Nat.le_of_ble_eq_true rfl⟩) (sg_preV (ci := 12) (C := RX12) (T := TX12) (N := 55) hA hK hP hS hZ 0 (by decide) rfl rfl) rfl rfl hl.1 rfl (lv_room (Nat.le_of_ble_eq_true rfl)) dX12_memories_43 ⟨Nat.le_refl _, Nat.le_refl _⟩) hA hS (fun r_132 f_129 L_130 Q_131 H locs hq hP hS => ?_)
              obtain ⟨⟨ef9, eL9, eQ9⟩, hq⟩ := hq
              rw [ef9, eL9, eQ9] at hP; clear ef9 eL9 eQ9
              rcases hq with ⟨rfl, hq⟩ | hq | ⟨rfl, hq⟩
              · skip
                have q_133 := hq
                have k99 : (1 : Int32).toInt = 1 := (by decide)
                exact hret _ _ _ _ (1) f L Q dX12_memories_46 hP hS ⟨⟨hI, hF, rfl, rfl⟩, trivial⟩
              · skip
                have q_134 := hq
                exact hret _ _ _ _ (r_132) f L Q dX12_memories_46 hP hS ⟨⟨hI, hF, rfl, rfl⟩, trivial⟩
              · skip
                have q_135 := hq
                have k99 : ((-1) : Int32).toInt = (-1) := (by decide)
                exact hret _ _ _ _ (-1) f L Q dX12_memories_46 hP hS ⟨⟨hI, hF, rfl, rfl⟩, trivial⟩
          · skip
            have q_136 := hq
            refine lv_if_ge (tgt := 47) hx hb dX12_memories_38 (by decide) (fun c => absurd c (by decide)) (fun c => ?_)
            refine lv_aload_n hx hb dX12_memories_41 rfl (lv_at hl 0 rfl) ?_
            refine lv_iload_n hx hb dX12_memories_42 rfl (lv_at hl 1 rfl) ?_
            refine sg_calli (va_runV (As := [.int x0]) (rest := []) ⟨hx, hb, hml, hown, hts⟩ (kX12_bytesIs l D ca za h hh f L Q hI x0 H.size) (cwV 1 hts (gw_V (fun _ h => List.mem_cons_of_mem _ h) mw_685 mw_686 mw_687 mw_619 mw_684) rfl rfl rfl (by decide +kernel) ⟨Nat.le_of_ble_eq_true rfl, Nat.le_of_ble_eq_true rfl⟩) (sg_preV (ci := 12) (C := RX12) (T := TX12) (N := 55) hA hK hP hS hZ 0 (by decide) rfl rfl) rfl rfl hl.1 rfl (lv_room (Nat.le_of_ble_eq_true rfl)) dX12_memories_43 ⟨Nat.le_refl _, Nat.le_refl _⟩) hA hS (fun r_140 f_137 L_138 Q_139 H locs hq hP hS => ?_)
            obtain ⟨⟨ef9, eL9, eQ9⟩, hq⟩ := hq
            rw [ef9, eL9, eQ9] at hP; clear ef9 eL9 eQ9
            rcases hq with ⟨rfl, hq⟩ | hq | ⟨rfl, hq⟩
            · skip
              have q_141 := hq
              have k99 : (1 : Int32).toInt = 1 := (by decide)
              exact hret _ _ _ _ (1) f L Q dX12_memories_46 hP hS ⟨⟨hI, hF, rfl, rfl⟩, trivial⟩
            · skip
              have q_142 := hq
              exact hret _ _ _ _ (r_140) f L Q dX12_memories_46 hP hS ⟨⟨hI, hF, rfl, rfl⟩, trivial⟩
            · skip
              have q_143 := hq
              have k99 : ((-1) : Int32).toInt = (-1) := (by decide)
              exact hret _ _ _ _ (-1) f L Q dX12_memories_46 hP hS ⟨⟨hI, hF, rfl, rfl⟩, trivial⟩
        · skip
          have q_144 := hq
          refine lv_if_ne (tgt := 33) hx hb dX12_memories_28 (by decide) (fun c => absurd c (by decide)) (fun c => ?_)
          refine lv_iconst (v := (-1)) hx hb dX12_memories_31 (by decide) ?_
          have k99 : ((-1) : Int32).toInt = (-1) := (by decide)
          exact hret _ _ _ _ (-1) f L Q dX12_memories_32 hP hS ⟨⟨hI, hF, rfl, rfl⟩, trivial⟩
      · skip
        have q_145 := hq
        refine lv_if_eq (tgt := 31) hx hb dX12_memories_18 (by decide) (fun c => ?_) (fun c => absurd c (by decide))
        refine lv_iconst (v := (-1)) hx hb dX12_memories_31 (by decide) ?_
        have k99 : ((-1) : Int32).toInt = (-1) := (by decide)
        exact hret _ _ _ _ (-1) f L Q dX12_memories_32 hP hS ⟨⟨hI, hF, rfl, rfl⟩, trivial⟩
  · skip
    have q_146 := hq
    refine lv_iconst (v := (-1)) hx hb dX12_memories_5 (by decide) ?_
    refine lv_icmp_eq (tgt := 31) hx hb dX12_memories_6 (by decide) (fun c => ?_) (fun c => absurd c (by decide))
    refine lv_iconst (v := (-1)) hx hb dX12_memories_31 (by decide) ?_
    have k99 : ((-1) : Int32).toInt = (-1) := (by decide)
    exact hret _ _ _ _ (-1) f L Q dX12_memories_32 hP hS ⟨⟨hI, hF, rfl, rfl⟩, trivial⟩

abbrev WkX12_marked : List (Nat × Nat × Option Nat) := [(0, 0, some 12), (0, 0, some 13), (0, 0, some 14), (0, 0, some 15), (0, 0, some 16), (0, 0, some 23), (0, 0, some 29), (0, 0, some 30), (0, 0, some 31), (8, 8, none), (12, 12, none), (13, 13, none)]
set_option maxHeartbeats 4000000 in
set_option maxRecDepth 100000 in
theorem kX12_marked (l : Launch) (D : va_G) (ca : Nat → ClassId) (za h : Nat → Nat) (hh : sgH 26 h) (f : sg_F) (L : sg_L) (Q : sg_Q) (hI : sgI loM hiM f) (x0 : Int32) (sz : Nat) : Met l yX12_marked gwX12_marked { frames := 47, cells := 0, slots := 0, locals := 1079 } (sgP D vwCl (tyX ca) 26 h (eM ca h) zcM za f L Q sz [.ref (h 0), .int x0]) (sgQi D vwCl 26 h (eM ca h) sz (fun r f1 L1 Q1 => ((sgI loM hiM f1 ∧ sgK WkX12_marked f f1 ∧ L1 = L ∧ Q1 = Q) ∧ True))) 0 0 (sgA 26 h sz) := by
  refine sg_ofWi (cc := cX12_marked) (maxL := 4) RX12 (by decide) rfl rfl (Nat.le_of_ble_eq_true rfl) ?_
  intro p e s m below meth cd Qz ls hx hb hml hown hts hK hZ hP hS hl hret
  have hA := sgY.self (n := 26) (h := h) (sz := s.heap.size)
  have hl : lv_has ls 4 [(0, .ref (h 0)), (1, .int x0)] := hl
  obtain ⟨H, hH⟩ : ∃ z : Heap, z = s.heap := ⟨_, rfl⟩
  obtain ⟨locs, hlo⟩ : ∃ z : List Loc, z = [] := ⟨_, rfl⟩
  have hP : va_P D vwCl (sgw 26 h (eM ca h) f L Q) H := by rw [hH]; exact hP
  have hS : va_S (sgA 26 h s.heap.size) s.heap H locs := by rw [hH, hlo]; exact hS
  suffices hgo : W p l e ({ frames := 47, cells := 0, slots := 0, locals := 1079 }) s m ([.ref (h 0), .int x0] : List Value).toArray below meth cd H locs 0 0 Qz (F0 m 0 ls []) by rw [hH, hlo] at hgo; exact hgo
  clear hH hlo
  have hF : sgK WkX12_marked f f := sgK.rf
  refine lv_aload_n hx hb dX12_marked_0 rfl (lv_at hl 0 rfl) ?_
  refine lv_iload_n hx hb dX12_marked_1 rfl (lv_at hl 1 rfl) ?_
  refine sg_calli (va_runV (As := [.int x0]) (rest := []) ⟨hx, hb, hml, hown, hts⟩ (kX12_bytesIs l D ca za h hh f L Q hI x0 H.size) (cwV 1 hts (gw_V (fun _ h => List.mem_cons_of_mem _ h) mw_685 mw_686 mw_687 mw_619 mw_684) rfl rfl rfl (by decide +kernel) ⟨Nat.le_of_ble_eq_true rfl, Nat.le_of_ble_eq_true rfl⟩) (sg_preV (ci := 12) (C := RX12) (T := TX12) (N := 55) hA hK hP hS hZ 0 (by decide) rfl rfl) rfl rfl hl.1 rfl (lv_room (Nat.le_of_ble_eq_true rfl)) dX12_marked_2 ⟨Nat.le_refl _, Nat.le_refl _⟩) hA hS (fun r_4 f_1 L_2 Q_3 H locs hq hP hS => ?_)
  obtain ⟨⟨ef9, eL9, eQ9⟩, hq⟩ := hq
  rw [ef9, eL9, eQ9] at hP; clear ef9 eL9 eQ9
  rcases hq with ⟨rfl, hq⟩ | hq | ⟨rfl, hq⟩
  · skip
    have q_5 := hq
    refine lv_if_ge (tgt := 14) hx hb dX12_marked_5 (by decide) (fun c => ?_) (fun c => absurd c (by decide))
    refine lv_aload_n hx hb dX12_marked_14 rfl (lv_at hl 0 rfl) ?_
    refine lv_iload_n hx hb dX12_marked_15 rfl (lv_at hl 1 rfl) ?_
    refine sg_calli (va_runV (As := [.int x0]) (rest := []) ⟨hx, hb, hml, hown, hts⟩ (kX12_weekOf l D ca za h hh f L Q hI x0 (by omega) H.size) (cwV 1 hts (gw_V (fun _ h => List.mem_cons_of_mem _ h) mw_752 mw_753 mw_754 mw_619 mw_751) rfl rfl rfl (by decide +kernel) ⟨Nat.le_of_ble_eq_true rfl, Nat.le_of_ble_eq_true rfl⟩) (sg_preV (ci := 12) (C := RX12) (T := TX12) (N := 55) hA hK hP hS hZ 0 (by decide) rfl rfl) rfl rfl hl.1 rfl (lv_room (Nat.le_of_ble_eq_true rfl)) dX12_marked_16 ⟨Nat.le_refl _, Nat.le_refl _⟩) hA hS (fun r_9 f_6 L_7 Q_8 H locs hq hP hS => ?_)
    obtain ⟨⟨hI, hk_f_6, eL9, eQ9⟩, hq⟩ := hq
    rw [eL9, eQ9] at hP; clear eL9 eQ9
    have hF : sgK WkX12_marked f f_6 := sgK.tr hF hk_f_6 (by decide)
    refine lv_istore_n (lv' := [(2, .int r_9), (0, .ref (h 0)), (1, .int x0)]) hx hb dX12_marked_19 rfl hl (by decide) rfl (fun ls hl => ?_)
    refine lv_aload_n hx hb dX12_marked_20 rfl (lv_at hl 1 rfl) ?_
    refine lv_iconst (v := 1) hx hb dX12_marked_21 (by decide) ?_
    refine sg_put (ci := 12) (x := 1) (ty := .boolean) (C := RX12) (T := TX12) (N := 55) hx hb hts (fun w h => List.mem_cons_of_mem _ (gx_12 w h)) tyX12 tyX12_ok nmX12 hown hh hA hK hP hS 0 (by decide) rfl rfl 23 (by decide) (hts _ (List.mem_cons_of_mem _ mw_762)) (fun _ h9 => h9) rfl rfl (by decide +kernel) (by decide) (by decide) (Nat.le_of_ble_eq_true rfl) dX12_marked_22 (fun f_10 H locs ef_10 hP hS => ?_)
    have hI : sgI loM hiM f_10 := by rw [ef_10]; exact sgI.put hI 0 23 (show 0 ≤ (1 : Int32).toInt ∧ (1 : Int32).toInt ≤ 1 from by decide)
    have hF : sgK WkX12_marked f f_10 := sgK.put hF ef_10 (by rfl)
    refine lv_aload_n hx hb dX12_marked_25 rfl (lv_at hl 1 rfl) ?_
    refine lv_iload_n hx hb dX12_marked_26 rfl (lv_at hl 2 rfl) ?_
    refine sg_calli (va_runV (As := [.int x0]) (rest := []) ⟨hx, hb, hml, hown, hts⟩ (kX12_weekOf l D ca za h hh f_10 L Q hI x0 (by omega) H.size) (cwV 1 hts (gw_V (fun _ h => List.mem_cons_of_mem _ h) mw_752 mw_753 mw_754 mw_619 mw_751) rfl rfl rfl (by decide +kernel) ⟨Nat.le_of_ble_eq_true rfl, Nat.le_of_ble_eq_true rfl⟩) (sg_preV (ci := 12) (C := RX12) (T := TX12) (N := 55) hA hK hP hS hZ 0 (by decide) rfl rfl) rfl rfl hl.1 rfl (lv_room (Nat.le_of_ble_eq_true rfl)) dX12_marked_27 ⟨Nat.le_refl _, Nat.le_refl _⟩) hA hS (fun r_14 f_11 L_12 Q_13 H locs hq hP hS => ?_)
    obtain ⟨⟨hI, hk_f_11, eL9, eQ9⟩, hq⟩ := hq
    rw [eL9, eQ9] at hP; clear eL9 eQ9
    have hF : sgK WkX12_marked f f_11 := sgK.tr hF hk_f_11 (by decide)
    refine lv_istore_n (lv' := [(3, .int r_14), (2, .int r_9), (0, .ref (h 0)), (1, .int x0)]) hx hb dX12_marked_30 rfl hl (by decide) rfl (fun ls hl => ?_)
    refine lv_aload_n hx hb dX12_marked_31 rfl (lv_at hl 2 rfl) ?_
    refine lv_iconst (v := 0) hx hb dX12_marked_32 (by decide) ?_
    refine sg_put (ci := 12) (x := 0) (ty := .boolean) (C := RX12) (T := TX12) (N := 55) hx hb hts (fun w h => List.mem_cons_of_mem _ (gx_12 w h)) tyX12 tyX12_ok nmX12 hown hh hA hK hP hS 0 (by decide) rfl rfl 23 (by decide) (hts _ (List.mem_cons_of_mem _ mw_762)) (fun _ h9 => h9) rfl rfl (by decide +kernel) (by decide) (by decide) (Nat.le_of_ble_eq_true rfl) dX12_marked_33 (fun f_15 H locs ef_15 hP hS => ?_)
    have hI : sgI loM hiM f_15 := by rw [ef_15]; exact sgI.put hI 0 23 (show 0 ≤ (0 : Int32).toInt ∧ (0 : Int32).toInt ≤ 1 from by decide)
    have hF : sgK WkX12_marked f f_15 := sgK.put hF ef_15 (by rfl)
    refine lv_iload_n hx hb dX12_marked_36 rfl (lv_at hl 1 rfl) ?_
    refine lv_iload_n hx hb dX12_marked_37 rfl (lv_at hl 0 rfl) ?_
    refine lv_isub hx hb dX12_marked_38 ?_
    refine lv_topi (fun v_16 ev_16 => ?_)
    exact hret _ _ _ _ (v_16) f_15 L Q dX12_marked_39 hP hS ⟨⟨hI, hF, rfl, rfl⟩, trivial⟩
  · skip
    have q_17 := hq
    refine lv_if_ge (tgt := 14) hx hb dX12_marked_5 (by decide) (fun c => ?_) (fun c => ?_)
    · skip
      exfalso; have c_18 : 0 ≤ r_4.toInt := (by have z := bn_le c; have k1 : (0 : Int32).toInt = 0 := (by decide); omega); omega
    · skip
      have c_19 : r_4.toInt < 0 := (by have z := bn_nle c; have k1 : (0 : Int32).toInt = 0 := (by decide); omega)
      refine lv_aload_n hx hb dX12_marked_8 rfl (lv_at hl 0 rfl) ?_
      refine lv_iload_n hx hb dX12_marked_9 rfl (lv_at hl 1 rfl) ?_
      refine sg_calli (va_runV (As := [.int x0]) (rest := []) ⟨hx, hb, hml, hown, hts⟩ (kX12_bytesIs l D ca za h hh f L Q hI x0 H.size) (cwV 1 hts (gw_V (fun _ h => List.mem_cons_of_mem _ h) mw_685 mw_686 mw_687 mw_619 mw_684) rfl rfl rfl (by decide +kernel) ⟨Nat.le_of_ble_eq_true rfl, Nat.le_of_ble_eq_true rfl⟩) (sg_preV (ci := 12) (C := RX12) (T := TX12) (N := 55) hA hK hP hS hZ 0 (by decide) rfl rfl) rfl rfl hl.1 rfl (lv_room (Nat.le_of_ble_eq_true rfl)) dX12_marked_10 ⟨Nat.le_refl _, Nat.le_refl _⟩) hA hS (fun r_23 f_20 L_21 Q_22 H locs hq hP hS => ?_)
      obtain ⟨⟨ef9, eL9, eQ9⟩, hq⟩ := hq
      rw [ef9, eL9, eQ9] at hP; clear ef9 eL9 eQ9
      rcases hq with ⟨rfl, hq⟩ | hq | ⟨rfl, hq⟩
      · skip
        have q_24 := hq
        have k99 : (1 : Int32).toInt = 1 := (by decide)
        exact hret _ _ _ _ (1) f L Q dX12_marked_13 hP hS ⟨⟨hI, hF, rfl, rfl⟩, trivial⟩
      · skip
        have q_25 := hq
        exact hret _ _ _ _ (r_23) f L Q dX12_marked_13 hP hS ⟨⟨hI, hF, rfl, rfl⟩, trivial⟩
      · skip
        have q_26 := hq
        have k99 : ((-1) : Int32).toInt = (-1) := (by decide)
        exact hret _ _ _ _ (-1) f L Q dX12_marked_13 hP hS ⟨⟨hI, hF, rfl, rfl⟩, trivial⟩
  · skip
    have q_27 := hq
    refine lv_if_ge (tgt := 14) hx hb dX12_marked_5 (by decide) (fun c => absurd c (by decide)) (fun c => ?_)
    refine lv_aload_n hx hb dX12_marked_8 rfl (lv_at hl 0 rfl) ?_
    refine lv_iload_n hx hb dX12_marked_9 rfl (lv_at hl 1 rfl) ?_
    refine sg_calli (va_runV (As := [.int x0]) (rest := []) ⟨hx, hb, hml, hown, hts⟩ (kX12_bytesIs l D ca za h hh f L Q hI x0 H.size) (cwV 1 hts (gw_V (fun _ h => List.mem_cons_of_mem _ h) mw_685 mw_686 mw_687 mw_619 mw_684) rfl rfl rfl (by decide +kernel) ⟨Nat.le_of_ble_eq_true rfl, Nat.le_of_ble_eq_true rfl⟩) (sg_preV (ci := 12) (C := RX12) (T := TX12) (N := 55) hA hK hP hS hZ 0 (by decide) rfl rfl) rfl rfl hl.1 rfl (lv_room (Nat.le_of_ble_eq_true rfl)) dX12_marked_10 ⟨Nat.le_refl _, Nat.le_refl _⟩) hA hS (fun r_31 f_28 L_29 Q_30 H locs hq hP hS => ?_)
    obtain ⟨⟨ef9, eL9, eQ9⟩, hq⟩ := hq
    rw [ef9, eL9, eQ9] at hP; clear ef9 eL9 eQ9
    rcases hq with ⟨rfl, hq⟩ | hq | ⟨rfl, hq⟩
    · skip
      have q_32 := hq
      have k99 : (1 : Int32).toInt = 1 := (by decide)
      exact hret _ _ _ _ (1) f L Q dX12_marked_13 hP hS ⟨⟨hI, hF, rfl, rfl⟩, trivial⟩
    · skip
      have q_33 := hq
      exact hret _ _ _ _ (r_31) f L Q dX12_marked_13 hP hS ⟨⟨hI, hF, rfl, rfl⟩, trivial⟩
    · skip
      have q_34 := hq
      have k99 : ((-1) : Int32).toInt = (-1) := (by decide)
      exact hret _ _ _ _ (-1) f L Q dX12_marked_13 hP hS ⟨⟨hI, hF, rfl, rfl⟩, trivial⟩

abbrev WkX12_wilful : List (Nat × Nat × Option Nat) := [(0, 0, some 12), (0, 0, some 13), (0, 0, some 14), (0, 0, some 15), (0, 0, some 16), (0, 0, some 24), (0, 0, some 25), (0, 0, some 29), (0, 0, some 30), (0, 0, some 31), (8, 8, none), (12, 12, none), (13, 13, none)]
set_option maxHeartbeats 4000000 in
set_option maxRecDepth 100000 in
theorem kX12_wilful (l : Launch) (D : va_G) (ca : Nat → ClassId) (za h : Nat → Nat) (hh : sgH 26 h) (f : sg_F) (L : sg_L) (Q : sg_Q) (hI : sgI loM hiM f) (x0 : Int32) (x1 : Int32) (x2 : Int32) (sz : Nat) : Met l yX12_wilful gwX12_wilful { frames := 47, cells := 0, slots := 0, locals := 1079 } (sgP D vwCl (tyX ca) 26 h (eM ca h) zcM za f L Q sz [.ref (h 0), .int x0, .int x1, .int x2]) (sgQi D vwCl 26 h (eM ca h) sz (fun r f1 L1 Q1 => ((sgI loM hiM f1 ∧ sgK WkX12_wilful f f1 ∧ L1 = L ∧ Q1 = Q) ∧ True))) 0 0 (sgA 26 h sz) := by
  refine sg_ofWi (cc := cX12_wilful) (maxL := 6) RX12 (by decide) rfl rfl (Nat.le_of_ble_eq_true rfl) ?_
  intro p e s m below meth cd Qz ls hx hb hml hown hts hK hZ hP hS hl hret
  have hA := sgY.self (n := 26) (h := h) (sz := s.heap.size)
  have hl : lv_has ls 6 [(0, .ref (h 0)), (1, .int x0), (2, .int x1), (3, .int x2)] := hl
  obtain ⟨H, hH⟩ : ∃ z : Heap, z = s.heap := ⟨_, rfl⟩
  obtain ⟨locs, hlo⟩ : ∃ z : List Loc, z = [] := ⟨_, rfl⟩
  have hP : va_P D vwCl (sgw 26 h (eM ca h) f L Q) H := by rw [hH]; exact hP
  have hS : va_S (sgA 26 h s.heap.size) s.heap H locs := by rw [hH, hlo]; exact hS
  suffices hgo : W p l e ({ frames := 47, cells := 0, slots := 0, locals := 1079 }) s m ([.ref (h 0), .int x0, .int x1, .int x2] : List Value).toArray below meth cd H locs 0 0 Qz (F0 m 0 ls []) by rw [hH, hlo] at hgo; exact hgo
  clear hH hlo
  have hF : sgK WkX12_wilful f f := sgK.rf
  refine lv_aload_n hx hb dX12_wilful_0 rfl (lv_at hl 0 rfl) ?_
  refine lv_iload_n hx hb dX12_wilful_1 rfl (lv_at hl 1 rfl) ?_
  refine sg_calli (va_runV (As := [.int x0]) (rest := []) ⟨hx, hb, hml, hown, hts⟩ (kX12_bytesIs l D ca za h hh f L Q hI x0 H.size) (cwV 1 hts (gw_V (fun _ h => List.mem_cons_of_mem _ h) mw_685 mw_686 mw_687 mw_619 mw_684) rfl rfl rfl (by decide +kernel) ⟨Nat.le_of_ble_eq_true rfl, Nat.le_of_ble_eq_true rfl⟩) (sg_preV (ci := 12) (C := RX12) (T := TX12) (N := 55) hA hK hP hS hZ 0 (by decide) rfl rfl) rfl rfl hl.1 rfl (lv_room (Nat.le_of_ble_eq_true rfl)) dX12_wilful_2 ⟨Nat.le_refl _, Nat.le_refl _⟩) hA hS (fun r_4 f_1 L_2 Q_3 H locs hq hP hS => ?_)
  obtain ⟨⟨ef9, eL9, eQ9⟩, hq⟩ := hq
  rw [ef9, eL9, eQ9] at hP; clear ef9 eL9 eQ9
  rcases hq with ⟨rfl, hq⟩ | hq | ⟨rfl, hq⟩
  · skip
    have q_5 := hq
    refine lv_if_lt (tgt := 25) hx hb dX12_wilful_5 (by decide) (fun c => absurd c (by decide)) (fun c => ?_)
    refine lv_aload_n hx hb dX12_wilful_8 rfl (lv_at hl 0 rfl) ?_
    refine lv_iload_n hx hb dX12_wilful_9 rfl (lv_at hl 2 rfl) ?_
    obtain ⟨w_6, ew_6⟩ : ∃ z : Int64, z = Int32.toInt64 x1 := ⟨_, rfl⟩
    have q_7 : w_6.toInt = x1.toInt := by rw [ew_6]; exact Int32.toInt_toInt64 _
    refine lv_i2l (v := w_6) hx hb dX12_wilful_10 ew_6.symm ?_
    obtain ⟨v_8, ev_8⟩ : ∃ z : Int32, z = f 0 6 := ⟨_, rfl⟩
    have q_9 : 0 ≤ v_8.toInt ∧ v_8.toInt ≤ 8 := by rw [ev_8]; exact hI 0 6
    have q_10 : (f 0 6).toInt = v_8.toInt := (congrArg Int32.toInt (show f 0 6 = v_8 from ev_8.symm))
    have q_11 : (f 0 6).toInt = v_8.toInt := (congrArg Int32.toInt (show f 0 6 = v_8 from ev_8.symm))
    refine sg_calli (va_runV (As := [.long w_6]) (rest := []) ⟨hx, hb, hml, hown, hts⟩ (kX12_isSitter l D ca za h hh f L Q hI w_6 H.size) (cwV 1 hts (gw_V (fun _ h => List.mem_cons_of_mem _ h) mw_663 mw_664 mw_665 mw_619 mw_662) rfl rfl rfl (by decide +kernel) ⟨Nat.le_of_ble_eq_true rfl, Nat.le_of_ble_eq_true rfl⟩) (sg_preV (ci := 12) (C := RX12) (T := TX12) (N := 55) hA hK hP hS hZ 0 (by decide) rfl rfl) rfl rfl hl.1 rfl (lv_room (Nat.le_of_ble_eq_true rfl)) dX12_wilful_11 ⟨Nat.le_refl _, Nat.le_refl _⟩) hA hS (fun r_15 f_12 L_13 Q_14 H locs hq hP hS => ?_)
    obtain ⟨⟨ef9, eL9, eQ9⟩, hq⟩ := hq
    rw [ef9, eL9, eQ9] at hP; clear ef9 eL9 eQ9
    rcases hq with ⟨rfl, hq⟩ | ⟨rfl, hq⟩
    · skip
      have q_16 := hq
      refine lv_if_eq (tgt := 25) hx hb dX12_wilful_14 (by decide) (fun c => absurd c (by decide)) (fun c => ?_)
      refine lv_iload_n hx hb dX12_wilful_17 rfl (lv_at hl 3 rfl) ?_
      obtain ⟨w_17, ew_17⟩ : ∃ z : Int64, z = Int32.toInt64 x2 := ⟨_, rfl⟩
      have q_18 : w_17.toInt = x2.toInt := by rw [ew_17]; exact Int32.toInt_toInt64 _
      refine lv_i2l (v := w_17) hx hb dX12_wilful_18 ew_17.symm ?_
      refine sg_calli (va_runS (As := [.long w_17]) (rest := []) ⟨hx, hb, hml, hown, hts⟩ (kX12_isSetting l D ca za h hh f L Q hI w_17 H.size) (va_cwS 1 hts (gw_S (fun _ h => List.mem_cons_of_mem _ h) mw_653 mw_654 mw_619 mw_652) rfl rfl rfl (by decide +kernel) ⟨Nat.le_of_ble_eq_true rfl, Nat.le_of_ble_eq_true rfl⟩) (sg_preS hA hK hP hS hZ) rfl rfl hl.1 rfl (lv_room (Nat.le_of_ble_eq_true rfl)) dX12_wilful_19 ⟨Nat.le_refl _, Nat.le_refl _⟩) hA hS (fun r_22 f_19 L_20 Q_21 H locs hq hP hS => ?_)
      obtain ⟨⟨ef9, eL9, eQ9⟩, hq⟩ := hq
      rw [ef9, eL9, eQ9] at hP; clear ef9 eL9 eQ9
      rcases hq with ⟨rfl, hq⟩ | ⟨rfl, hq⟩
      · skip
        have q_23 := hq
        refine lv_if_ne (tgt := 29) hx hb dX12_wilful_22 (by decide) (fun c => ?_) (fun c => absurd c (by decide))
        refine lv_aload_n hx hb dX12_wilful_29 rfl (lv_at hl 0 rfl) ?_
        refine lv_iload_n hx hb dX12_wilful_30 rfl (lv_at hl 1 rfl) ?_
        refine sg_calli (va_runV (As := [.int x0]) (rest := []) ⟨hx, hb, hml, hown, hts⟩ (kX12_weekOf l D ca za h hh f L Q hI x0 (by omega) H.size) (cwV 1 hts (gw_V (fun _ h => List.mem_cons_of_mem _ h) mw_752 mw_753 mw_754 mw_619 mw_751) rfl rfl rfl (by decide +kernel) ⟨Nat.le_of_ble_eq_true rfl, Nat.le_of_ble_eq_true rfl⟩) (sg_preV (ci := 12) (C := RX12) (T := TX12) (N := 55) hA hK hP hS hZ 0 (by decide) rfl rfl) rfl rfl hl.1 rfl (lv_room (Nat.le_of_ble_eq_true rfl)) dX12_wilful_31 ⟨Nat.le_refl _, Nat.le_refl _⟩) hA hS (fun r_27 f_24 L_25 Q_26 H locs hq hP hS => ?_)
        obtain ⟨⟨hI, hk_f_24, eL9, eQ9⟩, hq⟩ := hq
        rw [eL9, eQ9] at hP; clear eL9 eQ9
        have hF : sgK WkX12_wilful f f_24 := sgK.tr hF hk_f_24 (by decide)
        refine lv_istore (lv' := [(4, .int r_27), (0, .ref (h 0)), (1, .int x0), (2, .int x1), (3, .int x2)]) hx hb dX12_wilful_34 hl (by decide) rfl (fun ls hl => ?_)
        refine lv_aload_n hx hb dX12_wilful_36 rfl (lv_at hl 1 rfl) ?_
        refine lv_iload_n hx hb dX12_wilful_37 rfl (lv_at hl 3 rfl) ?_
        refine sg_put (ci := 12) (x := x1) (ty := .int) (C := RX12) (T := TX12) (N := 55) hx hb hts (fun w h => List.mem_cons_of_mem _ (gx_12 w h)) tyX12 tyX12_ok nmX12 hown hh hA hK hP hS 0 (by decide) rfl rfl 24 (by decide) (hts _ (List.mem_cons_of_mem _ mw_760)) (fun _ h9 => h9) rfl rfl (by decide +kernel) rfl rfl (Nat.le_of_ble_eq_true rfl) dX12_wilful_38 (fun f_28 H locs ef_28 hP hS => ?_)
        have hI : sgI loM hiM f_28 := by rw [ef_28]; exact sgI.put hI 0 24 (show (-1) ≤ (x1 : Int32).toInt ∧ (x1 : Int32).toInt ≤ 7 from by omega)
        have hF : sgK WkX12_wilful f f_28 := sgK.put hF ef_28 (by rfl)
        refine lv_aload_n hx hb dX12_wilful_41 rfl (lv_at hl 1 rfl) ?_
        refine lv_iload_n hx hb dX12_wilful_42 rfl (lv_at hl 4 rfl) ?_
        refine sg_put (ci := 12) (x := x2) (ty := .int) (C := RX12) (T := TX12) (N := 55) hx hb hts (fun w h => List.mem_cons_of_mem _ (gx_12 w h)) tyX12 tyX12_ok nmX12 hown hh hA hK hP hS 0 (by decide) rfl rfl 25 (by decide) (hts _ (List.mem_cons_of_mem _ mw_761)) (fun _ h9 => h9) rfl rfl (by decide +kernel) rfl rfl (Nat.le_of_ble_eq_true rfl) dX12_wilful_43 (fun f_29 H locs ef_29 hP hS => ?_)
        have hI : sgI loM hiM f_29 := by rw [ef_29]; exact sgI.put hI 0 25 (show 0 ≤ (x2 : Int32).toInt ∧ (x2 : Int32).toInt ≤ 60 from by omega)
        have hF : sgK WkX12_wilful f f_29 := sgK.put hF ef_29 (by rfl)
        refine lv_aload_n hx hb dX12_wilful_46 rfl (lv_at hl 1 rfl) ?_
        refine lv_iload_n hx hb dX12_wilful_47 rfl (lv_at hl 2 rfl) ?_
        refine sg_calli (va_runV (As := [.int x0]) (rest := []) ⟨hx, hb, hml, hown, hts⟩ (kX12_weekOf l D ca za h hh f_29 L Q hI x0 (by omega) H.size) (cwV 1 hts (gw_V (fun _ h => List.mem_cons_of_mem _ h) mw_752 mw_753 mw_754 mw_619 mw_751) rfl rfl rfl (by decide +kernel) ⟨Nat.le_of_ble_eq_true rfl, Nat.le_of_ble_eq_true rfl⟩) (sg_preV (ci := 12) (C := RX12) (T := TX12) (N := 55) hA hK hP hS hZ 0 (by decide) rfl rfl) rfl rfl hl.1 rfl (lv_room (Nat.le_of_ble_eq_true rfl)) dX12_wilful_48 ⟨Nat.le_refl _, Nat.le_refl _⟩) hA hS (fun r_33 f_30 L_31 Q_32 H locs hq hP hS => ?_)
        obtain ⟨⟨hI, hk_f_30, eL9, eQ9⟩, hq⟩ := hq
        rw [eL9, eQ9] at hP; clear eL9 eQ9
        have hF : sgK WkX12_wilful f f_30 := sgK.tr hF hk_f_30 (by decide)
        refine lv_istore (lv' := [(5, .int r_33), (4, .int r_27), (0, .ref (h 0)), (1, .int x0), (2, .int x1), (3, .int x2)]) hx hb dX12_wilful_51 hl (by decide) rfl (fun ls hl => ?_)
        refine lv_aload_n hx hb dX12_wilful_53 rfl (lv_at hl 2 rfl) ?_
        refine lv_iconst (v := (-1)) hx hb dX12_wilful_54 (by decide) ?_
        refine sg_put (ci := 12) (x := (-1)) (ty := .int) (C := RX12) (T := TX12) (N := 55) hx hb hts (fun w h => List.mem_cons_of_mem _ (gx_12 w h)) tyX12 tyX12_ok nmX12 hown hh hA hK hP hS 0 (by decide) rfl rfl 24 (by decide) (hts _ (List.mem_cons_of_mem _ mw_760)) (fun _ h9 => h9) rfl rfl (by decide +kernel) rfl rfl (Nat.le_of_ble_eq_true rfl) dX12_wilful_55 (fun f_34 H locs ef_34 hP hS => ?_)
        have hI : sgI loM hiM f_34 := by rw [ef_34]; exact sgI.put hI 0 24 (show (-1) ≤ ((-1) : Int32).toInt ∧ ((-1) : Int32).toInt ≤ 7 from by decide)
        have hF : sgK WkX12_wilful f f_34 := sgK.put hF ef_34 (by rfl)
        refine lv_iload hx hb dX12_wilful_58 (lv_at hl 0 rfl) ?_
        refine lv_iload hx hb dX12_wilful_60 (lv_at hl 1 rfl) ?_
        refine lv_isub hx hb dX12_wilful_62 ?_
        refine lv_topi (fun v_35 ev_35 => ?_)
        exact hret _ _ _ _ (v_35) f_34 L Q dX12_wilful_63 hP hS ⟨⟨hI, hF, rfl, rfl⟩, trivial⟩
      · skip
        have q_36 := hq
        refine lv_if_ne (tgt := 29) hx hb dX12_wilful_22 (by decide) (fun c => absurd c (by decide)) (fun c => ?_)
        refine lv_ldcw (v := (-2000000000)) hx hb hown (hts _ (List.mem_cons_of_mem _ mw_694)) dX12_wilful_25 ?_
        have k99 : ((-2000000000) : Int32).toInt = (-2000000000) := (by decide)
        exact hret _ _ _ _ (-2000000000) f L Q dX12_wilful_28 hP hS ⟨⟨hI, hF, rfl, rfl⟩, trivial⟩
    · skip
      have q_37 := hq
      refine lv_if_eq (tgt := 25) hx hb dX12_wilful_14 (by decide) (fun c => ?_) (fun c => absurd c (by decide))
      refine lv_ldcw (v := (-2000000000)) hx hb hown (hts _ (List.mem_cons_of_mem _ mw_694)) dX12_wilful_25 ?_
      have k99 : ((-2000000000) : Int32).toInt = (-2000000000) := (by decide)
      exact hret _ _ _ _ (-2000000000) f L Q dX12_wilful_28 hP hS ⟨⟨hI, hF, rfl, rfl⟩, trivial⟩
  · skip
    have q_38 := hq
    refine lv_if_lt (tgt := 25) hx hb dX12_wilful_5 (by decide) (fun c => ?_) (fun c => ?_)
    · skip
      have c_39 : r_4.toInt < 0 := (by have z := bn_lt c; have k1 : (0 : Int32).toInt = 0 := (by decide); omega)
      refine lv_ldcw (v := (-2000000000)) hx hb hown (hts _ (List.mem_cons_of_mem _ mw_694)) dX12_wilful_25 ?_
      have k99 : ((-2000000000) : Int32).toInt = (-2000000000) := (by decide)
      exact hret _ _ _ _ (-2000000000) f L Q dX12_wilful_28 hP hS ⟨⟨hI, hF, rfl, rfl⟩, trivial⟩
    · skip
      exfalso; have c_40 : 0 ≤ r_4.toInt := (by have z := bn_nlt c; have k1 : (0 : Int32).toInt = 0 := (by decide); omega); omega
  · skip
    have q_41 := hq
    refine lv_if_lt (tgt := 25) hx hb dX12_wilful_5 (by decide) (fun c => ?_) (fun c => absurd c (by decide))
    refine lv_ldcw (v := (-2000000000)) hx hb hown (hts _ (List.mem_cons_of_mem _ mw_694)) dX12_wilful_25 ?_
    have k99 : ((-2000000000) : Int32).toInt = (-2000000000) := (by decide)
    exact hret _ _ _ _ (-2000000000) f L Q dX12_wilful_28 hP hS ⟨⟨hI, hF, rfl, rfl⟩, trivial⟩

set_option maxHeartbeats 4000000 in
set_option maxRecDepth 100000 in
theorem kX12_sitsSet (l : Launch) (D : va_G) (ca : Nat → ClassId) (za h : Nat → Nat) (hh : sgH 26 h) (f : sg_F) (L : sg_L) (Q : sg_Q) (hI : sgI loM hiM f) (x0 : Int32) (b0 : 0 ≤ x0.toInt ∧ x0.toInt ≤ 5) (sz : Nat) : Met l yX12_sitsSet gwX12_sitsSet { frames := 3, cells := 0, slots := 0, locals := 71 } (sgP D vwCl (tyX ca) 26 h (eM ca h) zcM za f L Q sz [.ref (h 0), .int x0]) (sgQi D vwCl 26 h (eM ca h) sz (fun r f1 L1 Q1 => ((f1 = f ∧ L1 = L ∧ Q1 = Q) ∧ (0 ≤ r.toInt ∧ r.toInt ≤ 255)))) 0 0 (sgA 26 h sz) := by
  refine sg_ofWi (cc := cX12_sitsSet) (maxL := 4) RX12 (by decide) rfl rfl (Nat.le_of_ble_eq_true rfl) ?_
  intro p e s m below meth cd Qz ls hx hb hml hown hts hK hZ hP hS hl hret
  have hA := sgY.self (n := 26) (h := h) (sz := s.heap.size)
  have hl : lv_has ls 4 [(0, .ref (h 0)), (1, .int x0)] := hl
  obtain ⟨H, hH⟩ : ∃ z : Heap, z = s.heap := ⟨_, rfl⟩
  obtain ⟨locs, hlo⟩ : ∃ z : List Loc, z = [] := ⟨_, rfl⟩
  have hP : va_P D vwCl (sgw 26 h (eM ca h) f L Q) H := by rw [hH]; exact hP
  have hS : va_S (sgA 26 h s.heap.size) s.heap H locs := by rw [hH, hlo]; exact hS
  suffices hgo : W p l e ({ frames := 3, cells := 0, slots := 0, locals := 71 }) s m ([.ref (h 0), .int x0] : List Value).toArray below meth cd H locs 0 0 Qz (F0 m 0 ls []) by rw [hH, hlo] at hgo; exact hgo
  clear hH hlo
  have loop_4 : ∀ (n_4 : Nat) (y2_4 : Int32) (y3_4 : Int32) (H : Heap) (locs : List Loc) (ls : Array Slot), 21 - y3_4.toInt < (n_4 : Int) → 0 ≤ y2_4.toInt ∧ y2_4.toInt ≤ 255 → 0 ≤ y3_4.toInt ∧ y3_4.toInt ≤ 21 → va_P D vwCl (sgw 26 h (eM ca h) f L Q) H → va_S (sgA 26 h s.heap.size) s.heap H locs → lv_has ls 4 [(0, .ref (h 0)), (1, .int x0), (2, .int y2_4), (3, .int y3_4)] → W p l e ({ frames := 3, cells := 0, slots := 0, locals := 71 }) s m ([.ref (h 0), .int x0] : List Value).toArray below meth cd H locs 0 0 Qz (F0 m 4 ls []) := by
    intro n_4
    induction n_4 with
    | zero => intro y2_4 y3_4 H locs ls hm_4 hy0_4 hy1_4 hP hS hl; exact absurd hm_4 (by omega)
    | succ n_4 ih_4 =>
      intro y2_4 y3_4 H locs ls hm_4 hy0_4 hy1_4 hP hS hl
      refine lv_iload_n hx hb dX12_sitsSet_4 rfl (lv_at hl 3 rfl) ?_
      refine lv_aload_n hx hb dX12_sitsSet_5 rfl (lv_at hl 0 rfl) ?_
      refine lv_iload_n hx hb dX12_sitsSet_6 rfl (lv_at hl 1 rfl) ?_
      refine sg_calli (va_runV (As := [.int x0]) (rest := [.int y3_4]) ⟨hx, hb, hml, hown, hts⟩ (kX12_shiftsOf l D ca za h hh f L Q hI x0 (by omega) H.size) (cwV 1 hts (gw_V (fun _ h => List.mem_cons_of_mem _ h) mw_714 mw_715 mw_716 mw_619 mw_713) rfl rfl rfl (by decide +kernel) ⟨Nat.le_of_ble_eq_true rfl, Nat.le_of_ble_eq_true rfl⟩) (sg_preV (ci := 12) (C := RX12) (T := TX12) (N := 55) hA hK hP hS hZ 0 (by decide) rfl rfl) rfl rfl hl.1 rfl (lv_room (Nat.le_of_ble_eq_true rfl)) dX12_sitsSet_7 ⟨Nat.le_refl _, Nat.le_refl _⟩) hA hS (fun r_4 f_1 L_2 Q_3 H locs hq hP hS => ?_)
      obtain ⟨⟨ef9, eL9, eQ9⟩, hq⟩ := hq
      rw [ef9, eL9, eQ9] at hP; clear ef9 eL9 eQ9
      refine lv_icmp_ge (tgt := 43) hx hb dX12_sitsSet_10 (by decide) (fun c => ?_) (fun c => ?_)
      · skip
        have c_5 : r_4.toInt ≤ y3_4.toInt := (by have z := bn_le c; omega)
        refine lv_iload_n hx hb dX12_sitsSet_43 rfl (lv_at hl 2 rfl) ?_
        exact hret _ _ _ _ (y2_4) f L Q dX12_sitsSet_44 hP hS ⟨⟨rfl, rfl, rfl⟩, (by omega)⟩
      · skip
        have c_6 : y3_4.toInt < r_4.toInt := (by have z := bn_nle c; omega)
        refine lv_iload_n hx hb dX12_sitsSet_13 rfl (lv_at hl 2 rfl) ?_
        refine lv_aload_n hx hb dX12_sitsSet_14 rfl (lv_at hl 0 rfl) ?_
        refine lv_iload_n hx hb dX12_sitsSet_15 rfl (lv_at hl 1 rfl) ?_
        refine lv_iload_n hx hb dX12_sitsSet_16 rfl (lv_at hl 3 rfl) ?_
        refine sg_calli (va_runV (As := [.int x0, .int y3_4]) (rest := [.int y2_4]) ⟨hx, hb, hml, hown, hts⟩ (kX12_whoSits l D ca za h hh f L Q hI x0 y3_4 (by omega) (by omega) H.size) (cwV 2 hts (gw_V (fun _ h => List.mem_cons_of_mem _ h) mw_725 mw_726 mw_727 mw_619 mw_724) rfl rfl rfl (by decide +kernel) ⟨Nat.le_of_ble_eq_true rfl, Nat.le_of_ble_eq_true rfl⟩) (sg_preV (ci := 12) (C := RX12) (T := TX12) (N := 55) hA hK hP hS hZ 0 (by decide) rfl rfl) rfl rfl hl.1 rfl (lv_room (Nat.le_of_ble_eq_true rfl)) dX12_sitsSet_17 ⟨Nat.le_refl _, Nat.le_refl _⟩) hA hS (fun r_10 f_7 L_8 Q_9 H locs hq hP hS => ?_)
        obtain ⟨⟨ef9, eL9, eQ9⟩, hq, u_11⟩ := hq
        rw [ef9, eL9, eQ9] at hP; clear ef9 eL9 eQ9
        refine lv_if_lt (tgt := 34) hx hb dX12_sitsSet_20 (by decide) (fun c => ?_) (fun c => ?_)
        · skip
          have c_12 : r_10.toInt < 0 := (by have z := bn_lt c; have k1 : (0 : Int32).toInt = 0 := (by decide); omega)
          refine lv_iconst (v := 0) hx hb dX12_sitsSet_34 (by decide) ?_
          refine lv_ior hx hb dX12_sitsSet_35 ?_
          refine lv_topi (fun v_14 ev_14 => ?_)
          have q_15 : 0 ≤ v_14.toInt ∧ v_14.toInt ≤ 255 := by rw [ev_14]; have k1 : (0 : Int32).toInt = 0 := (by decide); exact bn_or255 (x := y2_4) (y := 0) (by omega) (by omega) (by omega) (by omega)
          refine lv_istore_n (lv' := [(2, .int v_14), (0, .ref (h 0)), (1, .int x0), (3, .int y3_4)]) hx hb dX12_sitsSet_36 rfl hl (by decide) rfl (fun ls hl => ?_)
          obtain ⟨v_16, ev_16⟩ : ∃ z : Int32, z = y3_4 + 1 := ⟨_, rfl⟩
          have q_17 : v_16.toInt = y3_4.toInt + 1 := by rw [ev_16]; exact (bn_addc y3_4 1 (by decide) (by omega) (by omega))
          refine lv_iinc (v := v_16) (lv' := [(3, .int v_16), (2, .int v_14), (0, .ref (h 0)), (1, .int x0)]) hx hb dX12_sitsSet_37 hl (k := 3) rfl (by rw [ev_16]; rfl) (by decide) rfl (fun ls hl => ?_)
          refine lv_goto (tgt := 4) hx hb dX12_sitsSet_40 (by decide) ?_
          exact ih_4 v_14 v_16 _ _ _ (by omega) (by omega) (by omega) hP hS (lv_sub hl [2, 3, 1, 0] rfl)
        · skip
          have c_13 : 0 ≤ r_10.toInt := (by have z := bn_nlt c; have k1 : (0 : Int32).toInt = 0 := (by decide); omega)
          refine lv_iconst (v := 1) hx hb dX12_sitsSet_23 (by decide) ?_
          refine lv_aload_n hx hb dX12_sitsSet_24 rfl (lv_at hl 0 rfl) ?_
          refine lv_iload_n hx hb dX12_sitsSet_25 rfl (lv_at hl 1 rfl) ?_
          refine lv_iload_n hx hb dX12_sitsSet_26 rfl (lv_at hl 3 rfl) ?_
          refine sg_calli (va_runV (As := [.int x0, .int y3_4]) (rest := [.int 1, .int y2_4]) ⟨hx, hb, hml, hown, hts⟩ (kX12_whoSits l D ca za h hh f L Q hI x0 y3_4 (by omega) (by omega) H.size) (cwV 2 hts (gw_V (fun _ h => List.mem_cons_of_mem _ h) mw_725 mw_726 mw_727 mw_619 mw_724) rfl rfl rfl (by decide +kernel) ⟨Nat.le_of_ble_eq_true rfl, Nat.le_of_ble_eq_true rfl⟩) (sg_preV (ci := 12) (C := RX12) (T := TX12) (N := 55) hA hK hP hS hZ 0 (by decide) rfl rfl) rfl rfl hl.1 rfl (lv_room (Nat.le_of_ble_eq_true rfl)) dX12_sitsSet_27 ⟨Nat.le_refl _, Nat.le_refl _⟩) hA hS (fun r_21 f_18 L_19 Q_20 H locs hq hP hS => ?_)
          obtain ⟨⟨ef9, eL9, eQ9⟩, hq, u_22⟩ := hq
          rw [ef9, eL9, eQ9] at hP; clear ef9 eL9 eQ9
          rw [show r_21 = r_10 from u_22.trans u_11.symm]
          refine lv_ishl hx hb dX12_sitsSet_30 ?_
          refine lv_topi (fun v_23 ev_23 => ?_)
          have q_24 : 1 ≤ v_23.toInt ∧ v_23.toInt ≤ 128 := by rw [ev_23]; have z := bn_shl1 (y := r_10) (by omega) (by omega); omega
          refine lv_goto (tgt := 35) hx hb dX12_sitsSet_31 (by decide) ?_
          refine lv_ior hx hb dX12_sitsSet_35 ?_
          refine lv_topi (fun v_25 ev_25 => ?_)
          have q_26 : 0 ≤ v_25.toInt ∧ v_25.toInt ≤ 255 := by rw [ev_25]; exact bn_or255 (x := y2_4) (y := v_23) (by omega) (by omega) (by omega) (by omega)
          refine lv_istore_n (lv' := [(2, .int v_25), (0, .ref (h 0)), (1, .int x0), (3, .int y3_4)]) hx hb dX12_sitsSet_36 rfl hl (by decide) rfl (fun ls hl => ?_)
          obtain ⟨v_27, ev_27⟩ : ∃ z : Int32, z = y3_4 + 1 := ⟨_, rfl⟩
          have q_28 : v_27.toInt = y3_4.toInt + 1 := by rw [ev_27]; exact (bn_addc y3_4 1 (by decide) (by omega) (by omega))
          refine lv_iinc (v := v_27) (lv' := [(3, .int v_27), (2, .int v_25), (0, .ref (h 0)), (1, .int x0)]) hx hb dX12_sitsSet_37 hl (k := 3) rfl (by rw [ev_27]; rfl) (by decide) rfl (fun ls hl => ?_)
          refine lv_goto (tgt := 4) hx hb dX12_sitsSet_40 (by decide) ?_
          exact ih_4 v_25 v_27 _ _ _ (by omega) (by omega) (by omega) hP hS (lv_sub hl [2, 3, 1, 0] rfl)
  refine lv_iconst (v := 0) hx hb dX12_sitsSet_0 (by decide) ?_
  refine lv_istore_n (lv' := [(2, .int 0), (0, .ref (h 0)), (1, .int x0)]) hx hb dX12_sitsSet_1 rfl hl (by decide) rfl (fun ls hl => ?_)
  refine lv_iconst (v := 0) hx hb dX12_sitsSet_2 (by decide) ?_
  refine lv_istore_n (lv' := [(3, .int 0), (2, .int 0), (0, .ref (h 0)), (1, .int x0)]) hx hb dX12_sitsSet_3 rfl hl (by decide) rfl (fun ls hl => ?_)
  exact loop_4 22 0 0 _ _ _ (by have kc0 : (0 : Int32).toInt = 0 := (by decide); have kc1 : (0 : Int32).toInt = 0 := (by decide); omega) (by decide) (by decide) hP hS (lv_sub hl [2, 3, 1, 0] rfl)

set_option maxHeartbeats 4000000 in
set_option maxRecDepth 100000 in
theorem kX12_chairLoss (l : Launch) (D : va_G) (ca : Nat → ClassId) (za h : Nat → Nat) (hh : sgH 26 h) (f : sg_F) (L : sg_L) (Q : sg_Q) (hI : sgI loM hiM f) (x0 : Int32) (x1 : Int32) (b0 : 0 ≤ x0.toInt ∧ x0.toInt ≤ 255) (b1 : 0 ≤ x1.toInt ∧ x1.toInt ≤ 7) (sz : Nat) : Met l yX12_chairLoss gwX12_chairLoss { frames := 1, cells := 0, slots := 0, locals := 21 } (sgP D vwCl (tyX ca) 26 h (eM ca h) zcM za f L Q sz [.ref (h 0), .int x0, .int x1]) (sgQi D vwCl 26 h (eM ca h) sz (fun r f1 L1 Q1 => ((f1 = f ∧ L1 = L ∧ Q1 = Q) ∧ True))) 0 0 (sgA 26 h sz) := by
  refine sg_ofWi (cc := cX12_chairLoss) (maxL := 7) RX12 (by decide) rfl rfl (Nat.le_of_ble_eq_true rfl) ?_
  intro p e s m below meth cd Qz ls hx hb hml hown hts hK hZ hP hS hl hret
  have hA := sgY.self (n := 26) (h := h) (sz := s.heap.size)
  have hl : lv_has ls 7 [(0, .ref (h 0)), (1, .int x0), (2, .int x1)] := hl
  obtain ⟨H, hH⟩ : ∃ z : Heap, z = s.heap := ⟨_, rfl⟩
  obtain ⟨locs, hlo⟩ : ∃ z : List Loc, z = [] := ⟨_, rfl⟩
  have hP : va_P D vwCl (sgw 26 h (eM ca h) f L Q) H := by rw [hH]; exact hP
  have hS : va_S (sgA 26 h s.heap.size) s.heap H locs := by rw [hH, hlo]; exact hS
  suffices hgo : W p l e ({ frames := 1, cells := 0, slots := 0, locals := 21 }) s m ([.ref (h 0), .int x0, .int x1] : List Value).toArray below meth cd H locs 0 0 Qz (F0 m 0 ls []) by rw [hH, hlo] at hgo; exact hgo
  clear hH hlo
  have loop_5 : ∀ (n_5 : Nat) (y3_5 : Int32) (y4_5 : Int32) (H : Heap) (locs : List Loc) (ls : Array Slot), 61 - y4_5.toInt < (n_5 : Int) → 0 ≤ y4_5.toInt ∧ y4_5.toInt ≤ 61 → va_P D vwCl (sgw 26 h (eM ca h) f L Q) H → va_S (sgA 26 h s.heap.size) s.heap H locs → lv_has ls 7 [(0, .ref (h 0)), (1, .int x0), (2, .int x1), (3, .int y3_5), (4, .int y4_5)] → W p l e ({ frames := 1, cells := 0, slots := 0, locals := 21 }) s m ([.ref (h 0), .int x0, .int x1] : List Value).toArray below meth cd H locs 0 0 Qz (F0 m 5 ls []) := by
    intro n_5
    induction n_5 with
    | zero => intro y3_5 y4_5 H locs ls hm_5 hy0_5 hP hS hl; exact absurd hm_5 (by omega)
    | succ n_5 ih_5 =>
      have blk_85 : ∀ (y4_85 : Int32) (y5_85 : Int32) (H : Heap) (locs : List Loc) (ls : Array Slot), 61 - y4_85.toInt < ((n_5 + 1 : Nat) : Int) → 0 ≤ y4_85.toInt ∧ y4_85.toInt ≤ 60 → va_P D vwCl (sgw 26 h (eM ca h) f L Q) H → va_S (sgA 26 h s.heap.size) s.heap H locs → lv_has ls 7 [(0, .ref (h 0)), (1, .int x0), (2, .int x1), (4, .int y4_85), (5, .int y5_85)] → W p l e ({ frames := 1, cells := 0, slots := 0, locals := 21 }) s m ([.ref (h 0), .int x0, .int x1] : List Value).toArray below meth cd H locs 0 0 Qz (F0 m 85 ls []) := by
        intro y4_85 y5_85 H locs ls hm_5 hy0_85 hP hS hl
        refine lv_iload hx hb dX12_chairLoss_85 (lv_at hl 4 rfl) ?_
        refine lv_goto (tgt := 91) hx hb dX12_chairLoss_87 (by decide) ?_
        refine lv_istore_n (lv' := [(3, .int y5_85), (0, .ref (h 0)), (1, .int x0), (2, .int x1), (4, .int y4_85), (5, .int y5_85)]) hx hb dX12_chairLoss_91 rfl hl (by decide) rfl (fun ls hl => ?_)
        obtain ⟨v_1, ev_1⟩ : ∃ z : Int32, z = y4_85 + 1 := ⟨_, rfl⟩
        have q_2 : v_1.toInt = y4_85.toInt + 1 := by rw [ev_1]; exact (bn_addc y4_85 1 (by decide) (by omega) (by omega))
        refine lv_iinc (v := v_1) (lv' := [(4, .int v_1), (3, .int y5_85), (0, .ref (h 0)), (1, .int x0), (2, .int x1), (5, .int y5_85)]) hx hb dX12_chairLoss_92 hl (k := 4) rfl (by rw [ev_1]; rfl) (by decide) rfl (fun ls hl => ?_)
        refine lv_goto (tgt := 5) hx hb dX12_chairLoss_95 (by decide) ?_
        exact ih_5 y5_85 v_1 _ _ _ (by omega) (by omega) hP hS (lv_sub hl [2, 3, 4, 1, 0] rfl)
      have loop_18 : ∀ (n_18 : Nat) (y3_18 : Int32) (y4_18 : Int32) (y5_18 : Int32) (y6_18 : Int32) (H : Heap) (locs : List Loc) (ls : Array Slot), 8 - y6_18.toInt < (n_18 : Int) → 61 - y4_18.toInt < ((n_5 + 1 : Nat) : Int) → 0 ≤ y4_18.toInt ∧ y4_18.toInt ≤ 60 → 0 ≤ y6_18.toInt ∧ y6_18.toInt ≤ 8 → va_P D vwCl (sgw 26 h (eM ca h) f L Q) H → va_S (sgA 26 h s.heap.size) s.heap H locs → lv_has ls 7 [(0, .ref (h 0)), (1, .int x0), (2, .int x1), (3, .int y3_18), (4, .int y4_18), (5, .int y5_18), (6, .int y6_18)] → W p l e ({ frames := 1, cells := 0, slots := 0, locals := 21 }) s m ([.ref (h 0), .int x0, .int x1] : List Value).toArray below meth cd H locs 0 0 Qz (F0 m 18 ls []) := by
        intro n_18
        induction n_18 with
        | zero => intro y3_18 y4_18 y5_18 y6_18 H locs ls hm_18 hm_5 hy0_18 hy1_18 hP hS hl; exact absurd hm_18 (by omega)
        | succ n_18 ih_18 =>
          intro y3_18 y4_18 y5_18 y6_18 H locs ls hm_18 hm_5 hy0_18 hy1_18 hP hS hl
          refine lv_iload hx hb dX12_chairLoss_18 (lv_at hl 6 rfl) ?_
          refine lv_aload_n hx hb dX12_chairLoss_20 rfl (lv_at hl 0 rfl) ?_
          refine sg_get (ci := 12) (v := .int (f 0 6)) (C := RX12) (T := TX12) (N := 55) hx hb hts (fun w h => List.mem_cons_of_mem _ (gx_12 w h)) hown hK hP 0 (by decide) rfl rfl 6 (by decide) (hts _ (List.mem_cons_of_mem _ mw_622)) (fun _ h9 => h9) rfl dX12_chairLoss_21 ?_
          refine lv_topi (fun v_3 ev_3 => ?_)
          have q_4 : 0 ≤ v_3.toInt ∧ v_3.toInt ≤ 8 := by rw [ev_3]; exact hI 0 6
          refine lv_icmp_ge (tgt := 75) hx hb dX12_chairLoss_24 (by decide) (fun c => ?_) (fun c => ?_)
          · skip
            have c_5 : v_3.toInt ≤ y6_18.toInt := (by have z := bn_le c; omega)
            refine lv_iload_n hx hb dX12_chairLoss_75 rfl (lv_at hl 3 rfl) ?_
            refine lv_if_lt (tgt := 85) hx hb dX12_chairLoss_76 (by decide) (fun c => ?_) (fun c => ?_)
            · skip
              have c_7 : y3_18.toInt < 0 := (by have z := bn_lt c; have k1 : (0 : Int32).toInt = 0 := (by decide); omega)
              exact blk_85 y4_18 y5_18 _ _ _ (by omega) (by omega) hP hS (lv_sub hl [0, 1, 2, 4, 5] rfl)
            · skip
              have c_8 : 0 ≤ y3_18.toInt := (by have z := bn_nlt c; have k1 : (0 : Int32).toInt = 0 := (by decide); omega)
              refine lv_iload hx hb dX12_chairLoss_79 (lv_at hl 5 rfl) ?_
              refine lv_iload_n hx hb dX12_chairLoss_81 rfl (lv_at hl 3 rfl) ?_
              refine lv_icmp_ge (tgt := 90) hx hb dX12_chairLoss_82 (by decide) (fun c => ?_) (fun c => ?_)
              · skip
                have c_9 : y3_18.toInt ≤ y5_18.toInt := (by have z := bn_le c; omega)
                refine lv_iload_n hx hb dX12_chairLoss_90 rfl (lv_at hl 3 rfl) ?_
                refine lv_istore_n (lv' := [(3, .int y3_18), (0, .ref (h 0)), (1, .int x0), (2, .int x1), (4, .int y4_18), (5, .int y5_18), (6, .int y6_18)]) hx hb dX12_chairLoss_91 rfl hl (by decide) rfl (fun ls hl => ?_)
                obtain ⟨v_11, ev_11⟩ : ∃ z : Int32, z = y4_18 + 1 := ⟨_, rfl⟩
                have q_12 : v_11.toInt = y4_18.toInt + 1 := by rw [ev_11]; exact (bn_addc y4_18 1 (by decide) (by omega) (by omega))
                refine lv_iinc (v := v_11) (lv' := [(4, .int v_11), (3, .int y3_18), (0, .ref (h 0)), (1, .int x0), (2, .int x1), (5, .int y5_18), (6, .int y6_18)]) hx hb dX12_chairLoss_92 hl (k := 4) rfl (by rw [ev_11]; rfl) (by decide) rfl (fun ls hl => ?_)
                refine lv_goto (tgt := 5) hx hb dX12_chairLoss_95 (by decide) ?_
                exact ih_5 y3_18 v_11 _ _ _ (by omega) (by omega) hP hS (lv_sub hl [2, 3, 4, 1, 0] rfl)
              · skip
                have c_10 : y5_18.toInt < y3_18.toInt := (by have z := bn_nle c; omega)
                exact blk_85 y4_18 y5_18 _ _ _ (by omega) (by omega) hP hS (lv_sub hl [0, 1, 2, 4, 5] rfl)
          · skip
            have c_6 : y6_18.toInt < v_3.toInt := (by have z := bn_nle c; omega)
            refine lv_iload hx hb dX12_chairLoss_27 (lv_at hl 5 rfl) ?_
            refine lv_iload_n hx hb dX12_chairLoss_29 rfl (lv_at hl 1 rfl) ?_
            refine lv_iload hx hb dX12_chairLoss_30 (lv_at hl 6 rfl) ?_
            refine sg_calli (va_runS (As := [.int x0, .int y6_18]) (rest := [.int y5_18]) ⟨hx, hb, hml, hown, hts⟩ (kX12_isIn l D ca za h hh f L Q hI x0 y6_18 (by omega) (by omega) H.size) (va_cwS 2 hts (gw_S (fun _ h => List.mem_cons_of_mem _ h) mw_832 mw_833 mw_619 mw_831) rfl rfl rfl (by decide +kernel) ⟨Nat.le_of_ble_eq_true rfl, Nat.le_of_ble_eq_true rfl⟩) (sg_preS hA hK hP hS hZ) rfl rfl hl.1 rfl (lv_room (Nat.le_of_ble_eq_true rfl)) dX12_chairLoss_32 ⟨Nat.le_refl _, Nat.le_refl _⟩) hA hS (fun r_16 f_13 L_14 Q_15 H locs hq hP hS => ?_)
            obtain ⟨⟨ef9, eL9, eQ9⟩, hq⟩ := hq
            rw [ef9, eL9, eQ9] at hP; clear ef9 eL9 eQ9
            refine lv_if_eq (tgt := 65) hx hb dX12_chairLoss_35 (by decide) (fun c => ?_) (fun c => ?_)
            · skip
              have c_17 : r_16.toInt = 0 := (by have z := Int32.toInt_inj.mpr c; have k1 : (0 : Int32).toInt = 0 := (by decide); omega)
              refine lv_iconst (v := 0) hx hb dX12_chairLoss_65 (by decide) ?_
              refine lv_iadd hx hb dX12_chairLoss_66 ?_
              refine W.eq (g2 := F0 m 67 ls [.int y5_18]) (by rw [Int32.add_zero]) ?_
              refine lv_istore (lv' := [(5, .int y5_18), (0, .ref (h 0)), (1, .int x0), (2, .int x1), (3, .int y3_18), (4, .int y4_18), (6, .int y6_18)]) hx hb dX12_chairLoss_67 hl (by decide) rfl (fun ls hl => ?_)
              obtain ⟨v_19, ev_19⟩ : ∃ z : Int32, z = y6_18 + 1 := ⟨_, rfl⟩
              have q_20 : v_19.toInt = y6_18.toInt + 1 := by rw [ev_19]; exact (bn_addc y6_18 1 (by decide) (by omega) (by omega))
              refine lv_iinc (v := v_19) (lv' := [(6, .int v_19), (5, .int y5_18), (0, .ref (h 0)), (1, .int x0), (2, .int x1), (3, .int y3_18), (4, .int y4_18)]) hx hb dX12_chairLoss_69 hl (k := 6) rfl (by rw [ev_19]; rfl) (by decide) rfl (fun ls hl => ?_)
              refine lv_goto (tgt := 18) hx hb dX12_chairLoss_72 (by decide) ?_
              exact ih_18 y3_18 y4_18 y5_18 v_19 _ _ _ (by omega) (by omega) (by omega) (by omega) hP hS (lv_sub hl [2, 3, 4, 5, 6, 1, 0] rfl)
            · skip
              have c_18 : r_16.toInt ≠ 0 := (by have z := bn_ne c; have k1 : (0 : Int32).toInt = 0 := (by decide); omega)
              refine lv_aload_n hx hb dX12_chairLoss_38 rfl (lv_at hl 0 rfl) ?_
              refine sg_get (ci := 12) (v := .ref (h 15)) (C := RX12) (T := TX12) (N := 55) hx hb hts (fun w h => List.mem_cons_of_mem _ (gx_12 w h)) hown hK hP 0 (by decide) rfl rfl 33 (by decide) (hts _ (List.mem_cons_of_mem _ mw_834)) (fun _ h9 => h9) rfl dX12_chairLoss_39 ?_
              refine lv_iload hx hb dX12_chairLoss_42 (lv_at hl 6 rfl) ?_
              refine sg_iald hx hb hK hP 15 (by decide) 0 rfl rfl (i := y6_18) (vp_in_iff.mpr ⟨by omega, by omega⟩) dX12_chairLoss_44 ?_
              refine lv_topi (fun v_21 ev_21 => ?_)
              have q_22 : 0 ≤ v_21.toInt ∧ v_21.toInt ≤ 7 := by rw [ev_21]; exact hI 15 _
              refine lv_iload_n hx hb dX12_chairLoss_45 rfl (lv_at hl 2 rfl) ?_
              refine lv_icmp_ne (tgt := 65) hx hb dX12_chairLoss_46 (by decide) (fun c => ?_) (fun c => ?_)
              · skip
                have c_23 : v_21.toInt ≠ x1.toInt := (by have z := bn_ne c; omega)
                refine lv_iconst (v := 0) hx hb dX12_chairLoss_65 (by decide) ?_
                refine lv_iadd hx hb dX12_chairLoss_66 ?_
                refine W.eq (g2 := F0 m 67 ls [.int y5_18]) (by rw [Int32.add_zero]) ?_
                refine lv_istore (lv' := [(5, .int y5_18), (0, .ref (h 0)), (1, .int x0), (2, .int x1), (3, .int y3_18), (4, .int y4_18), (6, .int y6_18)]) hx hb dX12_chairLoss_67 hl (by decide) rfl (fun ls hl => ?_)
                obtain ⟨v_25, ev_25⟩ : ∃ z : Int32, z = y6_18 + 1 := ⟨_, rfl⟩
                have q_26 : v_25.toInt = y6_18.toInt + 1 := by rw [ev_25]; exact (bn_addc y6_18 1 (by decide) (by omega) (by omega))
                refine lv_iinc (v := v_25) (lv' := [(6, .int v_25), (5, .int y5_18), (0, .ref (h 0)), (1, .int x0), (2, .int x1), (3, .int y3_18), (4, .int y4_18)]) hx hb dX12_chairLoss_69 hl (k := 6) rfl (by rw [ev_25]; rfl) (by decide) rfl (fun ls hl => ?_)
                refine lv_goto (tgt := 18) hx hb dX12_chairLoss_72 (by decide) ?_
                exact ih_18 y3_18 y4_18 y5_18 v_25 _ _ _ (by omega) (by omega) (by omega) (by omega) hP hS (lv_sub hl [2, 3, 4, 5, 6, 1, 0] rfl)
              · skip
                have c_24 : v_21.toInt = x1.toInt := (by have z := Int32.toInt_inj.mpr c; omega)
                refine lv_aload_n hx hb dX12_chairLoss_49 rfl (lv_at hl 0 rfl) ?_
                refine sg_get (ci := 12) (v := .ref (h 14)) (C := RX12) (T := TX12) (N := 55) hx hb hts (fun w h => List.mem_cons_of_mem _ (gx_12 w h)) hown hK hP 0 (by decide) rfl rfl 32 (by decide) (hts _ (List.mem_cons_of_mem _ mw_693)) (fun _ h9 => h9) rfl dX12_chairLoss_50 ?_
                refine lv_bipush (v := 61) hx hb dX12_chairLoss_53 (by decide) ?_
                refine lv_iload hx hb dX12_chairLoss_55 (lv_at hl 6 rfl) ?_
                refine lv_imul hx hb dX12_chairLoss_57 ?_
                refine lv_topi (fun v_27 ev_27 => ?_)
                have q_28 : v_27.toInt = 61 * y6_18.toInt := by rw [ev_27]; exact bn_mulJ (by decide) (by omega) (by omega)
                refine lv_iload hx hb dX12_chairLoss_58 (lv_at hl 4 rfl) ?_
                refine lv_iadd hx hb dX12_chairLoss_60 ?_
                refine lv_topi (fun v_29 ev_29 => ?_)
                have q_30 : v_29.toInt = v_27.toInt + y4_18.toInt := by rw [ev_29]; exact (bn_addI (by omega) (by omega)).trans (by omega)
                refine sg_iald hx hb hK hP 14 (by decide) 0 rfl rfl (i := v_29) (vp_in_iff.mpr ⟨by omega, by omega⟩) dX12_chairLoss_61 ?_
                refine lv_topi (fun v_31 ev_31 => ?_)
                refine lv_goto (tgt := 66) hx hb dX12_chairLoss_62 (by decide) ?_
                refine lv_iadd hx hb dX12_chairLoss_66 ?_
                refine lv_topi (fun v_32 ev_32 => ?_)
                refine lv_istore (lv' := [(5, .int v_32), (0, .ref (h 0)), (1, .int x0), (2, .int x1), (3, .int y3_18), (4, .int y4_18), (6, .int y6_18)]) hx hb dX12_chairLoss_67 hl (by decide) rfl (fun ls hl => ?_)
                obtain ⟨v_33, ev_33⟩ : ∃ z : Int32, z = y6_18 + 1 := ⟨_, rfl⟩
                have q_34 : v_33.toInt = y6_18.toInt + 1 := by rw [ev_33]; exact (bn_addc y6_18 1 (by decide) (by omega) (by omega))
                refine lv_iinc (v := v_33) (lv' := [(6, .int v_33), (5, .int v_32), (0, .ref (h 0)), (1, .int x0), (2, .int x1), (3, .int y3_18), (4, .int y4_18)]) hx hb dX12_chairLoss_69 hl (k := 6) rfl (by rw [ev_33]; rfl) (by decide) rfl (fun ls hl => ?_)
                refine lv_goto (tgt := 18) hx hb dX12_chairLoss_72 (by decide) ?_
                exact ih_18 y3_18 y4_18 v_32 v_33 _ _ _ (by omega) (by omega) (by omega) (by omega) hP hS (lv_sub hl [2, 3, 4, 5, 6, 1, 0] rfl)
      intro y3_5 y4_5 H locs ls hm_5 hy0_5 hP hS hl
      refine lv_iload hx hb dX12_chairLoss_5 (lv_at hl 4 rfl) ?_
      refine lv_bipush (v := 61) hx hb dX12_chairLoss_7 (by decide) ?_
      refine lv_icmp_ge (tgt := 98) hx hb dX12_chairLoss_9 (by decide) (fun c => ?_) (fun c => ?_)
      · skip
        have c_35 : 61 ≤ y4_5.toInt := (by have z := bn_le c; have k1 : (61 : Int32).toInt = 61 := (by decide); omega)
        refine lv_iload_n hx hb dX12_chairLoss_98 rfl (lv_at hl 3 rfl) ?_
        exact hret _ _ _ _ (y3_5) f L Q dX12_chairLoss_99 hP hS ⟨⟨rfl, rfl, rfl⟩, trivial⟩
      · skip
        have c_36 : y4_5.toInt < 61 := (by have z := bn_nle c; have k1 : (61 : Int32).toInt = 61 := (by decide); omega)
        refine lv_iconst (v := 0) hx hb dX12_chairLoss_12 (by decide) ?_
        refine lv_istore (lv' := [(5, .int 0), (0, .ref (h 0)), (1, .int x0), (2, .int x1), (3, .int y3_5), (4, .int y4_5)]) hx hb dX12_chairLoss_13 hl (by decide) rfl (fun ls hl => ?_)
        refine lv_iconst (v := 0) hx hb dX12_chairLoss_15 (by decide) ?_
        refine lv_istore (lv' := [(6, .int 0), (5, .int 0), (0, .ref (h 0)), (1, .int x0), (2, .int x1), (3, .int y3_5), (4, .int y4_5)]) hx hb dX12_chairLoss_16 hl (by decide) rfl (fun ls hl => ?_)
        exact loop_18 9 y3_5 y4_5 0 0 _ _ _ (by have kc2 : (0 : Int32).toInt = 0 := (by decide); have kc3 : (0 : Int32).toInt = 0 := (by decide); omega) (by have kc2 : (0 : Int32).toInt = 0 := (by decide); have kc3 : (0 : Int32).toInt = 0 := (by decide); omega) (by omega) (by decide) hP hS (lv_sub hl [2, 3, 4, 5, 6, 1, 0] rfl)
  refine lv_iconst (v := (-1)) hx hb dX12_chairLoss_0 (by decide) ?_
  refine lv_istore_n (lv' := [(3, .int (-1)), (0, .ref (h 0)), (1, .int x0), (2, .int x1)]) hx hb dX12_chairLoss_1 rfl hl (by decide) rfl (fun ls hl => ?_)
  refine lv_iconst (v := 0) hx hb dX12_chairLoss_2 (by decide) ?_
  refine lv_istore (lv' := [(4, .int 0), (3, .int (-1)), (0, .ref (h 0)), (1, .int x0), (2, .int x1)]) hx hb dX12_chairLoss_3 hl (by decide) rfl (fun ls hl => ?_)
  exact loop_5 62 (-1) 0 _ _ _ (by have kc0 : ((-1) : Int32).toInt = (-1) := (by decide); have kc1 : (0 : Int32).toInt = 0 := (by decide); omega) (by decide) hP hS (lv_sub hl [2, 3, 4, 1, 0] rfl)

abbrev WkX12_chairsOn_8 : List (Nat × Nat × Option Nat) := [(0, 0, some 35), (16, 16, none)]
set_option maxHeartbeats 4000000 in
set_option maxRecDepth 100000 in
theorem kX12_chairsOn_8 (l : Launch) (D : va_G) (ca : Nat → ClassId) (za h : Nat → Nat) (hh : sgH 26 h) (f : sg_F) (L : sg_L) (Q : sg_Q) (hI : sgI loM hiM f) (x1 : Int32) (x2 : Int32) (x3 : Int32) (b1 : 0 ≤ x1.toInt ∧ x1.toInt ≤ 8) (b2 : 0 ≤ x2.toInt ∧ x2.toInt ≤ 255) (b3 : 0 ≤ x3.toInt ∧ x3.toInt ≤ 9) (p0 : 8 ≤ (f 0 6).toInt ∧ (f 0 6).toInt ≤ 8) (sz : Nat) : Met l yX12_chairsOn gwX12_chairsOn { frames := 2, cells := 0, slots := 0, locals := 47 } (sgP D vwCl (tyX ca) 26 h (eM ca h) zcM za f L Q sz [.ref (h 0), .int 8, .int x1, .int x2, .int x3]) (sgQv D vwCl 26 h (eM ca h) sz (fun f1 L1 Q1 => ((sgI loM hiM f1 ∧ sgK WkX12_chairsOn_8 f f1 ∧ L1 = L ∧ Q1 = Q)))) 0 0 (sgA 26 h sz) := by
  refine sg_ofWv (cc := cX12_chairsOn) (maxL := 7) RX12 (by decide) rfl rfl (Nat.le_of_ble_eq_true rfl) ?_
  intro p e s m below meth cd Qz ls hx hb hml hown hts hK hZ hP hS hl hret
  have hA := sgY.self (n := 26) (h := h) (sz := s.heap.size)
  have hl : lv_has ls 7 [(0, .ref (h 0)), (1, .int 8), (2, .int x1), (3, .int x2), (4, .int x3)] := hl
  obtain ⟨H, hH⟩ : ∃ z : Heap, z = s.heap := ⟨_, rfl⟩
  obtain ⟨locs, hlo⟩ : ∃ z : List Loc, z = [] := ⟨_, rfl⟩
  have hP : va_P D vwCl (sgw 26 h (eM ca h) f L Q) H := by rw [hH]; exact hP
  have hS : va_S (sgA 26 h s.heap.size) s.heap H locs := by rw [hH, hlo]; exact hS
  suffices hgo : W p l e ({ frames := 2, cells := 0, slots := 0, locals := 47 }) s m ([.ref (h 0), .int 8, .int x1, .int x2, .int x3] : List Value).toArray below meth cd H locs 0 0 Qz (F0 m 0 ls []) by rw [hH, hlo] at hgo; exact hgo
  clear hH hlo
  obtain ⟨v_1, ev_1⟩ : ∃ z : Int32, z = f 0 6 := ⟨_, rfl⟩
  have q_2 : 0 ≤ v_1.toInt ∧ v_1.toInt ≤ 8 := by rw [ev_1]; exact hI 0 6
  have o_3 : (f 0 6).toInt = v_1.toInt := (congrArg Int32.toInt (show f 0 6 = v_1 from ev_1.symm))
  have hF : sgK WkX12_chairsOn_8 f f := sgK.rf
  have loop_63 : ∀ (n_63 : Nat) (y6_63 : Int32) (fp_63 : sg_F) (H : Heap) (locs : List Loc) (ls : Array Slot), 8 - y6_63.toInt < (n_63 : Int) → 8 ≤ (fp_63 0 6).toInt ∧ (fp_63 0 6).toInt ≤ 8 → 0 ≤ y6_63.toInt ∧ y6_63.toInt ≤ 8 → sgI loM hiM fp_63 → sgK WkX12_chairsOn_8 f fp_63 → va_P D vwCl (sgw 26 h (eM ca h) fp_63 L Q) H → va_S (sgA 26 h s.heap.size) s.heap H locs → lv_has ls 7 [(0, .ref (h 0)), (6, .int y6_63)] → W p l e ({ frames := 2, cells := 0, slots := 0, locals := 47 }) s m ([.ref (h 0), .int 8, .int x1, .int x2, .int x3] : List Value).toArray below meth cd H locs 0 0 Qz (F0 m 63 ls []) := by
    intro n_63
    induction n_63 with
    | zero => intro y6_63 fp_63 H locs ls hm_63 hy0_63 hy1_63 hI hF hP hS hl; exact absurd hm_63 (by omega)
    | succ n_63 ih_63 =>
      intro y6_63 fp_63 H locs ls hm_63 hy0_63 hy1_63 hI hF hP hS hl
      obtain ⟨v_4, ev_4⟩ : ∃ z : Int32, z = fp_63 0 6 := ⟨_, rfl⟩
      have q_5 : 0 ≤ v_4.toInt ∧ v_4.toInt ≤ 8 := by rw [ev_4]; exact hI 0 6
      have q_6 : (fp_63 0 6).toInt = v_4.toInt := by rw [ev_4]
      refine lv_iload hx hb dX12_chairsOn_63 (lv_at hl 1 rfl) ?_
      refine lv_aload_n hx hb dX12_chairsOn_65 rfl (lv_at hl 0 rfl) ?_
      refine sg_get (ci := 12) (v := .int v_4) (C := RX12) (T := TX12) (N := 55) hx hb hts (fun w h => List.mem_cons_of_mem _ (gx_12 w h)) hown hK hP 0 (by decide) rfl rfl 6 (by decide) (hts _ (List.mem_cons_of_mem _ mw_622)) (fun _ h9 => h9) (congrArg (fun z => some (Value.int z)) (show fp_63 0 6 = v_4 from ev_4.symm)) dX12_chairsOn_66 ?_
      refine lv_icmp_ge (tgt := 92) hx hb dX12_chairsOn_69 (by decide) (fun c => ?_) (fun c => ?_)
      · skip
        have c_7 : v_4.toInt ≤ y6_63.toInt := (by have z := bn_le c; omega)
        exact hret _ _ _ _ fp_63 L Q dX12_chairsOn_92 hP hS ⟨hI, hF, rfl, rfl⟩
      · skip
        have c_8 : y6_63.toInt < v_4.toInt := (by have z := bn_nle c; omega)
        refine lv_aload_n hx hb dX12_chairsOn_72 rfl (lv_at hl 0 rfl) ?_
        refine sg_get (ci := 12) (v := .ref (h 16)) (C := RX12) (T := TX12) (N := 55) hx hb hts (fun w h => List.mem_cons_of_mem _ (gx_12 w h)) hown hK hP 0 (by decide) rfl rfl 34 (by decide) (hts _ (List.mem_cons_of_mem _ mw_863)) (fun _ h9 => h9) rfl dX12_chairsOn_73 ?_
        refine lv_iload hx hb dX12_chairsOn_76 (lv_at hl 1 rfl) ?_
        refine lv_aload_n hx hb dX12_chairsOn_78 rfl (lv_at hl 0 rfl) ?_
        refine sg_get (ci := 12) (v := .ref (h 15)) (C := RX12) (T := TX12) (N := 55) hx hb hts (fun w h => List.mem_cons_of_mem _ (gx_12 w h)) hown hK hP 0 (by decide) rfl rfl 33 (by decide) (hts _ (List.mem_cons_of_mem _ mw_834)) (fun _ h9 => h9) rfl dX12_chairsOn_79 ?_
        refine lv_iload hx hb dX12_chairsOn_82 (lv_at hl 1 rfl) ?_
        refine sg_iald hx hb hK hP 15 (by decide) 0 rfl rfl (i := y6_63) (vp_in_iff.mpr ⟨by omega, by omega⟩) dX12_chairsOn_84 ?_
        refine lv_topi (fun v_9 ev_9 => ?_)
        have q_10 : 0 ≤ v_9.toInt ∧ v_9.toInt ≤ 7 := by rw [ev_9]; exact hI 15 _
        refine sg_iast hx hb hh hA hK hP hS 16 (by decide) 0 (fun _ => rfl) rfl (i := y6_63) (x := v_9) (vp_in_iff.mpr ⟨by omega, by omega⟩) dX12_chairsOn_85 (fun f_11 H locs ef_11 hP hS => ?_)
        have hI : sgI loM hiM f_11 := by rw [ef_11]; exact sgI.put hI 16 y6_63.toNatClampNeg (show 0 ≤ (v_9 : Int32).toInt ∧ (v_9 : Int32).toInt ≤ 7 from by omega)
        have hF : sgK WkX12_chairsOn_8 f f_11 := sgK.put hF ef_11 (by rfl)
        obtain ⟨v_12, ev_12⟩ : ∃ z : Int32, z = y6_63 + 1 := ⟨_, rfl⟩
        have q_13 : v_12.toInt = y6_63.toInt + 1 := by rw [ev_12]; exact (bn_addc y6_63 1 (by decide) (by omega) (by omega))
        refine lv_iinc (v := v_12) (lv' := [(6, .int v_12), (0, .ref (h 0))]) hx hb dX12_chairsOn_86 hl (k := 1) rfl (by rw [ev_12]; rfl) (by decide) rfl (fun ls hl => ?_)
        refine lv_goto (tgt := 63) hx hb dX12_chairsOn_89 (by decide) ?_
        exact ih_63 v_12 f_11 _ _ _ (by omega) (by have zz0_6 : (f_11 0 6).toInt = v_4.toInt := (congrArg Int32.toInt (show f_11 0 6 = v_4 from (by rw [ef_11, sg_up_n (by decide)]; exact ev_4.symm))); omega) (by omega) hI hF hP hS (lv_sub hl [1, 0] rfl)
  have blk_54 : ∀ (y5_54 : Int32) (fp_54 : sg_F) (H : Heap) (locs : List Loc) (ls : Array Slot), 8 ≤ (fp_54 0 6).toInt ∧ (fp_54 0 6).toInt ≤ 8 → sgI loM hiM fp_54 → sgK WkX12_chairsOn_8 f fp_54 → va_P D vwCl (sgw 26 h (eM ca h) fp_54 L Q) H → va_S (sgA 26 h s.heap.size) s.heap H locs → lv_has ls 7 [(0, .ref (h 0)), (5, .int y5_54)] → W p l e ({ frames := 2, cells := 0, slots := 0, locals := 47 }) s m ([.ref (h 0), .int 8, .int x1, .int x2, .int x3] : List Value).toArray below meth cd H locs 0 0 Qz (F0 m 54 ls []) := by
    intro y5_54 fp_54 H locs ls hy0_54 hI hF hP hS hl
    obtain ⟨v_14, ev_14⟩ : ∃ z : Int32, z = fp_54 0 6 := ⟨_, rfl⟩
    have q_15 : 0 ≤ v_14.toInt ∧ v_14.toInt ≤ 8 := by rw [ev_14]; exact hI 0 6
    have q_16 : (fp_54 0 6).toInt = v_14.toInt := by rw [ev_14]
    refine lv_aload_n hx hb dX12_chairsOn_54 rfl (lv_at hl 0 rfl) ?_
    refine lv_iload hx hb dX12_chairsOn_55 (lv_at hl 1 rfl) ?_
    refine sg_put (ci := 12) (x := y5_54) (ty := .int) (C := RX12) (T := TX12) (N := 55) hx hb hts (fun w h => List.mem_cons_of_mem _ (gx_12 w h)) tyX12 tyX12_ok nmX12 hown hh hA hK hP hS 0 (by decide) rfl rfl 35 (by decide) (hts _ (List.mem_cons_of_mem _ mw_816)) (fun _ h9 => h9) rfl rfl (by decide +kernel) rfl rfl (Nat.le_of_ble_eq_true rfl) dX12_chairsOn_57 (fun f_17 H locs ef_17 hP hS => ?_)
    have hI : sgI loM hiM f_17 := by rw [ef_17]; exact sgI.put hI 0 35 (bn_top _)
    have hF : sgK WkX12_chairsOn_8 f f_17 := sgK.put hF ef_17 (by rfl)
    refine lv_iconst (v := 0) hx hb dX12_chairsOn_60 (by decide) ?_
    refine lv_istore (lv' := [(6, .int 0), (0, .ref (h 0)), (5, .int y5_54)]) hx hb dX12_chairsOn_61 hl (by decide) rfl (fun ls hl => ?_)
    exact loop_63 9 0 f_17 _ _ _ (by have kc0 : (0 : Int32).toInt = 0 := (by decide); omega) (by have zz0_6 : (f_17 0 6).toInt = v_14.toInt := (congrArg Int32.toInt (show f_17 0 6 = v_14 from (by rw [ef_17, sg_up_s, sgu_n (by decide)]; exact ev_14.symm))); omega) (by decide) hI hF hP hS (lv_sub hl [1, 0] rfl)
  have loop_14 : ∀ (n_14 : Nat) (y5_14 : Int32) (y6_14 : Int32) (fp_14 : sg_F) (H : Heap) (locs : List Loc) (ls : Array Slot), 8 - y6_14.toInt < (n_14 : Int) → 8 ≤ (fp_14 0 6).toInt ∧ (fp_14 0 6).toInt ≤ 8 → 0 ≤ y6_14.toInt ∧ y6_14.toInt ≤ 8 → sgI loM hiM fp_14 → sgK WkX12_chairsOn_8 f fp_14 → va_P D vwCl (sgw 26 h (eM ca h) fp_14 L Q) H → va_S (sgA 26 h s.heap.size) s.heap H locs → lv_has ls 7 [(0, .ref (h 0)), (2, .int x1), (3, .int x2), (5, .int y5_14), (6, .int y6_14)] → W p l e ({ frames := 2, cells := 0, slots := 0, locals := 47 }) s m ([.ref (h 0), .int 8, .int x1, .int x2, .int x3] : List Value).toArray below meth cd H locs 0 0 Qz (F0 m 14 ls []) := by
    intro n_14
    induction n_14 with
    | zero => intro y5_14 y6_14 fp_14 H locs ls hm_14 hy0_14 hy1_14 hI hF hP hS hl; exact absurd hm_14 (by omega)
    | succ n_14 ih_14 =>
      intro y5_14 y6_14 fp_14 H locs ls hm_14 hy0_14 hy1_14 hI hF hP hS hl
      obtain ⟨v_18, ev_18⟩ : ∃ z : Int32, z = fp_14 0 6 := ⟨_, rfl⟩
      have q_19 : 0 ≤ v_18.toInt ∧ v_18.toInt ≤ 8 := by rw [ev_18]; exact hI 0 6
      have q_20 : (fp_14 0 6).toInt = v_18.toInt := by rw [ev_18]
      refine lv_iload hx hb dX12_chairsOn_14 (lv_at hl 4 rfl) ?_
      refine lv_iload_n hx hb dX12_chairsOn_16 rfl (lv_at hl 1 rfl) ?_
      refine lv_icmp_ge (tgt := 38) hx hb dX12_chairsOn_17 (by decide) (fun c => ?_) (fun c => ?_)
      · skip
        have c_21 : x1.toInt ≤ y6_14.toInt := (by have z := bn_le c; omega)
        refine lv_aload_n hx hb dX12_chairsOn_38 rfl (lv_at hl 0 rfl) ?_
        refine sg_get (ci := 12) (v := .int (fp_14 0 35)) (C := RX12) (T := TX12) (N := 55) hx hb hts (fun w h => List.mem_cons_of_mem _ (gx_12 w h)) hown hK hP 0 (by decide) rfl rfl 35 (by decide) (hts _ (List.mem_cons_of_mem _ mw_816)) (fun _ h9 => h9) rfl dX12_chairsOn_39 ?_
        refine lv_topi (fun v_23 ev_23 => ?_)
        refine lv_if_lt (tgt := 54) hx hb dX12_chairsOn_42 (by decide) (fun c => ?_) (fun c => ?_)
        · skip
          have c_24 : v_23.toInt < 0 := (by have z := bn_lt c; have k1 : (0 : Int32).toInt = 0 := (by decide); omega)
          exact blk_54 y5_14 fp_14 _ _ _ (by have zz0_6 : (fp_14 0 6).toInt = v_18.toInt := (congrArg Int32.toInt (show fp_14 0 6 = v_18 from ev_18.symm)); omega) hI hF hP hS (lv_sub hl [0, 3] rfl)
        · skip
          have c_25 : 0 ≤ v_23.toInt := (by have z := bn_nlt c; have k1 : (0 : Int32).toInt = 0 := (by decide); omega)
          refine lv_iload hx hb dX12_chairsOn_45 (lv_at hl 3 rfl) ?_
          refine lv_aload_n hx hb dX12_chairsOn_47 rfl (lv_at hl 0 rfl) ?_
          refine sg_get (ci := 12) (v := .int v_23) (C := RX12) (T := TX12) (N := 55) hx hb hts (fun w h => List.mem_cons_of_mem _ (gx_12 w h)) hown hK hP 0 (by decide) rfl rfl 35 (by decide) (hts _ (List.mem_cons_of_mem _ mw_816)) (fun _ h9 => h9) (congrArg (fun z => some (Value.int z)) (show fp_14 0 35 = v_23 from ev_23.symm)) dX12_chairsOn_48 ?_
          refine lv_icmp_ge (tgt := 92) hx hb dX12_chairsOn_51 (by decide) (fun c => ?_) (fun c => ?_)
          · skip
            have c_26 : v_23.toInt ≤ y5_14.toInt := (by have z := bn_le c; omega)
            exact hret _ _ _ _ fp_14 L Q dX12_chairsOn_92 hP hS ⟨hI, hF, rfl, rfl⟩
          · skip
            have c_27 : y5_14.toInt < v_23.toInt := (by have z := bn_nle c; omega)
            exact blk_54 y5_14 fp_14 _ _ _ (by have zz0_6 : (fp_14 0 6).toInt = v_18.toInt := (congrArg Int32.toInt (show fp_14 0 6 = v_18 from ev_18.symm)); omega) hI hF hP hS (lv_sub hl [0, 3] rfl)
      · skip
        have c_22 : y6_14.toInt < x1.toInt := (by have z := bn_nle c; omega)
        refine lv_iload hx hb dX12_chairsOn_20 (lv_at hl 3 rfl) ?_
        refine lv_aload_n hx hb dX12_chairsOn_22 rfl (lv_at hl 0 rfl) ?_
        refine lv_iload_n hx hb dX12_chairsOn_23 rfl (lv_at hl 2 rfl) ?_
        refine lv_iload hx hb dX12_chairsOn_24 (lv_at hl 4 rfl) ?_
        refine sg_calli (va_runV (As := [.int x2, .int y6_14]) (rest := [.int y5_14]) ⟨hx, hb, hml, hown, hts⟩ (kX12_chairLoss l D ca za h hh fp_14 L Q hI x2 y6_14 (by omega) (by omega) H.size) (cwV 2 hts (gw_V (fun _ h => List.mem_cons_of_mem _ h) mw_873 mw_874 mw_875 mw_619 mw_872) rfl rfl rfl (by decide +kernel) ⟨Nat.le_of_ble_eq_true rfl, Nat.le_of_ble_eq_true rfl⟩) (sg_preV (ci := 12) (C := RX12) (T := TX12) (N := 55) hA hK hP hS hZ 0 (by decide) rfl rfl) rfl rfl hl.1 rfl (lv_room (Nat.le_of_ble_eq_true rfl)) dX12_chairsOn_26 ⟨Nat.le_refl _, Nat.le_refl _⟩) hA hS (fun r_31 f_28 L_29 Q_30 H locs hq hP hS => ?_)
        obtain ⟨⟨ef9, eL9, eQ9⟩, hq⟩ := hq
        rw [ef9, eL9, eQ9] at hP; clear ef9 eL9 eQ9
        refine lv_iadd hx hb dX12_chairsOn_29 ?_
        refine lv_topi (fun v_32 ev_32 => ?_)
        refine lv_istore (lv' := [(5, .int v_32), (0, .ref (h 0)), (2, .int x1), (3, .int x2), (6, .int y6_14)]) hx hb dX12_chairsOn_30 hl (by decide) rfl (fun ls hl => ?_)
        obtain ⟨v_33, ev_33⟩ : ∃ z : Int32, z = y6_14 + 1 := ⟨_, rfl⟩
        have q_34 : v_33.toInt = y6_14.toInt + 1 := by rw [ev_33]; exact (bn_addc y6_14 1 (by decide) (by omega) (by omega))
        refine lv_iinc (v := v_33) (lv' := [(6, .int v_33), (5, .int v_32), (0, .ref (h 0)), (2, .int x1), (3, .int x2)]) hx hb dX12_chairsOn_32 hl (k := 4) rfl (by rw [ev_33]; rfl) (by decide) rfl (fun ls hl => ?_)
        refine lv_goto (tgt := 14) hx hb dX12_chairsOn_35 (by decide) ?_
        exact ih_14 v_32 v_33 fp_14 _ _ _ (by omega) (by have zz0_6 : (fp_14 0 6).toInt = v_18.toInt := (congrArg Int32.toInt (show fp_14 0 6 = v_18 from ev_18.symm)); omega) (by omega) hI hF hP hS (lv_sub hl [2, 3, 4, 1, 0] rfl)
  refine lv_iload_n hx hb dX12_chairsOn_0 rfl (lv_at hl 1 rfl) ?_
  refine lv_aload_n hx hb dX12_chairsOn_1 rfl (lv_at hl 0 rfl) ?_
  refine sg_get (ci := 12) (v := .int v_1) (C := RX12) (T := TX12) (N := 55) hx hb hts (fun w h => List.mem_cons_of_mem _ (gx_12 w h)) hown hK hP 0 (by decide) rfl rfl 6 (by decide) (hts _ (List.mem_cons_of_mem _ mw_622)) (fun _ h9 => h9) (congrArg (fun z => some (Value.int z)) (show f 0 6 = v_1 from ev_1.symm)) dX12_chairsOn_2 ?_
  refine lv_icmp_ne (tgt := 93) hx hb dX12_chairsOn_5 (by decide) (fun c => ?_) (fun c => ?_)
  · skip
    exfalso; have c_35 : 8 ≠ v_1.toInt := (by have z := bn_ne c; have k0 : (8 : Int32).toInt = 8 := (by decide); omega); omega
  · skip
    have c_36 : 8 = v_1.toInt := (by have z := Int32.toInt_inj.mpr c; have k0 : (8 : Int32).toInt = 8 := (by decide); omega)
    refine lv_iconst (v := 0) hx hb dX12_chairsOn_8 (by decide) ?_
    refine lv_istore (lv' := [(5, .int 0), (0, .ref (h 0)), (1, .int 8), (2, .int x1), (3, .int x2), (4, .int x3)]) hx hb dX12_chairsOn_9 hl (by decide) rfl (fun ls hl => ?_)
    refine lv_iconst (v := 0) hx hb dX12_chairsOn_11 (by decide) ?_
    refine lv_istore (lv' := [(6, .int 0), (5, .int 0), (0, .ref (h 0)), (1, .int 8), (2, .int x1), (3, .int x2), (4, .int x3)]) hx hb dX12_chairsOn_12 hl (by decide) rfl (fun ls hl => ?_)
    exact loop_14 9 0 0 f _ _ _ (by have kc0 : (0 : Int32).toInt = 0 := (by decide); have kc1 : (0 : Int32).toInt = 0 := (by decide); omega) (by have zz0_6 : (f 0 6).toInt = v_1.toInt := (congrArg Int32.toInt (show f 0 6 = v_1 from ev_1.symm)); omega) (by decide) hI hF hP hS (lv_sub hl [2, 4, 5, 1, 0] rfl)

abbrev WkX12_chairsOn_7 : List (Nat × Nat × Option Nat) := [(0, 0, some 35), (15, 15, none), (16, 16, none)]
set_option maxHeartbeats 4000000 in
set_option maxRecDepth 100000 in
theorem kX12_chairsOn_7 (l : Launch) (D : va_G) (ca : Nat → ClassId) (za h : Nat → Nat) (hh : sgH 26 h) (f : sg_F) (L : sg_L) (Q : sg_Q) (hI : sgI loM hiM f) (x1 : Int32) (x2 : Int32) (x3 : Int32) (b1 : 0 ≤ x1.toInt ∧ x1.toInt ≤ 7) (b2 : 0 ≤ x2.toInt ∧ x2.toInt ≤ 255) (b3 : 0 ≤ x3.toInt ∧ x3.toInt ≤ 9) (p0 : 7 ≤ (f 0 6).toInt ∧ (f 0 6).toInt ≤ 8) (sz : Nat) : Met l yX12_chairsOn gwX12_chairsOn { frames := 3, cells := 0, slots := 0, locals := 73 } (sgP D vwCl (tyX ca) 26 h (eM ca h) zcM za f L Q sz [.ref (h 0), .int 7, .int x1, .int x2, .int x3]) (sgQv D vwCl 26 h (eM ca h) sz (fun f1 L1 Q1 => ((sgI loM hiM f1 ∧ sgK WkX12_chairsOn_7 f f1 ∧ L1 = L ∧ Q1 = Q)))) 0 0 (sgA 26 h sz) := by
  refine sg_ofWv (cc := cX12_chairsOn) (maxL := 7) RX12 (by decide) rfl rfl (Nat.le_of_ble_eq_true rfl) ?_
  intro p e s m below meth cd Qz ls hx hb hml hown hts hK hZ hP hS hl hret
  have hA := sgY.self (n := 26) (h := h) (sz := s.heap.size)
  have hl : lv_has ls 7 [(0, .ref (h 0)), (1, .int 7), (2, .int x1), (3, .int x2), (4, .int x3)] := hl
  obtain ⟨H, hH⟩ : ∃ z : Heap, z = s.heap := ⟨_, rfl⟩
  obtain ⟨locs, hlo⟩ : ∃ z : List Loc, z = [] := ⟨_, rfl⟩
  have hP : va_P D vwCl (sgw 26 h (eM ca h) f L Q) H := by rw [hH]; exact hP
  have hS : va_S (sgA 26 h s.heap.size) s.heap H locs := by rw [hH, hlo]; exact hS
  suffices hgo : W p l e ({ frames := 3, cells := 0, slots := 0, locals := 73 }) s m ([.ref (h 0), .int 7, .int x1, .int x2, .int x3] : List Value).toArray below meth cd H locs 0 0 Qz (F0 m 0 ls []) by rw [hH, hlo] at hgo; exact hgo
  clear hH hlo
  obtain ⟨v_1, ev_1⟩ : ∃ z : Int32, z = f 0 6 := ⟨_, rfl⟩
  have q_2 : 0 ≤ v_1.toInt ∧ v_1.toInt ≤ 8 := by rw [ev_1]; exact hI 0 6
  have o_3 : (f 0 6).toInt = v_1.toInt := (congrArg Int32.toInt (show f 0 6 = v_1 from ev_1.symm))
  have hF : sgK WkX12_chairsOn_7 f f := sgK.rf
  have loop_63 : ∀ (n_63 : Nat) (y6_63 : Int32) (fp_63 : sg_F) (H : Heap) (locs : List Loc) (ls : Array Slot), 7 - y6_63.toInt < (n_63 : Int) → 7 ≤ (fp_63 0 6).toInt ∧ (fp_63 0 6).toInt ≤ 7 → 0 ≤ y6_63.toInt ∧ y6_63.toInt ≤ 7 → sgI loM hiM fp_63 → sgK WkX12_chairsOn_7 f fp_63 → va_P D vwCl (sgw 26 h (eM ca h) fp_63 L Q) H → va_S (sgA 26 h s.heap.size) s.heap H locs → lv_has ls 7 [(0, .ref (h 0)), (6, .int y6_63)] → W p l e ({ frames := 3, cells := 0, slots := 0, locals := 73 }) s m ([.ref (h 0), .int 7, .int x1, .int x2, .int x3] : List Value).toArray below meth cd H locs 0 0 Qz (F0 m 63 ls []) := by
    intro n_63
    induction n_63 with
    | zero => intro y6_63 fp_63 H locs ls hm_63 hy0_63 hy1_63 hI hF hP hS hl; exact absurd hm_63 (by omega)
    | succ n_63 ih_63 =>
      intro y6_63 fp_63 H locs ls hm_63 hy0_63 hy1_63 hI hF hP hS hl
      obtain ⟨v_4, ev_4⟩ : ∃ z : Int32, z = fp_63 0 6 := ⟨_, rfl⟩
      have q_5 : 0 ≤ v_4.toInt ∧ v_4.toInt ≤ 8 := by rw [ev_4]; exact hI 0 6
      have q_6 : (fp_63 0 6).toInt = v_4.toInt := by rw [ev_4]
      refine lv_iload hx hb dX12_chairsOn_63 (lv_at hl 1 rfl) ?_
      refine lv_aload_n hx hb dX12_chairsOn_65 rfl (lv_at hl 0 rfl) ?_
      refine sg_get (ci := 12) (v := .int v_4) (C := RX12) (T := TX12) (N := 55) hx hb hts (fun w h => List.mem_cons_of_mem _ (gx_12 w h)) hown hK hP 0 (by decide) rfl rfl 6 (by decide) (hts _ (List.mem_cons_of_mem _ mw_622)) (fun _ h9 => h9) (congrArg (fun z => some (Value.int z)) (show fp_63 0 6 = v_4 from ev_4.symm)) dX12_chairsOn_66 ?_
      refine lv_icmp_ge (tgt := 92) hx hb dX12_chairsOn_69 (by decide) (fun c => ?_) (fun c => ?_)
      · skip
        have c_7 : v_4.toInt ≤ y6_63.toInt := (by have z := bn_le c; omega)
        exact hret _ _ _ _ fp_63 L Q dX12_chairsOn_92 hP hS ⟨hI, hF, rfl, rfl⟩
      · skip
        have c_8 : y6_63.toInt < v_4.toInt := (by have z := bn_nle c; omega)
        refine lv_aload_n hx hb dX12_chairsOn_72 rfl (lv_at hl 0 rfl) ?_
        refine sg_get (ci := 12) (v := .ref (h 16)) (C := RX12) (T := TX12) (N := 55) hx hb hts (fun w h => List.mem_cons_of_mem _ (gx_12 w h)) hown hK hP 0 (by decide) rfl rfl 34 (by decide) (hts _ (List.mem_cons_of_mem _ mw_863)) (fun _ h9 => h9) rfl dX12_chairsOn_73 ?_
        refine lv_iload hx hb dX12_chairsOn_76 (lv_at hl 1 rfl) ?_
        refine lv_aload_n hx hb dX12_chairsOn_78 rfl (lv_at hl 0 rfl) ?_
        refine sg_get (ci := 12) (v := .ref (h 15)) (C := RX12) (T := TX12) (N := 55) hx hb hts (fun w h => List.mem_cons_of_mem _ (gx_12 w h)) hown hK hP 0 (by decide) rfl rfl 33 (by decide) (hts _ (List.mem_cons_of_mem _ mw_834)) (fun _ h9 => h9) rfl dX12_chairsOn_79 ?_
        refine lv_iload hx hb dX12_chairsOn_82 (lv_at hl 1 rfl) ?_
        refine sg_iald hx hb hK hP 15 (by decide) 0 rfl rfl (i := y6_63) (vp_in_iff.mpr ⟨by omega, by omega⟩) dX12_chairsOn_84 ?_
        refine lv_topi (fun v_9 ev_9 => ?_)
        have q_10 : 0 ≤ v_9.toInt ∧ v_9.toInt ≤ 7 := by rw [ev_9]; exact hI 15 _
        refine sg_iast hx hb hh hA hK hP hS 16 (by decide) 0 (fun _ => rfl) rfl (i := y6_63) (x := v_9) (vp_in_iff.mpr ⟨by omega, by omega⟩) dX12_chairsOn_85 (fun f_11 H locs ef_11 hP hS => ?_)
        have hI : sgI loM hiM f_11 := by rw [ef_11]; exact sgI.put hI 16 y6_63.toNatClampNeg (show 0 ≤ (v_9 : Int32).toInt ∧ (v_9 : Int32).toInt ≤ 7 from by omega)
        have hF : sgK WkX12_chairsOn_7 f f_11 := sgK.put hF ef_11 (by rfl)
        obtain ⟨v_12, ev_12⟩ : ∃ z : Int32, z = y6_63 + 1 := ⟨_, rfl⟩
        have q_13 : v_12.toInt = y6_63.toInt + 1 := by rw [ev_12]; exact (bn_addc y6_63 1 (by decide) (by omega) (by omega))
        refine lv_iinc (v := v_12) (lv' := [(6, .int v_12), (0, .ref (h 0))]) hx hb dX12_chairsOn_86 hl (k := 1) rfl (by rw [ev_12]; rfl) (by decide) rfl (fun ls hl => ?_)
        refine lv_goto (tgt := 63) hx hb dX12_chairsOn_89 (by decide) ?_
        exact ih_63 v_12 f_11 _ _ _ (by omega) (by have zz0_6 : (f_11 0 6).toInt = v_4.toInt := (congrArg Int32.toInt (show f_11 0 6 = v_4 from (by rw [ef_11, sg_up_n (by decide)]; exact ev_4.symm))); omega) (by omega) hI hF hP hS (lv_sub hl [1, 0] rfl)
  have blk_54 : ∀ (y5_54 : Int32) (fp_54 : sg_F) (H : Heap) (locs : List Loc) (ls : Array Slot), 7 ≤ (fp_54 0 6).toInt ∧ (fp_54 0 6).toInt ≤ 7 → sgI loM hiM fp_54 → sgK WkX12_chairsOn_7 f fp_54 → va_P D vwCl (sgw 26 h (eM ca h) fp_54 L Q) H → va_S (sgA 26 h s.heap.size) s.heap H locs → lv_has ls 7 [(0, .ref (h 0)), (5, .int y5_54)] → W p l e ({ frames := 3, cells := 0, slots := 0, locals := 73 }) s m ([.ref (h 0), .int 7, .int x1, .int x2, .int x3] : List Value).toArray below meth cd H locs 0 0 Qz (F0 m 54 ls []) := by
    intro y5_54 fp_54 H locs ls hy0_54 hI hF hP hS hl
    obtain ⟨v_14, ev_14⟩ : ∃ z : Int32, z = fp_54 0 6 := ⟨_, rfl⟩
    have q_15 : 0 ≤ v_14.toInt ∧ v_14.toInt ≤ 8 := by rw [ev_14]; exact hI 0 6
    have q_16 : (fp_54 0 6).toInt = v_14.toInt := by rw [ev_14]
    refine lv_aload_n hx hb dX12_chairsOn_54 rfl (lv_at hl 0 rfl) ?_
    refine lv_iload hx hb dX12_chairsOn_55 (lv_at hl 1 rfl) ?_
    refine sg_put (ci := 12) (x := y5_54) (ty := .int) (C := RX12) (T := TX12) (N := 55) hx hb hts (fun w h => List.mem_cons_of_mem _ (gx_12 w h)) tyX12 tyX12_ok nmX12 hown hh hA hK hP hS 0 (by decide) rfl rfl 35 (by decide) (hts _ (List.mem_cons_of_mem _ mw_816)) (fun _ h9 => h9) rfl rfl (by decide +kernel) rfl rfl (Nat.le_of_ble_eq_true rfl) dX12_chairsOn_57 (fun f_17 H locs ef_17 hP hS => ?_)
    have hI : sgI loM hiM f_17 := by rw [ef_17]; exact sgI.put hI 0 35 (bn_top _)
    have hF : sgK WkX12_chairsOn_7 f f_17 := sgK.put hF ef_17 (by rfl)
    refine lv_iconst (v := 0) hx hb dX12_chairsOn_60 (by decide) ?_
    refine lv_istore (lv' := [(6, .int 0), (0, .ref (h 0)), (5, .int y5_54)]) hx hb dX12_chairsOn_61 hl (by decide) rfl (fun ls hl => ?_)
    exact loop_63 8 0 f_17 _ _ _ (by have kc0 : (0 : Int32).toInt = 0 := (by decide); omega) (by have zz0_6 : (f_17 0 6).toInt = v_14.toInt := (congrArg Int32.toInt (show f_17 0 6 = v_14 from (by rw [ef_17, sg_up_s, sgu_n (by decide)]; exact ev_14.symm))); omega) (by decide) hI hF hP hS (lv_sub hl [1, 0] rfl)
  have loop_14 : ∀ (n_14 : Nat) (y5_14 : Int32) (y6_14 : Int32) (fp_14 : sg_F) (H : Heap) (locs : List Loc) (ls : Array Slot), 7 - y6_14.toInt < (n_14 : Int) → 7 ≤ (fp_14 0 6).toInt ∧ (fp_14 0 6).toInt ≤ 7 → 0 ≤ y6_14.toInt ∧ y6_14.toInt ≤ 7 → sgI loM hiM fp_14 → sgK WkX12_chairsOn_7 f fp_14 → va_P D vwCl (sgw 26 h (eM ca h) fp_14 L Q) H → va_S (sgA 26 h s.heap.size) s.heap H locs → lv_has ls 7 [(0, .ref (h 0)), (2, .int x1), (3, .int x2), (5, .int y5_14), (6, .int y6_14)] → W p l e ({ frames := 3, cells := 0, slots := 0, locals := 73 }) s m ([.ref (h 0), .int 7, .int x1, .int x2, .int x3] : List Value).toArray below meth cd H locs 0 0 Qz (F0 m 14 ls []) := by
    intro n_14
    induction n_14 with
    | zero => intro y5_14 y6_14 fp_14 H locs ls hm_14 hy0_14 hy1_14 hI hF hP hS hl; exact absurd hm_14 (by omega)
    | succ n_14 ih_14 =>
      intro y5_14 y6_14 fp_14 H locs ls hm_14 hy0_14 hy1_14 hI hF hP hS hl
      obtain ⟨v_18, ev_18⟩ : ∃ z : Int32, z = fp_14 0 6 := ⟨_, rfl⟩
      have q_19 : 0 ≤ v_18.toInt ∧ v_18.toInt ≤ 8 := by rw [ev_18]; exact hI 0 6
      have q_20 : (fp_14 0 6).toInt = v_18.toInt := by rw [ev_18]
      refine lv_iload hx hb dX12_chairsOn_14 (lv_at hl 4 rfl) ?_
      refine lv_iload_n hx hb dX12_chairsOn_16 rfl (lv_at hl 1 rfl) ?_
      refine lv_icmp_ge (tgt := 38) hx hb dX12_chairsOn_17 (by decide) (fun c => ?_) (fun c => ?_)
      · skip
        have c_21 : x1.toInt ≤ y6_14.toInt := (by have z := bn_le c; omega)
        refine lv_aload_n hx hb dX12_chairsOn_38 rfl (lv_at hl 0 rfl) ?_
        refine sg_get (ci := 12) (v := .int (fp_14 0 35)) (C := RX12) (T := TX12) (N := 55) hx hb hts (fun w h => List.mem_cons_of_mem _ (gx_12 w h)) hown hK hP 0 (by decide) rfl rfl 35 (by decide) (hts _ (List.mem_cons_of_mem _ mw_816)) (fun _ h9 => h9) rfl dX12_chairsOn_39 ?_
        refine lv_topi (fun v_23 ev_23 => ?_)
        refine lv_if_lt (tgt := 54) hx hb dX12_chairsOn_42 (by decide) (fun c => ?_) (fun c => ?_)
        · skip
          have c_24 : v_23.toInt < 0 := (by have z := bn_lt c; have k1 : (0 : Int32).toInt = 0 := (by decide); omega)
          exact blk_54 y5_14 fp_14 _ _ _ (by have zz0_6 : (fp_14 0 6).toInt = v_18.toInt := (congrArg Int32.toInt (show fp_14 0 6 = v_18 from ev_18.symm)); omega) hI hF hP hS (lv_sub hl [0, 3] rfl)
        · skip
          have c_25 : 0 ≤ v_23.toInt := (by have z := bn_nlt c; have k1 : (0 : Int32).toInt = 0 := (by decide); omega)
          refine lv_iload hx hb dX12_chairsOn_45 (lv_at hl 3 rfl) ?_
          refine lv_aload_n hx hb dX12_chairsOn_47 rfl (lv_at hl 0 rfl) ?_
          refine sg_get (ci := 12) (v := .int v_23) (C := RX12) (T := TX12) (N := 55) hx hb hts (fun w h => List.mem_cons_of_mem _ (gx_12 w h)) hown hK hP 0 (by decide) rfl rfl 35 (by decide) (hts _ (List.mem_cons_of_mem _ mw_816)) (fun _ h9 => h9) (congrArg (fun z => some (Value.int z)) (show fp_14 0 35 = v_23 from ev_23.symm)) dX12_chairsOn_48 ?_
          refine lv_icmp_ge (tgt := 92) hx hb dX12_chairsOn_51 (by decide) (fun c => ?_) (fun c => ?_)
          · skip
            have c_26 : v_23.toInt ≤ y5_14.toInt := (by have z := bn_le c; omega)
            exact hret _ _ _ _ fp_14 L Q dX12_chairsOn_92 hP hS ⟨hI, hF, rfl, rfl⟩
          · skip
            have c_27 : y5_14.toInt < v_23.toInt := (by have z := bn_nle c; omega)
            exact blk_54 y5_14 fp_14 _ _ _ (by have zz0_6 : (fp_14 0 6).toInt = v_18.toInt := (congrArg Int32.toInt (show fp_14 0 6 = v_18 from ev_18.symm)); omega) hI hF hP hS (lv_sub hl [0, 3] rfl)
      · skip
        have c_22 : y6_14.toInt < x1.toInt := (by have z := bn_nle c; omega)
        refine lv_iload hx hb dX12_chairsOn_20 (lv_at hl 3 rfl) ?_
        refine lv_aload_n hx hb dX12_chairsOn_22 rfl (lv_at hl 0 rfl) ?_
        refine lv_iload_n hx hb dX12_chairsOn_23 rfl (lv_at hl 2 rfl) ?_
        refine lv_iload hx hb dX12_chairsOn_24 (lv_at hl 4 rfl) ?_
        refine sg_calli (va_runV (As := [.int x2, .int y6_14]) (rest := [.int y5_14]) ⟨hx, hb, hml, hown, hts⟩ (kX12_chairLoss l D ca za h hh fp_14 L Q hI x2 y6_14 (by omega) (by omega) H.size) (cwV 2 hts (gw_V (fun _ h => List.mem_cons_of_mem _ h) mw_873 mw_874 mw_875 mw_619 mw_872) rfl rfl rfl (by decide +kernel) ⟨Nat.le_of_ble_eq_true rfl, Nat.le_of_ble_eq_true rfl⟩) (sg_preV (ci := 12) (C := RX12) (T := TX12) (N := 55) hA hK hP hS hZ 0 (by decide) rfl rfl) rfl rfl hl.1 rfl (lv_room (Nat.le_of_ble_eq_true rfl)) dX12_chairsOn_26 ⟨Nat.le_refl _, Nat.le_refl _⟩) hA hS (fun r_31 f_28 L_29 Q_30 H locs hq hP hS => ?_)
        obtain ⟨⟨ef9, eL9, eQ9⟩, hq⟩ := hq
        rw [ef9, eL9, eQ9] at hP; clear ef9 eL9 eQ9
        refine lv_iadd hx hb dX12_chairsOn_29 ?_
        refine lv_topi (fun v_32 ev_32 => ?_)
        refine lv_istore (lv' := [(5, .int v_32), (0, .ref (h 0)), (2, .int x1), (3, .int x2), (6, .int y6_14)]) hx hb dX12_chairsOn_30 hl (by decide) rfl (fun ls hl => ?_)
        obtain ⟨v_33, ev_33⟩ : ∃ z : Int32, z = y6_14 + 1 := ⟨_, rfl⟩
        have q_34 : v_33.toInt = y6_14.toInt + 1 := by rw [ev_33]; exact (bn_addc y6_14 1 (by decide) (by omega) (by omega))
        refine lv_iinc (v := v_33) (lv' := [(6, .int v_33), (5, .int v_32), (0, .ref (h 0)), (2, .int x1), (3, .int x2)]) hx hb dX12_chairsOn_32 hl (k := 4) rfl (by rw [ev_33]; rfl) (by decide) rfl (fun ls hl => ?_)
        refine lv_goto (tgt := 14) hx hb dX12_chairsOn_35 (by decide) ?_
        exact ih_14 v_32 v_33 fp_14 _ _ _ (by omega) (by have zz0_6 : (fp_14 0 6).toInt = v_18.toInt := (congrArg Int32.toInt (show fp_14 0 6 = v_18 from ev_18.symm)); omega) (by omega) hI hF hP hS (lv_sub hl [2, 3, 4, 1, 0] rfl)
  have loop_116 : ∀ (n_116 : Nat) (y5_116 : Int32) (fp_116 : sg_F) (H : Heap) (locs : List Loc) (ls : Array Slot), 8 - y5_116.toInt < (n_116 : Int) → 8 ≤ (fp_116 0 6).toInt ∧ (fp_116 0 6).toInt ≤ 8 → 0 ≤ y5_116.toInt ∧ y5_116.toInt ≤ 8 → sgI loM hiM fp_116 → sgK WkX12_chairsOn_7 f fp_116 → va_P D vwCl (sgw 26 h (eM ca h) fp_116 L Q) H → va_S (sgA 26 h s.heap.size) s.heap H locs → lv_has ls 7 [(0, .ref (h 0)), (1, .int 7), (2, .int x1), (3, .int x2), (4, .int x3), (5, .int y5_116)] → W p l e ({ frames := 3, cells := 0, slots := 0, locals := 73 }) s m ([.ref (h 0), .int 7, .int x1, .int x2, .int x3] : List Value).toArray below meth cd H locs 0 0 Qz (F0 m 116 ls []) := by
    intro n_116
    induction n_116 with
    | zero => intro y5_116 fp_116 H locs ls hm_116 hy0_116 hy1_116 hI hF hP hS hl; exact absurd hm_116 (by omega)
    | succ n_116 ih_116 =>
      intro y5_116 fp_116 H locs ls hm_116 hy0_116 hy1_116 hI hF hP hS hl
      obtain ⟨v_35, ev_35⟩ : ∃ z : Int32, z = fp_116 0 6 := ⟨_, rfl⟩
      have q_36 : 0 ≤ v_35.toInt ∧ v_35.toInt ≤ 8 := by rw [ev_35]; exact hI 0 6
      have q_37 : (fp_116 0 6).toInt = v_35.toInt := by rw [ev_35]
      refine lv_iload hx hb dX12_chairsOn_116 (lv_at hl 5 rfl) ?_
      refine lv_iload hx hb dX12_chairsOn_118 (lv_at hl 4 rfl) ?_
      refine lv_icmp_ge (tgt := 166) hx hb dX12_chairsOn_120 (by decide) (fun c => ?_) (fun c => ?_)
      · skip
        have c_38 : x3.toInt ≤ y5_116.toInt := (by have z := bn_le c; omega)
        exact hret _ _ _ _ fp_116 L Q dX12_chairsOn_166 hP hS ⟨hI, hF, rfl, rfl⟩
      · skip
        have c_39 : y5_116.toInt < x3.toInt := (by have z := bn_nle c; omega)
        refine lv_iload hx hb dX12_chairsOn_123 (lv_at hl 5 rfl) ?_
        refine lv_iload_n hx hb dX12_chairsOn_125 rfl (lv_at hl 2 rfl) ?_
        refine lv_icmp_gt (tgt := 166) hx hb dX12_chairsOn_126 (by decide) (fun c => ?_) (fun c => ?_)
        · skip
          have c_40 : x1.toInt < y5_116.toInt := (by have z := bn_lt c; omega)
          exact hret _ _ _ _ fp_116 L Q dX12_chairsOn_166 hP hS ⟨hI, hF, rfl, rfl⟩
        · skip
          have c_41 : y5_116.toInt ≤ x1.toInt := (by have z := bn_nlt c; omega)
          refine lv_aload_n hx hb dX12_chairsOn_129 rfl (lv_at hl 0 rfl) ?_
          refine sg_get (ci := 12) (v := .ref (h 15)) (C := RX12) (T := TX12) (N := 55) hx hb hts (fun w h => List.mem_cons_of_mem _ (gx_12 w h)) hown hK hP 0 (by decide) rfl rfl 33 (by decide) (hts _ (List.mem_cons_of_mem _ mw_834)) (fun _ h9 => h9) rfl dX12_chairsOn_130 ?_
          refine lv_iload_n hx hb dX12_chairsOn_133 rfl (lv_at hl 1 rfl) ?_
          refine lv_iload hx hb dX12_chairsOn_134 (lv_at hl 5 rfl) ?_
          refine sg_iast hx hb hh hA hK hP hS 15 (by decide) 0 (fun _ => rfl) rfl (i := 7) (x := y5_116) (vp_in_iff.mpr (by decide)) dX12_chairsOn_136 (fun f_42 H locs ef_42 hP hS => ?_)
          have hI : sgI loM hiM f_42 := by rw [ef_42]; exact sgI.put hI 15 (Int32.toNatClampNeg 7) (show 0 ≤ (y5_116 : Int32).toInt ∧ (y5_116 : Int32).toInt ≤ 7 from by omega)
          have hF : sgK WkX12_chairsOn_7 f f_42 := sgK.put hF ef_42 (by rfl)
          refine lv_aload_n hx hb dX12_chairsOn_137 rfl (lv_at hl 0 rfl) ?_
          refine lv_iload_n hx hb dX12_chairsOn_138 rfl (lv_at hl 1 rfl) ?_
          refine lv_iconst (v := 1) hx hb dX12_chairsOn_139 (by decide) ?_
          refine lv_iadd hx hb dX12_chairsOn_140 ?_
          refine W.eq (g2 := F0 m 141 ls [.int 8, .ref (h 0)]) (by rw [show (7 + 1 : Int32) = 8 from by decide]) ?_
          refine lv_iload hx hb dX12_chairsOn_141 (lv_at hl 5 rfl) ?_
          refine lv_iload_n hx hb dX12_chairsOn_143 rfl (lv_at hl 2 rfl) ?_
          refine lv_icmp_ne (tgt := 153) hx hb dX12_chairsOn_144 (by decide) (fun c => ?_) (fun c => ?_)
          · skip
            have c_43 : y5_116.toInt ≠ x1.toInt := (by have z := bn_ne c; omega)
            refine lv_iload_n hx hb dX12_chairsOn_153 rfl (lv_at hl 2 rfl) ?_
            refine lv_iload_n hx hb dX12_chairsOn_154 rfl (lv_at hl 3 rfl) ?_
            refine lv_iload hx hb dX12_chairsOn_155 (lv_at hl 4 rfl) ?_
            have q_45 : (f_42 0 6).toInt = v_35.toInt := (congrArg Int32.toInt (show f_42 0 6 = v_35 from (by rw [ef_42, sg_up_n (by decide)]; exact ev_35.symm)))
            have q_46 : (f_42 0 6).toInt = v_35.toInt := (congrArg Int32.toInt (show f_42 0 6 = v_35 from (by rw [ef_42, sg_up_n (by decide)]; exact ev_35.symm)))
            refine sg_callv (va_runV (As := [.int 8, .int x1, .int x2, .int x3]) (rest := []) ⟨hx, hb, hml, hown, hts⟩ (kX12_chairsOn_8 l D ca za h hh f_42 L Q hI x1 x2 x3 (by omega) (by omega) (by omega) (by have k0 : (8 : Int32).toInt = 8 := (by decide); omega) H.size) (cwV 4 hts (gw_V (fun _ h => List.mem_cons_of_mem _ h) mw_860 mw_861 mw_862 mw_619 mw_859) rfl rfl rfl (by decide +kernel) ⟨Nat.le_of_ble_eq_true rfl, Nat.le_of_ble_eq_true rfl⟩) (sg_preV (ci := 12) (C := RX12) (T := TX12) (N := 55) hA hK hP hS hZ 0 (by decide) rfl rfl) rfl rfl hl.1 rfl (lv_room (Nat.le_of_ble_eq_true rfl)) dX12_chairsOn_157 ⟨Nat.le_refl _, Nat.le_refl _⟩) hA hS (fun f_47 L_48 Q_49 H locs hq hP hS => ?_)
            obtain ⟨hI, hk_f_47, eL9, eQ9⟩ := hq
            rw [eL9, eQ9] at hP; clear eL9 eQ9
            have hF : sgK WkX12_chairsOn_7 f f_47 := sgK.tr hF hk_f_47 (by decide)
            obtain ⟨v_50, ev_50⟩ : ∃ z : Int32, z = y5_116 + 1 := ⟨_, rfl⟩
            have q_51 : v_50.toInt = y5_116.toInt + 1 := by rw [ev_50]; exact (bn_addc y5_116 1 (by decide) (by omega) (by omega))
            refine lv_iinc (v := v_50) (lv' := [(5, .int v_50), (0, .ref (h 0)), (1, .int 7), (2, .int x1), (3, .int x2), (4, .int x3)]) hx hb dX12_chairsOn_160 hl (k := 5) rfl (by rw [ev_50]; rfl) (by decide) rfl (fun ls hl => ?_)
            refine lv_goto (tgt := 116) hx hb dX12_chairsOn_163 (by decide) ?_
            exact ih_116 v_50 f_47 _ _ _ (by omega) (by have zz0_6 : (f_47 0 6).toInt = v_35.toInt := (congrArg Int32.toInt (show f_47 0 6 = v_35 from ((hk_f_47 0 6 (by decide)).trans (by rw [ef_42, sg_up_n (by decide)]; exact ev_35.symm)))); omega) (by omega) hI hF hP hS (lv_sub hl [1, 2, 3, 4, 5, 0] rfl)
          · skip
            have c_44 : y5_116.toInt = x1.toInt := (by have z := Int32.toInt_inj.mpr c; omega)
            refine lv_iload_n hx hb dX12_chairsOn_147 rfl (lv_at hl 2 rfl) ?_
            refine lv_iconst (v := 1) hx hb dX12_chairsOn_148 (by decide) ?_
            refine lv_iadd hx hb dX12_chairsOn_149 ?_
            refine lv_topi (fun v_52 ev_52 => ?_)
            have q_53 : v_52.toInt = x1.toInt + 1 := by rw [ev_52]; have k1 : (1 : Int32).toInt = 1 := (by decide); exact (bn_addI (by omega) (by omega)).trans (by omega)
            refine lv_goto (tgt := 154) hx hb dX12_chairsOn_150 (by decide) ?_
            refine lv_iload_n hx hb dX12_chairsOn_154 rfl (lv_at hl 3 rfl) ?_
            refine lv_iload hx hb dX12_chairsOn_155 (lv_at hl 4 rfl) ?_
            have q_54 : (f_42 0 6).toInt = v_35.toInt := (congrArg Int32.toInt (show f_42 0 6 = v_35 from (by rw [ef_42, sg_up_n (by decide)]; exact ev_35.symm)))
            have q_55 : (f_42 0 6).toInt = v_35.toInt := (congrArg Int32.toInt (show f_42 0 6 = v_35 from (by rw [ef_42, sg_up_n (by decide)]; exact ev_35.symm)))
            refine sg_callv (va_runV (As := [.int 8, .int v_52, .int x2, .int x3]) (rest := []) ⟨hx, hb, hml, hown, hts⟩ (kX12_chairsOn_8 l D ca za h hh f_42 L Q hI v_52 x2 x3 (by omega) (by omega) (by omega) (by have k0 : (8 : Int32).toInt = 8 := (by decide); omega) H.size) (cwV 4 hts (gw_V (fun _ h => List.mem_cons_of_mem _ h) mw_860 mw_861 mw_862 mw_619 mw_859) rfl rfl rfl (by decide +kernel) ⟨Nat.le_of_ble_eq_true rfl, Nat.le_of_ble_eq_true rfl⟩) (sg_preV (ci := 12) (C := RX12) (T := TX12) (N := 55) hA hK hP hS hZ 0 (by decide) rfl rfl) rfl rfl hl.1 rfl (lv_room (Nat.le_of_ble_eq_true rfl)) dX12_chairsOn_157 ⟨Nat.le_refl _, Nat.le_refl _⟩) hA hS (fun f_56 L_57 Q_58 H locs hq hP hS => ?_)
            obtain ⟨hI, hk_f_56, eL9, eQ9⟩ := hq
            rw [eL9, eQ9] at hP; clear eL9 eQ9
            have hF : sgK WkX12_chairsOn_7 f f_56 := sgK.tr hF hk_f_56 (by decide)
            obtain ⟨v_59, ev_59⟩ : ∃ z : Int32, z = y5_116 + 1 := ⟨_, rfl⟩
            have q_60 : v_59.toInt = y5_116.toInt + 1 := by rw [ev_59]; exact (bn_addc y5_116 1 (by decide) (by omega) (by omega))
            refine lv_iinc (v := v_59) (lv' := [(5, .int v_59), (0, .ref (h 0)), (1, .int 7), (2, .int x1), (3, .int x2), (4, .int x3)]) hx hb dX12_chairsOn_160 hl (k := 5) rfl (by rw [ev_59]; rfl) (by decide) rfl (fun ls hl => ?_)
            refine lv_goto (tgt := 116) hx hb dX12_chairsOn_163 (by decide) ?_
            exact ih_116 v_59 f_56 _ _ _ (by omega) (by have zz0_6 : (f_56 0 6).toInt = v_35.toInt := (congrArg Int32.toInt (show f_56 0 6 = v_35 from ((hk_f_56 0 6 (by decide)).trans (by rw [ef_42, sg_up_n (by decide)]; exact ev_35.symm)))); omega) (by omega) hI hF hP hS (lv_sub hl [1, 2, 3, 4, 5, 0] rfl)
  refine lv_iload_n hx hb dX12_chairsOn_0 rfl (lv_at hl 1 rfl) ?_
  refine lv_aload_n hx hb dX12_chairsOn_1 rfl (lv_at hl 0 rfl) ?_
  refine sg_get (ci := 12) (v := .int v_1) (C := RX12) (T := TX12) (N := 55) hx hb hts (fun w h => List.mem_cons_of_mem _ (gx_12 w h)) hown hK hP 0 (by decide) rfl rfl 6 (by decide) (hts _ (List.mem_cons_of_mem _ mw_622)) (fun _ h9 => h9) (congrArg (fun z => some (Value.int z)) (show f 0 6 = v_1 from ev_1.symm)) dX12_chairsOn_2 ?_
  refine lv_icmp_ne (tgt := 93) hx hb dX12_chairsOn_5 (by decide) (fun c => ?_) (fun c => ?_)
  · skip
    have c_61 : 7 ≠ v_1.toInt := (by have z := bn_ne c; have k0 : (7 : Int32).toInt = 7 := (by decide); omega)
    refine lv_iload_n hx hb dX12_chairsOn_93 rfl (lv_at hl 3 rfl) ?_
    refine lv_iload_n hx hb dX12_chairsOn_94 rfl (lv_at hl 1 rfl) ?_
    refine sg_calli (va_runS (As := [.int x2, .int 7]) (rest := []) ⟨hx, hb, hml, hown, hts⟩ (kX12_isIn l D ca za h hh f L Q hI x2 7 (by omega) (by decide) H.size) (va_cwS 2 hts (gw_S (fun _ h => List.mem_cons_of_mem _ h) mw_832 mw_833 mw_619 mw_831) rfl rfl rfl (by decide +kernel) ⟨Nat.le_of_ble_eq_true rfl, Nat.le_of_ble_eq_true rfl⟩) (sg_preS hA hK hP hS hZ) rfl rfl hl.1 rfl (lv_room (Nat.le_of_ble_eq_true rfl)) dX12_chairsOn_95 ⟨Nat.le_refl _, Nat.le_refl _⟩) hA hS (fun r_66 f_63 L_64 Q_65 H locs hq hP hS => ?_)
    obtain ⟨⟨ef9, eL9, eQ9⟩, hq⟩ := hq
    rw [ef9, eL9, eQ9] at hP; clear ef9 eL9 eQ9
    refine lv_if_ne (tgt := 113) hx hb dX12_chairsOn_98 (by decide) (fun c => ?_) (fun c => ?_)
    · skip
      have c_67 : r_66.toInt ≠ 0 := (by have z := bn_ne c; have k1 : (0 : Int32).toInt = 0 := (by decide); omega)
      refine lv_iconst (v := 0) hx hb dX12_chairsOn_113 (by decide) ?_
      refine lv_istore (lv' := [(5, .int 0), (0, .ref (h 0)), (1, .int 7), (2, .int x1), (3, .int x2), (4, .int x3)]) hx hb dX12_chairsOn_114 hl (by decide) rfl (fun ls hl => ?_)
      exact loop_116 9 0 f _ _ _ (by have kc0 : (0 : Int32).toInt = 0 := (by decide); omega) (by have zz0_6 : (f 0 6).toInt = v_1.toInt := (congrArg Int32.toInt (show f 0 6 = v_1 from ev_1.symm)); omega) (by decide) hI hF hP hS (lv_sub hl [1, 2, 3, 4, 5, 0] rfl)
    · skip
      have c_68 : r_66.toInt = 0 := (by have z := Int32.toInt_inj.mpr c; have k1 : (0 : Int32).toInt = 0 := (by decide); omega)
      refine lv_aload_n hx hb dX12_chairsOn_101 rfl (lv_at hl 0 rfl) ?_
      refine lv_iload_n hx hb dX12_chairsOn_102 rfl (lv_at hl 1 rfl) ?_
      refine lv_iconst (v := 1) hx hb dX12_chairsOn_103 (by decide) ?_
      refine lv_iadd hx hb dX12_chairsOn_104 ?_
      refine W.eq (g2 := F0 m 105 ls [.int 8, .ref (h 0)]) (by rw [show (7 + 1 : Int32) = 8 from by decide]) ?_
      refine lv_iload_n hx hb dX12_chairsOn_105 rfl (lv_at hl 2 rfl) ?_
      refine lv_iload_n hx hb dX12_chairsOn_106 rfl (lv_at hl 3 rfl) ?_
      refine lv_iload hx hb dX12_chairsOn_107 (lv_at hl 4 rfl) ?_
      have q_69 : (f 0 6).toInt = v_1.toInt := (congrArg Int32.toInt (show f 0 6 = v_1 from ev_1.symm))
      have q_70 : (f 0 6).toInt = v_1.toInt := (congrArg Int32.toInt (show f 0 6 = v_1 from ev_1.symm))
      refine sg_callv (va_runV (As := [.int 8, .int x1, .int x2, .int x3]) (rest := []) ⟨hx, hb, hml, hown, hts⟩ (kX12_chairsOn_8 l D ca za h hh f L Q hI x1 x2 x3 (by omega) (by omega) (by omega) (by have k0 : (8 : Int32).toInt = 8 := (by decide); omega) H.size) (cwV 4 hts (gw_V (fun _ h => List.mem_cons_of_mem _ h) mw_860 mw_861 mw_862 mw_619 mw_859) rfl rfl rfl (by decide +kernel) ⟨Nat.le_of_ble_eq_true rfl, Nat.le_of_ble_eq_true rfl⟩) (sg_preV (ci := 12) (C := RX12) (T := TX12) (N := 55) hA hK hP hS hZ 0 (by decide) rfl rfl) rfl rfl hl.1 rfl (lv_room (Nat.le_of_ble_eq_true rfl)) dX12_chairsOn_109 ⟨Nat.le_refl _, Nat.le_refl _⟩) hA hS (fun f_71 L_72 Q_73 H locs hq hP hS => ?_)
      obtain ⟨hI, hk_f_71, eL9, eQ9⟩ := hq
      rw [eL9, eQ9] at hP; clear eL9 eQ9
      have hF : sgK WkX12_chairsOn_7 f f_71 := sgK.tr hF hk_f_71 (by decide)
      exact hret _ _ _ _ f_71 L Q dX12_chairsOn_112 hP hS ⟨hI, hF, rfl, rfl⟩
  · skip
    have c_62 : 7 = v_1.toInt := (by have z := Int32.toInt_inj.mpr c; have k0 : (7 : Int32).toInt = 7 := (by decide); omega)
    refine lv_iconst (v := 0) hx hb dX12_chairsOn_8 (by decide) ?_
    refine lv_istore (lv' := [(5, .int 0), (0, .ref (h 0)), (1, .int 7), (2, .int x1), (3, .int x2), (4, .int x3)]) hx hb dX12_chairsOn_9 hl (by decide) rfl (fun ls hl => ?_)
    refine lv_iconst (v := 0) hx hb dX12_chairsOn_11 (by decide) ?_
    refine lv_istore (lv' := [(6, .int 0), (5, .int 0), (0, .ref (h 0)), (1, .int 7), (2, .int x1), (3, .int x2), (4, .int x3)]) hx hb dX12_chairsOn_12 hl (by decide) rfl (fun ls hl => ?_)
    exact loop_14 8 0 0 f _ _ _ (by have kc0 : (0 : Int32).toInt = 0 := (by decide); have kc1 : (0 : Int32).toInt = 0 := (by decide); omega) (by have zz0_6 : (f 0 6).toInt = v_1.toInt := (congrArg Int32.toInt (show f 0 6 = v_1 from ev_1.symm)); omega) (by decide) hI hF hP hS (lv_sub hl [2, 4, 5, 1, 0] rfl)

abbrev WkX12_chairsOn_6 : List (Nat × Nat × Option Nat) := [(0, 0, some 35), (15, 15, none), (16, 16, none)]
set_option maxHeartbeats 4000000 in
set_option maxRecDepth 100000 in
theorem kX12_chairsOn_6 (l : Launch) (D : va_G) (ca : Nat → ClassId) (za h : Nat → Nat) (hh : sgH 26 h) (f : sg_F) (L : sg_L) (Q : sg_Q) (hI : sgI loM hiM f) (x1 : Int32) (x2 : Int32) (x3 : Int32) (b1 : 0 ≤ x1.toInt ∧ x1.toInt ≤ 6) (b2 : 0 ≤ x2.toInt ∧ x2.toInt ≤ 255) (b3 : 0 ≤ x3.toInt ∧ x3.toInt ≤ 9) (p0 : 6 ≤ (f 0 6).toInt ∧ (f 0 6).toInt ≤ 8) (sz : Nat) : Met l yX12_chairsOn gwX12_chairsOn { frames := 4, cells := 0, slots := 0, locals := 99 } (sgP D vwCl (tyX ca) 26 h (eM ca h) zcM za f L Q sz [.ref (h 0), .int 6, .int x1, .int x2, .int x3]) (sgQv D vwCl 26 h (eM ca h) sz (fun f1 L1 Q1 => ((sgI loM hiM f1 ∧ sgK WkX12_chairsOn_6 f f1 ∧ L1 = L ∧ Q1 = Q)))) 0 0 (sgA 26 h sz) := by
  refine sg_ofWv (cc := cX12_chairsOn) (maxL := 7) RX12 (by decide) rfl rfl (Nat.le_of_ble_eq_true rfl) ?_
  intro p e s m below meth cd Qz ls hx hb hml hown hts hK hZ hP hS hl hret
  have hA := sgY.self (n := 26) (h := h) (sz := s.heap.size)
  have hl : lv_has ls 7 [(0, .ref (h 0)), (1, .int 6), (2, .int x1), (3, .int x2), (4, .int x3)] := hl
  obtain ⟨H, hH⟩ : ∃ z : Heap, z = s.heap := ⟨_, rfl⟩
  obtain ⟨locs, hlo⟩ : ∃ z : List Loc, z = [] := ⟨_, rfl⟩
  have hP : va_P D vwCl (sgw 26 h (eM ca h) f L Q) H := by rw [hH]; exact hP
  have hS : va_S (sgA 26 h s.heap.size) s.heap H locs := by rw [hH, hlo]; exact hS
  suffices hgo : W p l e ({ frames := 4, cells := 0, slots := 0, locals := 99 }) s m ([.ref (h 0), .int 6, .int x1, .int x2, .int x3] : List Value).toArray below meth cd H locs 0 0 Qz (F0 m 0 ls []) by rw [hH, hlo] at hgo; exact hgo
  clear hH hlo
  obtain ⟨v_1, ev_1⟩ : ∃ z : Int32, z = f 0 6 := ⟨_, rfl⟩
  have q_2 : 0 ≤ v_1.toInt ∧ v_1.toInt ≤ 8 := by rw [ev_1]; exact hI 0 6
  have o_3 : (f 0 6).toInt = v_1.toInt := (congrArg Int32.toInt (show f 0 6 = v_1 from ev_1.symm))
  have hF : sgK WkX12_chairsOn_6 f f := sgK.rf
  have loop_63 : ∀ (n_63 : Nat) (y6_63 : Int32) (fp_63 : sg_F) (H : Heap) (locs : List Loc) (ls : Array Slot), 6 - y6_63.toInt < (n_63 : Int) → 6 ≤ (fp_63 0 6).toInt ∧ (fp_63 0 6).toInt ≤ 6 → 0 ≤ y6_63.toInt ∧ y6_63.toInt ≤ 6 → sgI loM hiM fp_63 → sgK WkX12_chairsOn_6 f fp_63 → va_P D vwCl (sgw 26 h (eM ca h) fp_63 L Q) H → va_S (sgA 26 h s.heap.size) s.heap H locs → lv_has ls 7 [(0, .ref (h 0)), (6, .int y6_63)] → W p l e ({ frames := 4, cells := 0, slots := 0, locals := 99 }) s m ([.ref (h 0), .int 6, .int x1, .int x2, .int x3] : List Value).toArray below meth cd H locs 0 0 Qz (F0 m 63 ls []) := by
    intro n_63
    induction n_63 with
    | zero => intro y6_63 fp_63 H locs ls hm_63 hy0_63 hy1_63 hI hF hP hS hl; exact absurd hm_63 (by omega)
    | succ n_63 ih_63 =>
      intro y6_63 fp_63 H locs ls hm_63 hy0_63 hy1_63 hI hF hP hS hl
      obtain ⟨v_4, ev_4⟩ : ∃ z : Int32, z = fp_63 0 6 := ⟨_, rfl⟩
      have q_5 : 0 ≤ v_4.toInt ∧ v_4.toInt ≤ 8 := by rw [ev_4]; exact hI 0 6
      have q_6 : (fp_63 0 6).toInt = v_4.toInt := by rw [ev_4]
      refine lv_iload hx hb dX12_chairsOn_63 (lv_at hl 1 rfl) ?_
      refine lv_aload_n hx hb dX12_chairsOn_65 rfl (lv_at hl 0 rfl) ?_
      refine sg_get (ci := 12) (v := .int v_4) (C := RX12) (T := TX12) (N := 55) hx hb hts (fun w h => List.mem_cons_of_mem _ (gx_12 w h)) hown hK hP 0 (by decide) rfl rfl 6 (by decide) (hts _ (List.mem_cons_of_mem _ mw_622)) (fun _ h9 => h9) (congrArg (fun z => some (Value.int z)) (show fp_63 0 6 = v_4 from ev_4.symm)) dX12_chairsOn_66 ?_
      refine lv_icmp_ge (tgt := 92) hx hb dX12_chairsOn_69 (by decide) (fun c => ?_) (fun c => ?_)
      · skip
        have c_7 : v_4.toInt ≤ y6_63.toInt := (by have z := bn_le c; omega)
        exact hret _ _ _ _ fp_63 L Q dX12_chairsOn_92 hP hS ⟨hI, hF, rfl, rfl⟩
      · skip
        have c_8 : y6_63.toInt < v_4.toInt := (by have z := bn_nle c; omega)
        refine lv_aload_n hx hb dX12_chairsOn_72 rfl (lv_at hl 0 rfl) ?_
        refine sg_get (ci := 12) (v := .ref (h 16)) (C := RX12) (T := TX12) (N := 55) hx hb hts (fun w h => List.mem_cons_of_mem _ (gx_12 w h)) hown hK hP 0 (by decide) rfl rfl 34 (by decide) (hts _ (List.mem_cons_of_mem _ mw_863)) (fun _ h9 => h9) rfl dX12_chairsOn_73 ?_
        refine lv_iload hx hb dX12_chairsOn_76 (lv_at hl 1 rfl) ?_
        refine lv_aload_n hx hb dX12_chairsOn_78 rfl (lv_at hl 0 rfl) ?_
        refine sg_get (ci := 12) (v := .ref (h 15)) (C := RX12) (T := TX12) (N := 55) hx hb hts (fun w h => List.mem_cons_of_mem _ (gx_12 w h)) hown hK hP 0 (by decide) rfl rfl 33 (by decide) (hts _ (List.mem_cons_of_mem _ mw_834)) (fun _ h9 => h9) rfl dX12_chairsOn_79 ?_
        refine lv_iload hx hb dX12_chairsOn_82 (lv_at hl 1 rfl) ?_
        refine sg_iald hx hb hK hP 15 (by decide) 0 rfl rfl (i := y6_63) (vp_in_iff.mpr ⟨by omega, by omega⟩) dX12_chairsOn_84 ?_
        refine lv_topi (fun v_9 ev_9 => ?_)
        have q_10 : 0 ≤ v_9.toInt ∧ v_9.toInt ≤ 7 := by rw [ev_9]; exact hI 15 _
        refine sg_iast hx hb hh hA hK hP hS 16 (by decide) 0 (fun _ => rfl) rfl (i := y6_63) (x := v_9) (vp_in_iff.mpr ⟨by omega, by omega⟩) dX12_chairsOn_85 (fun f_11 H locs ef_11 hP hS => ?_)
        have hI : sgI loM hiM f_11 := by rw [ef_11]; exact sgI.put hI 16 y6_63.toNatClampNeg (show 0 ≤ (v_9 : Int32).toInt ∧ (v_9 : Int32).toInt ≤ 7 from by omega)
        have hF : sgK WkX12_chairsOn_6 f f_11 := sgK.put hF ef_11 (by rfl)
        obtain ⟨v_12, ev_12⟩ : ∃ z : Int32, z = y6_63 + 1 := ⟨_, rfl⟩
        have q_13 : v_12.toInt = y6_63.toInt + 1 := by rw [ev_12]; exact (bn_addc y6_63 1 (by decide) (by omega) (by omega))
        refine lv_iinc (v := v_12) (lv' := [(6, .int v_12), (0, .ref (h 0))]) hx hb dX12_chairsOn_86 hl (k := 1) rfl (by rw [ev_12]; rfl) (by decide) rfl (fun ls hl => ?_)
        refine lv_goto (tgt := 63) hx hb dX12_chairsOn_89 (by decide) ?_
        exact ih_63 v_12 f_11 _ _ _ (by omega) (by have zz0_6 : (f_11 0 6).toInt = v_4.toInt := (congrArg Int32.toInt (show f_11 0 6 = v_4 from (by rw [ef_11, sg_up_n (by decide)]; exact ev_4.symm))); omega) (by omega) hI hF hP hS (lv_sub hl [1, 0] rfl)
  have blk_54 : ∀ (y5_54 : Int32) (fp_54 : sg_F) (H : Heap) (locs : List Loc) (ls : Array Slot), 6 ≤ (fp_54 0 6).toInt ∧ (fp_54 0 6).toInt ≤ 6 → sgI loM hiM fp_54 → sgK WkX12_chairsOn_6 f fp_54 → va_P D vwCl (sgw 26 h (eM ca h) fp_54 L Q) H → va_S (sgA 26 h s.heap.size) s.heap H locs → lv_has ls 7 [(0, .ref (h 0)), (5, .int y5_54)] → W p l e ({ frames := 4, cells := 0, slots := 0, locals := 99 }) s m ([.ref (h 0), .int 6, .int x1, .int x2, .int x3] : List Value).toArray below meth cd H locs 0 0 Qz (F0 m 54 ls []) := by
    intro y5_54 fp_54 H locs ls hy0_54 hI hF hP hS hl
    obtain ⟨v_14, ev_14⟩ : ∃ z : Int32, z = fp_54 0 6 := ⟨_, rfl⟩
    have q_15 : 0 ≤ v_14.toInt ∧ v_14.toInt ≤ 8 := by rw [ev_14]; exact hI 0 6
    have q_16 : (fp_54 0 6).toInt = v_14.toInt := by rw [ev_14]
    refine lv_aload_n hx hb dX12_chairsOn_54 rfl (lv_at hl 0 rfl) ?_
    refine lv_iload hx hb dX12_chairsOn_55 (lv_at hl 1 rfl) ?_
    refine sg_put (ci := 12) (x := y5_54) (ty := .int) (C := RX12) (T := TX12) (N := 55) hx hb hts (fun w h => List.mem_cons_of_mem _ (gx_12 w h)) tyX12 tyX12_ok nmX12 hown hh hA hK hP hS 0 (by decide) rfl rfl 35 (by decide) (hts _ (List.mem_cons_of_mem _ mw_816)) (fun _ h9 => h9) rfl rfl (by decide +kernel) rfl rfl (Nat.le_of_ble_eq_true rfl) dX12_chairsOn_57 (fun f_17 H locs ef_17 hP hS => ?_)
    have hI : sgI loM hiM f_17 := by rw [ef_17]; exact sgI.put hI 0 35 (bn_top _)
    have hF : sgK WkX12_chairsOn_6 f f_17 := sgK.put hF ef_17 (by rfl)
    refine lv_iconst (v := 0) hx hb dX12_chairsOn_60 (by decide) ?_
    refine lv_istore (lv' := [(6, .int 0), (0, .ref (h 0)), (5, .int y5_54)]) hx hb dX12_chairsOn_61 hl (by decide) rfl (fun ls hl => ?_)
    exact loop_63 7 0 f_17 _ _ _ (by have kc0 : (0 : Int32).toInt = 0 := (by decide); omega) (by have zz0_6 : (f_17 0 6).toInt = v_14.toInt := (congrArg Int32.toInt (show f_17 0 6 = v_14 from (by rw [ef_17, sg_up_s, sgu_n (by decide)]; exact ev_14.symm))); omega) (by decide) hI hF hP hS (lv_sub hl [1, 0] rfl)
  have loop_14 : ∀ (n_14 : Nat) (y5_14 : Int32) (y6_14 : Int32) (fp_14 : sg_F) (H : Heap) (locs : List Loc) (ls : Array Slot), 6 - y6_14.toInt < (n_14 : Int) → 6 ≤ (fp_14 0 6).toInt ∧ (fp_14 0 6).toInt ≤ 6 → 0 ≤ y6_14.toInt ∧ y6_14.toInt ≤ 6 → sgI loM hiM fp_14 → sgK WkX12_chairsOn_6 f fp_14 → va_P D vwCl (sgw 26 h (eM ca h) fp_14 L Q) H → va_S (sgA 26 h s.heap.size) s.heap H locs → lv_has ls 7 [(0, .ref (h 0)), (2, .int x1), (3, .int x2), (5, .int y5_14), (6, .int y6_14)] → W p l e ({ frames := 4, cells := 0, slots := 0, locals := 99 }) s m ([.ref (h 0), .int 6, .int x1, .int x2, .int x3] : List Value).toArray below meth cd H locs 0 0 Qz (F0 m 14 ls []) := by
    intro n_14
    induction n_14 with
    | zero => intro y5_14 y6_14 fp_14 H locs ls hm_14 hy0_14 hy1_14 hI hF hP hS hl; exact absurd hm_14 (by omega)
    | succ n_14 ih_14 =>
      intro y5_14 y6_14 fp_14 H locs ls hm_14 hy0_14 hy1_14 hI hF hP hS hl
      obtain ⟨v_18, ev_18⟩ : ∃ z : Int32, z = fp_14 0 6 := ⟨_, rfl⟩
      have q_19 : 0 ≤ v_18.toInt ∧ v_18.toInt ≤ 8 := by rw [ev_18]; exact hI 0 6
      have q_20 : (fp_14 0 6).toInt = v_18.toInt := by rw [ev_18]
      refine lv_iload hx hb dX12_chairsOn_14 (lv_at hl 4 rfl) ?_
      refine lv_iload_n hx hb dX12_chairsOn_16 rfl (lv_at hl 1 rfl) ?_
      refine lv_icmp_ge (tgt := 38) hx hb dX12_chairsOn_17 (by decide) (fun c => ?_) (fun c => ?_)
      · skip
        have c_21 : x1.toInt ≤ y6_14.toInt := (by have z := bn_le c; omega)
        refine lv_aload_n hx hb dX12_chairsOn_38 rfl (lv_at hl 0 rfl) ?_
        refine sg_get (ci := 12) (v := .int (fp_14 0 35)) (C := RX12) (T := TX12) (N := 55) hx hb hts (fun w h => List.mem_cons_of_mem _ (gx_12 w h)) hown hK hP 0 (by decide) rfl rfl 35 (by decide) (hts _ (List.mem_cons_of_mem _ mw_816)) (fun _ h9 => h9) rfl dX12_chairsOn_39 ?_
        refine lv_topi (fun v_23 ev_23 => ?_)
        refine lv_if_lt (tgt := 54) hx hb dX12_chairsOn_42 (by decide) (fun c => ?_) (fun c => ?_)
        · skip
          have c_24 : v_23.toInt < 0 := (by have z := bn_lt c; have k1 : (0 : Int32).toInt = 0 := (by decide); omega)
          exact blk_54 y5_14 fp_14 _ _ _ (by have zz0_6 : (fp_14 0 6).toInt = v_18.toInt := (congrArg Int32.toInt (show fp_14 0 6 = v_18 from ev_18.symm)); omega) hI hF hP hS (lv_sub hl [0, 3] rfl)
        · skip
          have c_25 : 0 ≤ v_23.toInt := (by have z := bn_nlt c; have k1 : (0 : Int32).toInt = 0 := (by decide); omega)
          refine lv_iload hx hb dX12_chairsOn_45 (lv_at hl 3 rfl) ?_
          refine lv_aload_n hx hb dX12_chairsOn_47 rfl (lv_at hl 0 rfl) ?_
          refine sg_get (ci := 12) (v := .int v_23) (C := RX12) (T := TX12) (N := 55) hx hb hts (fun w h => List.mem_cons_of_mem _ (gx_12 w h)) hown hK hP 0 (by decide) rfl rfl 35 (by decide) (hts _ (List.mem_cons_of_mem _ mw_816)) (fun _ h9 => h9) (congrArg (fun z => some (Value.int z)) (show fp_14 0 35 = v_23 from ev_23.symm)) dX12_chairsOn_48 ?_
          refine lv_icmp_ge (tgt := 92) hx hb dX12_chairsOn_51 (by decide) (fun c => ?_) (fun c => ?_)
          · skip
            have c_26 : v_23.toInt ≤ y5_14.toInt := (by have z := bn_le c; omega)
            exact hret _ _ _ _ fp_14 L Q dX12_chairsOn_92 hP hS ⟨hI, hF, rfl, rfl⟩
          · skip
            have c_27 : y5_14.toInt < v_23.toInt := (by have z := bn_nle c; omega)
            exact blk_54 y5_14 fp_14 _ _ _ (by have zz0_6 : (fp_14 0 6).toInt = v_18.toInt := (congrArg Int32.toInt (show fp_14 0 6 = v_18 from ev_18.symm)); omega) hI hF hP hS (lv_sub hl [0, 3] rfl)
      · skip
        have c_22 : y6_14.toInt < x1.toInt := (by have z := bn_nle c; omega)
        refine lv_iload hx hb dX12_chairsOn_20 (lv_at hl 3 rfl) ?_
        refine lv_aload_n hx hb dX12_chairsOn_22 rfl (lv_at hl 0 rfl) ?_
        refine lv_iload_n hx hb dX12_chairsOn_23 rfl (lv_at hl 2 rfl) ?_
        refine lv_iload hx hb dX12_chairsOn_24 (lv_at hl 4 rfl) ?_
        refine sg_calli (va_runV (As := [.int x2, .int y6_14]) (rest := [.int y5_14]) ⟨hx, hb, hml, hown, hts⟩ (kX12_chairLoss l D ca za h hh fp_14 L Q hI x2 y6_14 (by omega) (by omega) H.size) (cwV 2 hts (gw_V (fun _ h => List.mem_cons_of_mem _ h) mw_873 mw_874 mw_875 mw_619 mw_872) rfl rfl rfl (by decide +kernel) ⟨Nat.le_of_ble_eq_true rfl, Nat.le_of_ble_eq_true rfl⟩) (sg_preV (ci := 12) (C := RX12) (T := TX12) (N := 55) hA hK hP hS hZ 0 (by decide) rfl rfl) rfl rfl hl.1 rfl (lv_room (Nat.le_of_ble_eq_true rfl)) dX12_chairsOn_26 ⟨Nat.le_refl _, Nat.le_refl _⟩) hA hS (fun r_31 f_28 L_29 Q_30 H locs hq hP hS => ?_)
        obtain ⟨⟨ef9, eL9, eQ9⟩, hq⟩ := hq
        rw [ef9, eL9, eQ9] at hP; clear ef9 eL9 eQ9
        refine lv_iadd hx hb dX12_chairsOn_29 ?_
        refine lv_topi (fun v_32 ev_32 => ?_)
        refine lv_istore (lv' := [(5, .int v_32), (0, .ref (h 0)), (2, .int x1), (3, .int x2), (6, .int y6_14)]) hx hb dX12_chairsOn_30 hl (by decide) rfl (fun ls hl => ?_)
        obtain ⟨v_33, ev_33⟩ : ∃ z : Int32, z = y6_14 + 1 := ⟨_, rfl⟩
        have q_34 : v_33.toInt = y6_14.toInt + 1 := by rw [ev_33]; exact (bn_addc y6_14 1 (by decide) (by omega) (by omega))
        refine lv_iinc (v := v_33) (lv' := [(6, .int v_33), (5, .int v_32), (0, .ref (h 0)), (2, .int x1), (3, .int x2)]) hx hb dX12_chairsOn_32 hl (k := 4) rfl (by rw [ev_33]; rfl) (by decide) rfl (fun ls hl => ?_)
        refine lv_goto (tgt := 14) hx hb dX12_chairsOn_35 (by decide) ?_
        exact ih_14 v_32 v_33 fp_14 _ _ _ (by omega) (by have zz0_6 : (fp_14 0 6).toInt = v_18.toInt := (congrArg Int32.toInt (show fp_14 0 6 = v_18 from ev_18.symm)); omega) (by omega) hI hF hP hS (lv_sub hl [2, 3, 4, 1, 0] rfl)
  have loop_116 : ∀ (n_116 : Nat) (y5_116 : Int32) (fp_116 : sg_F) (H : Heap) (locs : List Loc) (ls : Array Slot), 7 - y5_116.toInt < (n_116 : Int) → 7 ≤ (fp_116 0 6).toInt ∧ (fp_116 0 6).toInt ≤ 8 → 0 ≤ y5_116.toInt ∧ y5_116.toInt ≤ 7 → sgI loM hiM fp_116 → sgK WkX12_chairsOn_6 f fp_116 → va_P D vwCl (sgw 26 h (eM ca h) fp_116 L Q) H → va_S (sgA 26 h s.heap.size) s.heap H locs → lv_has ls 7 [(0, .ref (h 0)), (1, .int 6), (2, .int x1), (3, .int x2), (4, .int x3), (5, .int y5_116)] → W p l e ({ frames := 4, cells := 0, slots := 0, locals := 99 }) s m ([.ref (h 0), .int 6, .int x1, .int x2, .int x3] : List Value).toArray below meth cd H locs 0 0 Qz (F0 m 116 ls []) := by
    intro n_116
    induction n_116 with
    | zero => intro y5_116 fp_116 H locs ls hm_116 hy0_116 hy1_116 hI hF hP hS hl; exact absurd hm_116 (by omega)
    | succ n_116 ih_116 =>
      intro y5_116 fp_116 H locs ls hm_116 hy0_116 hy1_116 hI hF hP hS hl
      obtain ⟨v_35, ev_35⟩ : ∃ z : Int32, z = fp_116 0 6 := ⟨_, rfl⟩
      have q_36 : 0 ≤ v_35.toInt ∧ v_35.toInt ≤ 8 := by rw [ev_35]; exact hI 0 6
      have q_37 : (fp_116 0 6).toInt = v_35.toInt := by rw [ev_35]
      refine lv_iload hx hb dX12_chairsOn_116 (lv_at hl 5 rfl) ?_
      refine lv_iload hx hb dX12_chairsOn_118 (lv_at hl 4 rfl) ?_
      refine lv_icmp_ge (tgt := 166) hx hb dX12_chairsOn_120 (by decide) (fun c => ?_) (fun c => ?_)
      · skip
        have c_38 : x3.toInt ≤ y5_116.toInt := (by have z := bn_le c; omega)
        exact hret _ _ _ _ fp_116 L Q dX12_chairsOn_166 hP hS ⟨hI, hF, rfl, rfl⟩
      · skip
        have c_39 : y5_116.toInt < x3.toInt := (by have z := bn_nle c; omega)
        refine lv_iload hx hb dX12_chairsOn_123 (lv_at hl 5 rfl) ?_
        refine lv_iload_n hx hb dX12_chairsOn_125 rfl (lv_at hl 2 rfl) ?_
        refine lv_icmp_gt (tgt := 166) hx hb dX12_chairsOn_126 (by decide) (fun c => ?_) (fun c => ?_)
        · skip
          have c_40 : x1.toInt < y5_116.toInt := (by have z := bn_lt c; omega)
          exact hret _ _ _ _ fp_116 L Q dX12_chairsOn_166 hP hS ⟨hI, hF, rfl, rfl⟩
        · skip
          have c_41 : y5_116.toInt ≤ x1.toInt := (by have z := bn_nlt c; omega)
          refine lv_aload_n hx hb dX12_chairsOn_129 rfl (lv_at hl 0 rfl) ?_
          refine sg_get (ci := 12) (v := .ref (h 15)) (C := RX12) (T := TX12) (N := 55) hx hb hts (fun w h => List.mem_cons_of_mem _ (gx_12 w h)) hown hK hP 0 (by decide) rfl rfl 33 (by decide) (hts _ (List.mem_cons_of_mem _ mw_834)) (fun _ h9 => h9) rfl dX12_chairsOn_130 ?_
          refine lv_iload_n hx hb dX12_chairsOn_133 rfl (lv_at hl 1 rfl) ?_
          refine lv_iload hx hb dX12_chairsOn_134 (lv_at hl 5 rfl) ?_
          refine sg_iast hx hb hh hA hK hP hS 15 (by decide) 0 (fun _ => rfl) rfl (i := 6) (x := y5_116) (vp_in_iff.mpr (by decide)) dX12_chairsOn_136 (fun f_42 H locs ef_42 hP hS => ?_)
          have hI : sgI loM hiM f_42 := by rw [ef_42]; exact sgI.put hI 15 (Int32.toNatClampNeg 6) (show 0 ≤ (y5_116 : Int32).toInt ∧ (y5_116 : Int32).toInt ≤ 7 from by omega)
          have hF : sgK WkX12_chairsOn_6 f f_42 := sgK.put hF ef_42 (by rfl)
          refine lv_aload_n hx hb dX12_chairsOn_137 rfl (lv_at hl 0 rfl) ?_
          refine lv_iload_n hx hb dX12_chairsOn_138 rfl (lv_at hl 1 rfl) ?_
          refine lv_iconst (v := 1) hx hb dX12_chairsOn_139 (by decide) ?_
          refine lv_iadd hx hb dX12_chairsOn_140 ?_
          refine W.eq (g2 := F0 m 141 ls [.int 7, .ref (h 0)]) (by rw [show (6 + 1 : Int32) = 7 from by decide]) ?_
          refine lv_iload hx hb dX12_chairsOn_141 (lv_at hl 5 rfl) ?_
          refine lv_iload_n hx hb dX12_chairsOn_143 rfl (lv_at hl 2 rfl) ?_
          refine lv_icmp_ne (tgt := 153) hx hb dX12_chairsOn_144 (by decide) (fun c => ?_) (fun c => ?_)
          · skip
            have c_43 : y5_116.toInt ≠ x1.toInt := (by have z := bn_ne c; omega)
            refine lv_iload_n hx hb dX12_chairsOn_153 rfl (lv_at hl 2 rfl) ?_
            refine lv_iload_n hx hb dX12_chairsOn_154 rfl (lv_at hl 3 rfl) ?_
            refine lv_iload hx hb dX12_chairsOn_155 (lv_at hl 4 rfl) ?_
            have q_45 : (f_42 0 6).toInt = v_35.toInt := (congrArg Int32.toInt (show f_42 0 6 = v_35 from (by rw [ef_42, sg_up_n (by decide)]; exact ev_35.symm)))
            have q_46 : (f_42 0 6).toInt = v_35.toInt := (congrArg Int32.toInt (show f_42 0 6 = v_35 from (by rw [ef_42, sg_up_n (by decide)]; exact ev_35.symm)))
            refine sg_callv (va_runV (As := [.int 7, .int x1, .int x2, .int x3]) (rest := []) ⟨hx, hb, hml, hown, hts⟩ (kX12_chairsOn_7 l D ca za h hh f_42 L Q hI x1 x2 x3 (by omega) (by omega) (by omega) (by have k0 : (7 : Int32).toInt = 7 := (by decide); omega) H.size) (cwV 4 hts (gw_V (fun _ h => List.mem_cons_of_mem _ h) mw_860 mw_861 mw_862 mw_619 mw_859) rfl rfl rfl (by decide +kernel) ⟨Nat.le_of_ble_eq_true rfl, Nat.le_of_ble_eq_true rfl⟩) (sg_preV (ci := 12) (C := RX12) (T := TX12) (N := 55) hA hK hP hS hZ 0 (by decide) rfl rfl) rfl rfl hl.1 rfl (lv_room (Nat.le_of_ble_eq_true rfl)) dX12_chairsOn_157 ⟨Nat.le_refl _, Nat.le_refl _⟩) hA hS (fun f_47 L_48 Q_49 H locs hq hP hS => ?_)
            obtain ⟨hI, hk_f_47, eL9, eQ9⟩ := hq
            rw [eL9, eQ9] at hP; clear eL9 eQ9
            have hF : sgK WkX12_chairsOn_6 f f_47 := sgK.tr hF hk_f_47 (by decide)
            obtain ⟨v_50, ev_50⟩ : ∃ z : Int32, z = y5_116 + 1 := ⟨_, rfl⟩
            have q_51 : v_50.toInt = y5_116.toInt + 1 := by rw [ev_50]; exact (bn_addc y5_116 1 (by decide) (by omega) (by omega))
            refine lv_iinc (v := v_50) (lv' := [(5, .int v_50), (0, .ref (h 0)), (1, .int 6), (2, .int x1), (3, .int x2), (4, .int x3)]) hx hb dX12_chairsOn_160 hl (k := 5) rfl (by rw [ev_50]; rfl) (by decide) rfl (fun ls hl => ?_)
            refine lv_goto (tgt := 116) hx hb dX12_chairsOn_163 (by decide) ?_
            exact ih_116 v_50 f_47 _ _ _ (by omega) (by have zz0_6 : (f_47 0 6).toInt = v_35.toInt := (congrArg Int32.toInt (show f_47 0 6 = v_35 from ((hk_f_47 0 6 (by decide)).trans (by rw [ef_42, sg_up_n (by decide)]; exact ev_35.symm)))); omega) (by omega) hI hF hP hS (lv_sub hl [1, 2, 3, 4, 5, 0] rfl)
          · skip
            have c_44 : y5_116.toInt = x1.toInt := (by have z := Int32.toInt_inj.mpr c; omega)
            refine lv_iload_n hx hb dX12_chairsOn_147 rfl (lv_at hl 2 rfl) ?_
            refine lv_iconst (v := 1) hx hb dX12_chairsOn_148 (by decide) ?_
            refine lv_iadd hx hb dX12_chairsOn_149 ?_
            refine lv_topi (fun v_52 ev_52 => ?_)
            have q_53 : v_52.toInt = x1.toInt + 1 := by rw [ev_52]; have k1 : (1 : Int32).toInt = 1 := (by decide); exact (bn_addI (by omega) (by omega)).trans (by omega)
            refine lv_goto (tgt := 154) hx hb dX12_chairsOn_150 (by decide) ?_
            refine lv_iload_n hx hb dX12_chairsOn_154 rfl (lv_at hl 3 rfl) ?_
            refine lv_iload hx hb dX12_chairsOn_155 (lv_at hl 4 rfl) ?_
            have q_54 : (f_42 0 6).toInt = v_35.toInt := (congrArg Int32.toInt (show f_42 0 6 = v_35 from (by rw [ef_42, sg_up_n (by decide)]; exact ev_35.symm)))
            have q_55 : (f_42 0 6).toInt = v_35.toInt := (congrArg Int32.toInt (show f_42 0 6 = v_35 from (by rw [ef_42, sg_up_n (by decide)]; exact ev_35.symm)))
            refine sg_callv (va_runV (As := [.int 7, .int v_52, .int x2, .int x3]) (rest := []) ⟨hx, hb, hml, hown, hts⟩ (kX12_chairsOn_7 l D ca za h hh f_42 L Q hI v_52 x2 x3 (by omega) (by omega) (by omega) (by have k0 : (7 : Int32).toInt = 7 := (by decide); omega) H.size) (cwV 4 hts (gw_V (fun _ h => List.mem_cons_of_mem _ h) mw_860 mw_861 mw_862 mw_619 mw_859) rfl rfl rfl (by decide +kernel) ⟨Nat.le_of_ble_eq_true rfl, Nat.le_of_ble_eq_true rfl⟩) (sg_preV (ci := 12) (C := RX12) (T := TX12) (N := 55) hA hK hP hS hZ 0 (by decide) rfl rfl) rfl rfl hl.1 rfl (lv_room (Nat.le_of_ble_eq_true rfl)) dX12_chairsOn_157 ⟨Nat.le_refl _, Nat.le_refl _⟩) hA hS (fun f_56 L_57 Q_58 H locs hq hP hS => ?_)
            obtain ⟨hI, hk_f_56, eL9, eQ9⟩ := hq
            rw [eL9, eQ9] at hP; clear eL9 eQ9
            have hF : sgK WkX12_chairsOn_6 f f_56 := sgK.tr hF hk_f_56 (by decide)
            obtain ⟨v_59, ev_59⟩ : ∃ z : Int32, z = y5_116 + 1 := ⟨_, rfl⟩
            have q_60 : v_59.toInt = y5_116.toInt + 1 := by rw [ev_59]; exact (bn_addc y5_116 1 (by decide) (by omega) (by omega))
            refine lv_iinc (v := v_59) (lv' := [(5, .int v_59), (0, .ref (h 0)), (1, .int 6), (2, .int x1), (3, .int x2), (4, .int x3)]) hx hb dX12_chairsOn_160 hl (k := 5) rfl (by rw [ev_59]; rfl) (by decide) rfl (fun ls hl => ?_)
            refine lv_goto (tgt := 116) hx hb dX12_chairsOn_163 (by decide) ?_
            exact ih_116 v_59 f_56 _ _ _ (by omega) (by have zz0_6 : (f_56 0 6).toInt = v_35.toInt := (congrArg Int32.toInt (show f_56 0 6 = v_35 from ((hk_f_56 0 6 (by decide)).trans (by rw [ef_42, sg_up_n (by decide)]; exact ev_35.symm)))); omega) (by omega) hI hF hP hS (lv_sub hl [1, 2, 3, 4, 5, 0] rfl)
  refine lv_iload_n hx hb dX12_chairsOn_0 rfl (lv_at hl 1 rfl) ?_
  refine lv_aload_n hx hb dX12_chairsOn_1 rfl (lv_at hl 0 rfl) ?_
  refine sg_get (ci := 12) (v := .int v_1) (C := RX12) (T := TX12) (N := 55) hx hb hts (fun w h => List.mem_cons_of_mem _ (gx_12 w h)) hown hK hP 0 (by decide) rfl rfl 6 (by decide) (hts _ (List.mem_cons_of_mem _ mw_622)) (fun _ h9 => h9) (congrArg (fun z => some (Value.int z)) (show f 0 6 = v_1 from ev_1.symm)) dX12_chairsOn_2 ?_
  refine lv_icmp_ne (tgt := 93) hx hb dX12_chairsOn_5 (by decide) (fun c => ?_) (fun c => ?_)
  · skip
    have c_61 : 6 ≠ v_1.toInt := (by have z := bn_ne c; have k0 : (6 : Int32).toInt = 6 := (by decide); omega)
    refine lv_iload_n hx hb dX12_chairsOn_93 rfl (lv_at hl 3 rfl) ?_
    refine lv_iload_n hx hb dX12_chairsOn_94 rfl (lv_at hl 1 rfl) ?_
    refine sg_calli (va_runS (As := [.int x2, .int 6]) (rest := []) ⟨hx, hb, hml, hown, hts⟩ (kX12_isIn l D ca za h hh f L Q hI x2 6 (by omega) (by decide) H.size) (va_cwS 2 hts (gw_S (fun _ h => List.mem_cons_of_mem _ h) mw_832 mw_833 mw_619 mw_831) rfl rfl rfl (by decide +kernel) ⟨Nat.le_of_ble_eq_true rfl, Nat.le_of_ble_eq_true rfl⟩) (sg_preS hA hK hP hS hZ) rfl rfl hl.1 rfl (lv_room (Nat.le_of_ble_eq_true rfl)) dX12_chairsOn_95 ⟨Nat.le_refl _, Nat.le_refl _⟩) hA hS (fun r_66 f_63 L_64 Q_65 H locs hq hP hS => ?_)
    obtain ⟨⟨ef9, eL9, eQ9⟩, hq⟩ := hq
    rw [ef9, eL9, eQ9] at hP; clear ef9 eL9 eQ9
    refine lv_if_ne (tgt := 113) hx hb dX12_chairsOn_98 (by decide) (fun c => ?_) (fun c => ?_)
    · skip
      have c_67 : r_66.toInt ≠ 0 := (by have z := bn_ne c; have k1 : (0 : Int32).toInt = 0 := (by decide); omega)
      refine lv_iconst (v := 0) hx hb dX12_chairsOn_113 (by decide) ?_
      refine lv_istore (lv' := [(5, .int 0), (0, .ref (h 0)), (1, .int 6), (2, .int x1), (3, .int x2), (4, .int x3)]) hx hb dX12_chairsOn_114 hl (by decide) rfl (fun ls hl => ?_)
      exact loop_116 8 0 f _ _ _ (by have kc0 : (0 : Int32).toInt = 0 := (by decide); omega) (by have zz0_6 : (f 0 6).toInt = v_1.toInt := (congrArg Int32.toInt (show f 0 6 = v_1 from ev_1.symm)); omega) (by decide) hI hF hP hS (lv_sub hl [1, 2, 3, 4, 5, 0] rfl)
    · skip
      have c_68 : r_66.toInt = 0 := (by have z := Int32.toInt_inj.mpr c; have k1 : (0 : Int32).toInt = 0 := (by decide); omega)
      refine lv_aload_n hx hb dX12_chairsOn_101 rfl (lv_at hl 0 rfl) ?_
      refine lv_iload_n hx hb dX12_chairsOn_102 rfl (lv_at hl 1 rfl) ?_
      refine lv_iconst (v := 1) hx hb dX12_chairsOn_103 (by decide) ?_
      refine lv_iadd hx hb dX12_chairsOn_104 ?_
      refine W.eq (g2 := F0 m 105 ls [.int 7, .ref (h 0)]) (by rw [show (6 + 1 : Int32) = 7 from by decide]) ?_
      refine lv_iload_n hx hb dX12_chairsOn_105 rfl (lv_at hl 2 rfl) ?_
      refine lv_iload_n hx hb dX12_chairsOn_106 rfl (lv_at hl 3 rfl) ?_
      refine lv_iload hx hb dX12_chairsOn_107 (lv_at hl 4 rfl) ?_
      have q_69 : (f 0 6).toInt = v_1.toInt := (congrArg Int32.toInt (show f 0 6 = v_1 from ev_1.symm))
      have q_70 : (f 0 6).toInt = v_1.toInt := (congrArg Int32.toInt (show f 0 6 = v_1 from ev_1.symm))
      refine sg_callv (va_runV (As := [.int 7, .int x1, .int x2, .int x3]) (rest := []) ⟨hx, hb, hml, hown, hts⟩ (kX12_chairsOn_7 l D ca za h hh f L Q hI x1 x2 x3 (by omega) (by omega) (by omega) (by have k0 : (7 : Int32).toInt = 7 := (by decide); omega) H.size) (cwV 4 hts (gw_V (fun _ h => List.mem_cons_of_mem _ h) mw_860 mw_861 mw_862 mw_619 mw_859) rfl rfl rfl (by decide +kernel) ⟨Nat.le_of_ble_eq_true rfl, Nat.le_of_ble_eq_true rfl⟩) (sg_preV (ci := 12) (C := RX12) (T := TX12) (N := 55) hA hK hP hS hZ 0 (by decide) rfl rfl) rfl rfl hl.1 rfl (lv_room (Nat.le_of_ble_eq_true rfl)) dX12_chairsOn_109 ⟨Nat.le_refl _, Nat.le_refl _⟩) hA hS (fun f_71 L_72 Q_73 H locs hq hP hS => ?_)
      obtain ⟨hI, hk_f_71, eL9, eQ9⟩ := hq
      rw [eL9, eQ9] at hP; clear eL9 eQ9
      have hF : sgK WkX12_chairsOn_6 f f_71 := sgK.tr hF hk_f_71 (by decide)
      exact hret _ _ _ _ f_71 L Q dX12_chairsOn_112 hP hS ⟨hI, hF, rfl, rfl⟩
  · skip
    have c_62 : 6 = v_1.toInt := (by have z := Int32.toInt_inj.mpr c; have k0 : (6 : Int32).toInt = 6 := (by decide); omega)
    refine lv_iconst (v := 0) hx hb dX12_chairsOn_8 (by decide) ?_
    refine lv_istore (lv' := [(5, .int 0), (0, .ref (h 0)), (1, .int 6), (2, .int x1), (3, .int x2), (4, .int x3)]) hx hb dX12_chairsOn_9 hl (by decide) rfl (fun ls hl => ?_)
    refine lv_iconst (v := 0) hx hb dX12_chairsOn_11 (by decide) ?_
    refine lv_istore (lv' := [(6, .int 0), (5, .int 0), (0, .ref (h 0)), (1, .int 6), (2, .int x1), (3, .int x2), (4, .int x3)]) hx hb dX12_chairsOn_12 hl (by decide) rfl (fun ls hl => ?_)
    exact loop_14 7 0 0 f _ _ _ (by have kc0 : (0 : Int32).toInt = 0 := (by decide); have kc1 : (0 : Int32).toInt = 0 := (by decide); omega) (by have zz0_6 : (f 0 6).toInt = v_1.toInt := (congrArg Int32.toInt (show f 0 6 = v_1 from ev_1.symm)); omega) (by decide) hI hF hP hS (lv_sub hl [2, 4, 5, 1, 0] rfl)

abbrev WkX12_chairsOn_5 : List (Nat × Nat × Option Nat) := [(0, 0, some 35), (15, 15, none), (16, 16, none)]
set_option maxHeartbeats 4000000 in
set_option maxRecDepth 100000 in
theorem kX12_chairsOn_5 (l : Launch) (D : va_G) (ca : Nat → ClassId) (za h : Nat → Nat) (hh : sgH 26 h) (f : sg_F) (L : sg_L) (Q : sg_Q) (hI : sgI loM hiM f) (x1 : Int32) (x2 : Int32) (x3 : Int32) (b1 : 0 ≤ x1.toInt ∧ x1.toInt ≤ 5) (b2 : 0 ≤ x2.toInt ∧ x2.toInt ≤ 255) (b3 : 0 ≤ x3.toInt ∧ x3.toInt ≤ 9) (p0 : 5 ≤ (f 0 6).toInt ∧ (f 0 6).toInt ≤ 8) (sz : Nat) : Met l yX12_chairsOn gwX12_chairsOn { frames := 5, cells := 0, slots := 0, locals := 125 } (sgP D vwCl (tyX ca) 26 h (eM ca h) zcM za f L Q sz [.ref (h 0), .int 5, .int x1, .int x2, .int x3]) (sgQv D vwCl 26 h (eM ca h) sz (fun f1 L1 Q1 => ((sgI loM hiM f1 ∧ sgK WkX12_chairsOn_5 f f1 ∧ L1 = L ∧ Q1 = Q)))) 0 0 (sgA 26 h sz) := by
  refine sg_ofWv (cc := cX12_chairsOn) (maxL := 7) RX12 (by decide) rfl rfl (Nat.le_of_ble_eq_true rfl) ?_
  intro p e s m below meth cd Qz ls hx hb hml hown hts hK hZ hP hS hl hret
  have hA := sgY.self (n := 26) (h := h) (sz := s.heap.size)
  have hl : lv_has ls 7 [(0, .ref (h 0)), (1, .int 5), (2, .int x1), (3, .int x2), (4, .int x3)] := hl
  obtain ⟨H, hH⟩ : ∃ z : Heap, z = s.heap := ⟨_, rfl⟩
  obtain ⟨locs, hlo⟩ : ∃ z : List Loc, z = [] := ⟨_, rfl⟩
  have hP : va_P D vwCl (sgw 26 h (eM ca h) f L Q) H := by rw [hH]; exact hP
  have hS : va_S (sgA 26 h s.heap.size) s.heap H locs := by rw [hH, hlo]; exact hS
  suffices hgo : W p l e ({ frames := 5, cells := 0, slots := 0, locals := 125 }) s m ([.ref (h 0), .int 5, .int x1, .int x2, .int x3] : List Value).toArray below meth cd H locs 0 0 Qz (F0 m 0 ls []) by rw [hH, hlo] at hgo; exact hgo
  clear hH hlo
  obtain ⟨v_1, ev_1⟩ : ∃ z : Int32, z = f 0 6 := ⟨_, rfl⟩
  have q_2 : 0 ≤ v_1.toInt ∧ v_1.toInt ≤ 8 := by rw [ev_1]; exact hI 0 6
  have o_3 : (f 0 6).toInt = v_1.toInt := (congrArg Int32.toInt (show f 0 6 = v_1 from ev_1.symm))
  have hF : sgK WkX12_chairsOn_5 f f := sgK.rf
  have loop_63 : ∀ (n_63 : Nat) (y6_63 : Int32) (fp_63 : sg_F) (H : Heap) (locs : List Loc) (ls : Array Slot), 5 - y6_63.toInt < (n_63 : Int) → 5 ≤ (fp_63 0 6).toInt ∧ (fp_63 0 6).toInt ≤ 5 → 0 ≤ y6_63.toInt ∧ y6_63.toInt ≤ 5 → sgI loM hiM fp_63 → sgK WkX12_chairsOn_5 f fp_63 → va_P D vwCl (sgw 26 h (eM ca h) fp_63 L Q) H → va_S (sgA 26 h s.heap.size) s.heap H locs → lv_has ls 7 [(0, .ref (h 0)), (6, .int y6_63)] → W p l e ({ frames := 5, cells := 0, slots := 0, locals := 125 }) s m ([.ref (h 0), .int 5, .int x1, .int x2, .int x3] : List Value).toArray below meth cd H locs 0 0 Qz (F0 m 63 ls []) := by
    intro n_63
    induction n_63 with
    | zero => intro y6_63 fp_63 H locs ls hm_63 hy0_63 hy1_63 hI hF hP hS hl; exact absurd hm_63 (by omega)
    | succ n_63 ih_63 =>
      intro y6_63 fp_63 H locs ls hm_63 hy0_63 hy1_63 hI hF hP hS hl
      obtain ⟨v_4, ev_4⟩ : ∃ z : Int32, z = fp_63 0 6 := ⟨_, rfl⟩
      have q_5 : 0 ≤ v_4.toInt ∧ v_4.toInt ≤ 8 := by rw [ev_4]; exact hI 0 6
      have q_6 : (fp_63 0 6).toInt = v_4.toInt := by rw [ev_4]
      refine lv_iload hx hb dX12_chairsOn_63 (lv_at hl 1 rfl) ?_
      refine lv_aload_n hx hb dX12_chairsOn_65 rfl (lv_at hl 0 rfl) ?_
      refine sg_get (ci := 12) (v := .int v_4) (C := RX12) (T := TX12) (N := 55) hx hb hts (fun w h => List.mem_cons_of_mem _ (gx_12 w h)) hown hK hP 0 (by decide) rfl rfl 6 (by decide) (hts _ (List.mem_cons_of_mem _ mw_622)) (fun _ h9 => h9) (congrArg (fun z => some (Value.int z)) (show fp_63 0 6 = v_4 from ev_4.symm)) dX12_chairsOn_66 ?_
      refine lv_icmp_ge (tgt := 92) hx hb dX12_chairsOn_69 (by decide) (fun c => ?_) (fun c => ?_)
      · skip
        have c_7 : v_4.toInt ≤ y6_63.toInt := (by have z := bn_le c; omega)
        exact hret _ _ _ _ fp_63 L Q dX12_chairsOn_92 hP hS ⟨hI, hF, rfl, rfl⟩
      · skip
        have c_8 : y6_63.toInt < v_4.toInt := (by have z := bn_nle c; omega)
        refine lv_aload_n hx hb dX12_chairsOn_72 rfl (lv_at hl 0 rfl) ?_
        refine sg_get (ci := 12) (v := .ref (h 16)) (C := RX12) (T := TX12) (N := 55) hx hb hts (fun w h => List.mem_cons_of_mem _ (gx_12 w h)) hown hK hP 0 (by decide) rfl rfl 34 (by decide) (hts _ (List.mem_cons_of_mem _ mw_863)) (fun _ h9 => h9) rfl dX12_chairsOn_73 ?_
        refine lv_iload hx hb dX12_chairsOn_76 (lv_at hl 1 rfl) ?_
        refine lv_aload_n hx hb dX12_chairsOn_78 rfl (lv_at hl 0 rfl) ?_
        refine sg_get (ci := 12) (v := .ref (h 15)) (C := RX12) (T := TX12) (N := 55) hx hb hts (fun w h => List.mem_cons_of_mem _ (gx_12 w h)) hown hK hP 0 (by decide) rfl rfl 33 (by decide) (hts _ (List.mem_cons_of_mem _ mw_834)) (fun _ h9 => h9) rfl dX12_chairsOn_79 ?_
        refine lv_iload hx hb dX12_chairsOn_82 (lv_at hl 1 rfl) ?_
        refine sg_iald hx hb hK hP 15 (by decide) 0 rfl rfl (i := y6_63) (vp_in_iff.mpr ⟨by omega, by omega⟩) dX12_chairsOn_84 ?_
        refine lv_topi (fun v_9 ev_9 => ?_)
        have q_10 : 0 ≤ v_9.toInt ∧ v_9.toInt ≤ 7 := by rw [ev_9]; exact hI 15 _
        refine sg_iast hx hb hh hA hK hP hS 16 (by decide) 0 (fun _ => rfl) rfl (i := y6_63) (x := v_9) (vp_in_iff.mpr ⟨by omega, by omega⟩) dX12_chairsOn_85 (fun f_11 H locs ef_11 hP hS => ?_)
        have hI : sgI loM hiM f_11 := by rw [ef_11]; exact sgI.put hI 16 y6_63.toNatClampNeg (show 0 ≤ (v_9 : Int32).toInt ∧ (v_9 : Int32).toInt ≤ 7 from by omega)
        have hF : sgK WkX12_chairsOn_5 f f_11 := sgK.put hF ef_11 (by rfl)
        obtain ⟨v_12, ev_12⟩ : ∃ z : Int32, z = y6_63 + 1 := ⟨_, rfl⟩
        have q_13 : v_12.toInt = y6_63.toInt + 1 := by rw [ev_12]; exact (bn_addc y6_63 1 (by decide) (by omega) (by omega))
        refine lv_iinc (v := v_12) (lv' := [(6, .int v_12), (0, .ref (h 0))]) hx hb dX12_chairsOn_86 hl (k := 1) rfl (by rw [ev_12]; rfl) (by decide) rfl (fun ls hl => ?_)
        refine lv_goto (tgt := 63) hx hb dX12_chairsOn_89 (by decide) ?_
        exact ih_63 v_12 f_11 _ _ _ (by omega) (by have zz0_6 : (f_11 0 6).toInt = v_4.toInt := (congrArg Int32.toInt (show f_11 0 6 = v_4 from (by rw [ef_11, sg_up_n (by decide)]; exact ev_4.symm))); omega) (by omega) hI hF hP hS (lv_sub hl [1, 0] rfl)
  have blk_54 : ∀ (y5_54 : Int32) (fp_54 : sg_F) (H : Heap) (locs : List Loc) (ls : Array Slot), 5 ≤ (fp_54 0 6).toInt ∧ (fp_54 0 6).toInt ≤ 5 → sgI loM hiM fp_54 → sgK WkX12_chairsOn_5 f fp_54 → va_P D vwCl (sgw 26 h (eM ca h) fp_54 L Q) H → va_S (sgA 26 h s.heap.size) s.heap H locs → lv_has ls 7 [(0, .ref (h 0)), (5, .int y5_54)] → W p l e ({ frames := 5, cells := 0, slots := 0, locals := 125 }) s m ([.ref (h 0), .int 5, .int x1, .int x2, .int x3] : List Value).toArray below meth cd H locs 0 0 Qz (F0 m 54 ls []) := by
    intro y5_54 fp_54 H locs ls hy0_54 hI hF hP hS hl
    obtain ⟨v_14, ev_14⟩ : ∃ z : Int32, z = fp_54 0 6 := ⟨_, rfl⟩
    have q_15 : 0 ≤ v_14.toInt ∧ v_14.toInt ≤ 8 := by rw [ev_14]; exact hI 0 6
    have q_16 : (fp_54 0 6).toInt = v_14.toInt := by rw [ev_14]
    refine lv_aload_n hx hb dX12_chairsOn_54 rfl (lv_at hl 0 rfl) ?_
    refine lv_iload hx hb dX12_chairsOn_55 (lv_at hl 1 rfl) ?_
    refine sg_put (ci := 12) (x := y5_54) (ty := .int) (C := RX12) (T := TX12) (N := 55) hx hb hts (fun w h => List.mem_cons_of_mem _ (gx_12 w h)) tyX12 tyX12_ok nmX12 hown hh hA hK hP hS 0 (by decide) rfl rfl 35 (by decide) (hts _ (List.mem_cons_of_mem _ mw_816)) (fun _ h9 => h9) rfl rfl (by decide +kernel) rfl rfl (Nat.le_of_ble_eq_true rfl) dX12_chairsOn_57 (fun f_17 H locs ef_17 hP hS => ?_)
    have hI : sgI loM hiM f_17 := by rw [ef_17]; exact sgI.put hI 0 35 (bn_top _)
    have hF : sgK WkX12_chairsOn_5 f f_17 := sgK.put hF ef_17 (by rfl)
    refine lv_iconst (v := 0) hx hb dX12_chairsOn_60 (by decide) ?_
    refine lv_istore (lv' := [(6, .int 0), (0, .ref (h 0)), (5, .int y5_54)]) hx hb dX12_chairsOn_61 hl (by decide) rfl (fun ls hl => ?_)
    exact loop_63 6 0 f_17 _ _ _ (by have kc0 : (0 : Int32).toInt = 0 := (by decide); omega) (by have zz0_6 : (f_17 0 6).toInt = v_14.toInt := (congrArg Int32.toInt (show f_17 0 6 = v_14 from (by rw [ef_17, sg_up_s, sgu_n (by decide)]; exact ev_14.symm))); omega) (by decide) hI hF hP hS (lv_sub hl [1, 0] rfl)
  have loop_14 : ∀ (n_14 : Nat) (y5_14 : Int32) (y6_14 : Int32) (fp_14 : sg_F) (H : Heap) (locs : List Loc) (ls : Array Slot), 5 - y6_14.toInt < (n_14 : Int) → 5 ≤ (fp_14 0 6).toInt ∧ (fp_14 0 6).toInt ≤ 5 → 0 ≤ y6_14.toInt ∧ y6_14.toInt ≤ 5 → sgI loM hiM fp_14 → sgK WkX12_chairsOn_5 f fp_14 → va_P D vwCl (sgw 26 h (eM ca h) fp_14 L Q) H → va_S (sgA 26 h s.heap.size) s.heap H locs → lv_has ls 7 [(0, .ref (h 0)), (2, .int x1), (3, .int x2), (5, .int y5_14), (6, .int y6_14)] → W p l e ({ frames := 5, cells := 0, slots := 0, locals := 125 }) s m ([.ref (h 0), .int 5, .int x1, .int x2, .int x3] : List Value).toArray below meth cd H locs 0 0 Qz (F0 m 14 ls []) := by
    intro n_14
    induction n_14 with
    | zero => intro y5_14 y6_14 fp_14 H locs ls hm_14 hy0_14 hy1_14 hI hF hP hS hl; exact absurd hm_14 (by omega)
    | succ n_14 ih_14 =>
      intro y5_14 y6_14 fp_14 H locs ls hm_14 hy0_14 hy1_14 hI hF hP hS hl
      obtain ⟨v_18, ev_18⟩ : ∃ z : Int32, z = fp_14 0 6 := ⟨_, rfl⟩
      have q_19 : 0 ≤ v_18.toInt ∧ v_18.toInt ≤ 8 := by rw [ev_18]; exact hI 0 6
      have q_20 : (fp_14 0 6).toInt = v_18.toInt := by rw [ev_18]
      refine lv_iload hx hb dX12_chairsOn_14 (lv_at hl 4 rfl) ?_
      refine lv_iload_n hx hb dX12_chairsOn_16 rfl (lv_at hl 1 rfl) ?_
      refine lv_icmp_ge (tgt := 38) hx hb dX12_chairsOn_17 (by decide) (fun c => ?_) (fun c => ?_)
      · skip
        have c_21 : x1.toInt ≤ y6_14.toInt := (by have z := bn_le c; omega)
        refine lv_aload_n hx hb dX12_chairsOn_38 rfl (lv_at hl 0 rfl) ?_
        refine sg_get (ci := 12) (v := .int (fp_14 0 35)) (C := RX12) (T := TX12) (N := 55) hx hb hts (fun w h => List.mem_cons_of_mem _ (gx_12 w h)) hown hK hP 0 (by decide) rfl rfl 35 (by decide) (hts _ (List.mem_cons_of_mem _ mw_816)) (fun _ h9 => h9) rfl dX12_chairsOn_39 ?_
        refine lv_topi (fun v_23 ev_23 => ?_)
        refine lv_if_lt (tgt := 54) hx hb dX12_chairsOn_42 (by decide) (fun c => ?_) (fun c => ?_)
        · skip
          have c_24 : v_23.toInt < 0 := (by have z := bn_lt c; have k1 : (0 : Int32).toInt = 0 := (by decide); omega)
          exact blk_54 y5_14 fp_14 _ _ _ (by have zz0_6 : (fp_14 0 6).toInt = v_18.toInt := (congrArg Int32.toInt (show fp_14 0 6 = v_18 from ev_18.symm)); omega) hI hF hP hS (lv_sub hl [0, 3] rfl)
        · skip
          have c_25 : 0 ≤ v_23.toInt := (by have z := bn_nlt c; have k1 : (0 : Int32).toInt = 0 := (by decide); omega)
          refine lv_iload hx hb dX12_chairsOn_45 (lv_at hl 3 rfl) ?_
          refine lv_aload_n hx hb dX12_chairsOn_47 rfl (lv_at hl 0 rfl) ?_
          refine sg_get (ci := 12) (v := .int v_23) (C := RX12) (T := TX12) (N := 55) hx hb hts (fun w h => List.mem_cons_of_mem _ (gx_12 w h)) hown hK hP 0 (by decide) rfl rfl 35 (by decide) (hts _ (List.mem_cons_of_mem _ mw_816)) (fun _ h9 => h9) (congrArg (fun z => some (Value.int z)) (show fp_14 0 35 = v_23 from ev_23.symm)) dX12_chairsOn_48 ?_
          refine lv_icmp_ge (tgt := 92) hx hb dX12_chairsOn_51 (by decide) (fun c => ?_) (fun c => ?_)
          · skip
            have c_26 : v_23.toInt ≤ y5_14.toInt := (by have z := bn_le c; omega)
            exact hret _ _ _ _ fp_14 L Q dX12_chairsOn_92 hP hS ⟨hI, hF, rfl, rfl⟩
          · skip
            have c_27 : y5_14.toInt < v_23.toInt := (by have z := bn_nle c; omega)
            exact blk_54 y5_14 fp_14 _ _ _ (by have zz0_6 : (fp_14 0 6).toInt = v_18.toInt := (congrArg Int32.toInt (show fp_14 0 6 = v_18 from ev_18.symm)); omega) hI hF hP hS (lv_sub hl [0, 3] rfl)
      · skip
        have c_22 : y6_14.toInt < x1.toInt := (by have z := bn_nle c; omega)
        refine lv_iload hx hb dX12_chairsOn_20 (lv_at hl 3 rfl) ?_
        refine lv_aload_n hx hb dX12_chairsOn_22 rfl (lv_at hl 0 rfl) ?_
        refine lv_iload_n hx hb dX12_chairsOn_23 rfl (lv_at hl 2 rfl) ?_
        refine lv_iload hx hb dX12_chairsOn_24 (lv_at hl 4 rfl) ?_
        refine sg_calli (va_runV (As := [.int x2, .int y6_14]) (rest := [.int y5_14]) ⟨hx, hb, hml, hown, hts⟩ (kX12_chairLoss l D ca za h hh fp_14 L Q hI x2 y6_14 (by omega) (by omega) H.size) (cwV 2 hts (gw_V (fun _ h => List.mem_cons_of_mem _ h) mw_873 mw_874 mw_875 mw_619 mw_872) rfl rfl rfl (by decide +kernel) ⟨Nat.le_of_ble_eq_true rfl, Nat.le_of_ble_eq_true rfl⟩) (sg_preV (ci := 12) (C := RX12) (T := TX12) (N := 55) hA hK hP hS hZ 0 (by decide) rfl rfl) rfl rfl hl.1 rfl (lv_room (Nat.le_of_ble_eq_true rfl)) dX12_chairsOn_26 ⟨Nat.le_refl _, Nat.le_refl _⟩) hA hS (fun r_31 f_28 L_29 Q_30 H locs hq hP hS => ?_)
        obtain ⟨⟨ef9, eL9, eQ9⟩, hq⟩ := hq
        rw [ef9, eL9, eQ9] at hP; clear ef9 eL9 eQ9
        refine lv_iadd hx hb dX12_chairsOn_29 ?_
        refine lv_topi (fun v_32 ev_32 => ?_)
        refine lv_istore (lv' := [(5, .int v_32), (0, .ref (h 0)), (2, .int x1), (3, .int x2), (6, .int y6_14)]) hx hb dX12_chairsOn_30 hl (by decide) rfl (fun ls hl => ?_)
        obtain ⟨v_33, ev_33⟩ : ∃ z : Int32, z = y6_14 + 1 := ⟨_, rfl⟩
        have q_34 : v_33.toInt = y6_14.toInt + 1 := by rw [ev_33]; exact (bn_addc y6_14 1 (by decide) (by omega) (by omega))
        refine lv_iinc (v := v_33) (lv' := [(6, .int v_33), (5, .int v_32), (0, .ref (h 0)), (2, .int x1), (3, .int x2)]) hx hb dX12_chairsOn_32 hl (k := 4) rfl (by rw [ev_33]; rfl) (by decide) rfl (fun ls hl => ?_)
        refine lv_goto (tgt := 14) hx hb dX12_chairsOn_35 (by decide) ?_
        exact ih_14 v_32 v_33 fp_14 _ _ _ (by omega) (by have zz0_6 : (fp_14 0 6).toInt = v_18.toInt := (congrArg Int32.toInt (show fp_14 0 6 = v_18 from ev_18.symm)); omega) (by omega) hI hF hP hS (lv_sub hl [2, 3, 4, 1, 0] rfl)
  have loop_116 : ∀ (n_116 : Nat) (y5_116 : Int32) (fp_116 : sg_F) (H : Heap) (locs : List Loc) (ls : Array Slot), 6 - y5_116.toInt < (n_116 : Int) → 6 ≤ (fp_116 0 6).toInt ∧ (fp_116 0 6).toInt ≤ 8 → 0 ≤ y5_116.toInt ∧ y5_116.toInt ≤ 6 → sgI loM hiM fp_116 → sgK WkX12_chairsOn_5 f fp_116 → va_P D vwCl (sgw 26 h (eM ca h) fp_116 L Q) H → va_S (sgA 26 h s.heap.size) s.heap H locs → lv_has ls 7 [(0, .ref (h 0)), (1, .int 5), (2, .int x1), (3, .int x2), (4, .int x3), (5, .int y5_116)] → W p l e ({ frames := 5, cells := 0, slots := 0, locals := 125 }) s m ([.ref (h 0), .int 5, .int x1, .int x2, .int x3] : List Value).toArray below meth cd H locs 0 0 Qz (F0 m 116 ls []) := by
    intro n_116
    induction n_116 with
    | zero => intro y5_116 fp_116 H locs ls hm_116 hy0_116 hy1_116 hI hF hP hS hl; exact absurd hm_116 (by omega)
    | succ n_116 ih_116 =>
      intro y5_116 fp_116 H locs ls hm_116 hy0_116 hy1_116 hI hF hP hS hl
      obtain ⟨v_35, ev_35⟩ : ∃ z : Int32, z = fp_116 0 6 := ⟨_, rfl⟩
      have q_36 : 0 ≤ v_35.toInt ∧ v_35.toInt ≤ 8 := by rw [ev_35]; exact hI 0 6
      have q_37 : (fp_116 0 6).toInt = v_35.toInt := by rw [ev_35]
      refine lv_iload hx hb dX12_chairsOn_116 (lv_at hl 5 rfl) ?_
      refine lv_iload hx hb dX12_chairsOn_118 (lv_at hl 4 rfl) ?_
      refine lv_icmp_ge (tgt := 166) hx hb dX12_chairsOn_120 (by decide) (fun c => ?_) (fun c => ?_)
      · skip
        have c_38 : x3.toInt ≤ y5_116.toInt := (by have z := bn_le c; omega)
        exact hret _ _ _ _ fp_116 L Q dX12_chairsOn_166 hP hS ⟨hI, hF, rfl, rfl⟩
      · skip
        have c_39 : y5_116.toInt < x3.toInt := (by have z := bn_nle c; omega)
        refine lv_iload hx hb dX12_chairsOn_123 (lv_at hl 5 rfl) ?_
        refine lv_iload_n hx hb dX12_chairsOn_125 rfl (lv_at hl 2 rfl) ?_
        refine lv_icmp_gt (tgt := 166) hx hb dX12_chairsOn_126 (by decide) (fun c => ?_) (fun c => ?_)
        · skip
          have c_40 : x1.toInt < y5_116.toInt := (by have z := bn_lt c; omega)
          exact hret _ _ _ _ fp_116 L Q dX12_chairsOn_166 hP hS ⟨hI, hF, rfl, rfl⟩
        · skip
          have c_41 : y5_116.toInt ≤ x1.toInt := (by have z := bn_nlt c; omega)
          refine lv_aload_n hx hb dX12_chairsOn_129 rfl (lv_at hl 0 rfl) ?_
          refine sg_get (ci := 12) (v := .ref (h 15)) (C := RX12) (T := TX12) (N := 55) hx hb hts (fun w h => List.mem_cons_of_mem _ (gx_12 w h)) hown hK hP 0 (by decide) rfl rfl 33 (by decide) (hts _ (List.mem_cons_of_mem _ mw_834)) (fun _ h9 => h9) rfl dX12_chairsOn_130 ?_
          refine lv_iload_n hx hb dX12_chairsOn_133 rfl (lv_at hl 1 rfl) ?_
          refine lv_iload hx hb dX12_chairsOn_134 (lv_at hl 5 rfl) ?_
          refine sg_iast hx hb hh hA hK hP hS 15 (by decide) 0 (fun _ => rfl) rfl (i := 5) (x := y5_116) (vp_in_iff.mpr (by decide)) dX12_chairsOn_136 (fun f_42 H locs ef_42 hP hS => ?_)
          have hI : sgI loM hiM f_42 := by rw [ef_42]; exact sgI.put hI 15 (Int32.toNatClampNeg 5) (show 0 ≤ (y5_116 : Int32).toInt ∧ (y5_116 : Int32).toInt ≤ 7 from by omega)
          have hF : sgK WkX12_chairsOn_5 f f_42 := sgK.put hF ef_42 (by rfl)
          refine lv_aload_n hx hb dX12_chairsOn_137 rfl (lv_at hl 0 rfl) ?_
          refine lv_iload_n hx hb dX12_chairsOn_138 rfl (lv_at hl 1 rfl) ?_
          refine lv_iconst (v := 1) hx hb dX12_chairsOn_139 (by decide) ?_
          refine lv_iadd hx hb dX12_chairsOn_140 ?_
          refine W.eq (g2 := F0 m 141 ls [.int 6, .ref (h 0)]) (by rw [show (5 + 1 : Int32) = 6 from by decide]) ?_
          refine lv_iload hx hb dX12_chairsOn_141 (lv_at hl 5 rfl) ?_
          refine lv_iload_n hx hb dX12_chairsOn_143 rfl (lv_at hl 2 rfl) ?_
          refine lv_icmp_ne (tgt := 153) hx hb dX12_chairsOn_144 (by decide) (fun c => ?_) (fun c => ?_)
          · skip
            have c_43 : y5_116.toInt ≠ x1.toInt := (by have z := bn_ne c; omega)
            refine lv_iload_n hx hb dX12_chairsOn_153 rfl (lv_at hl 2 rfl) ?_
            refine lv_iload_n hx hb dX12_chairsOn_154 rfl (lv_at hl 3 rfl) ?_
            refine lv_iload hx hb dX12_chairsOn_155 (lv_at hl 4 rfl) ?_
            have q_45 : (f_42 0 6).toInt = v_35.toInt := (congrArg Int32.toInt (show f_42 0 6 = v_35 from (by rw [ef_42, sg_up_n (by decide)]; exact ev_35.symm)))
            have q_46 : (f_42 0 6).toInt = v_35.toInt := (congrArg Int32.toInt (show f_42 0 6 = v_35 from (by rw [ef_42, sg_up_n (by decide)]; exact ev_35.symm)))
            refine sg_callv (va_runV (As := [.int 6, .int x1, .int x2, .int x3]) (rest := []) ⟨hx, hb, hml, hown, hts⟩ (kX12_chairsOn_6 l D ca za h hh f_42 L Q hI x1 x2 x3 (by omega) (by omega) (by omega) (by have k0 : (6 : Int32).toInt = 6 := (by decide); omega) H.size) (cwV 4 hts (gw_V (fun _ h => List.mem_cons_of_mem _ h) mw_860 mw_861 mw_862 mw_619 mw_859) rfl rfl rfl (by decide +kernel) ⟨Nat.le_of_ble_eq_true rfl, Nat.le_of_ble_eq_true rfl⟩) (sg_preV (ci := 12) (C := RX12) (T := TX12) (N := 55) hA hK hP hS hZ 0 (by decide) rfl rfl) rfl rfl hl.1 rfl (lv_room (Nat.le_of_ble_eq_true rfl)) dX12_chairsOn_157 ⟨Nat.le_refl _, Nat.le_refl _⟩) hA hS (fun f_47 L_48 Q_49 H locs hq hP hS => ?_)
            obtain ⟨hI, hk_f_47, eL9, eQ9⟩ := hq
            rw [eL9, eQ9] at hP; clear eL9 eQ9
            have hF : sgK WkX12_chairsOn_5 f f_47 := sgK.tr hF hk_f_47 (by decide)
            obtain ⟨v_50, ev_50⟩ : ∃ z : Int32, z = y5_116 + 1 := ⟨_, rfl⟩
            have q_51 : v_50.toInt = y5_116.toInt + 1 := by rw [ev_50]; exact (bn_addc y5_116 1 (by decide) (by omega) (by omega))
            refine lv_iinc (v := v_50) (lv' := [(5, .int v_50), (0, .ref (h 0)), (1, .int 5), (2, .int x1), (3, .int x2), (4, .int x3)]) hx hb dX12_chairsOn_160 hl (k := 5) rfl (by rw [ev_50]; rfl) (by decide) rfl (fun ls hl => ?_)
            refine lv_goto (tgt := 116) hx hb dX12_chairsOn_163 (by decide) ?_
            exact ih_116 v_50 f_47 _ _ _ (by omega) (by have zz0_6 : (f_47 0 6).toInt = v_35.toInt := (congrArg Int32.toInt (show f_47 0 6 = v_35 from ((hk_f_47 0 6 (by decide)).trans (by rw [ef_42, sg_up_n (by decide)]; exact ev_35.symm)))); omega) (by omega) hI hF hP hS (lv_sub hl [1, 2, 3, 4, 5, 0] rfl)
          · skip
            have c_44 : y5_116.toInt = x1.toInt := (by have z := Int32.toInt_inj.mpr c; omega)
            refine lv_iload_n hx hb dX12_chairsOn_147 rfl (lv_at hl 2 rfl) ?_
            refine lv_iconst (v := 1) hx hb dX12_chairsOn_148 (by decide) ?_
            refine lv_iadd hx hb dX12_chairsOn_149 ?_
            refine lv_topi (fun v_52 ev_52 => ?_)
            have q_53 : v_52.toInt = x1.toInt + 1 := by rw [ev_52]; have k1 : (1 : Int32).toInt = 1 := (by decide); exact (bn_addI (by omega) (by omega)).trans (by omega)
            refine lv_goto (tgt := 154) hx hb dX12_chairsOn_150 (by decide) ?_
            refine lv_iload_n hx hb dX12_chairsOn_154 rfl (lv_at hl 3 rfl) ?_
            refine lv_iload hx hb dX12_chairsOn_155 (lv_at hl 4 rfl) ?_
            have q_54 : (f_42 0 6).toInt = v_35.toInt := (congrArg Int32.toInt (show f_42 0 6 = v_35 from (by rw [ef_42, sg_up_n (by decide)]; exact ev_35.symm)))
            have q_55 : (f_42 0 6).toInt = v_35.toInt := (congrArg Int32.toInt (show f_42 0 6 = v_35 from (by rw [ef_42, sg_up_n (by decide)]; exact ev_35.symm)))
            refine sg_callv (va_runV (As := [.int 6, .int v_52, .int x2, .int x3]) (rest := []) ⟨hx, hb, hml, hown, hts⟩ (kX12_chairsOn_6 l D ca za h hh f_42 L Q hI v_52 x2 x3 (by omega) (by omega) (by omega) (by have k0 : (6 : Int32).toInt = 6 := (by decide); omega) H.size) (cwV 4 hts (gw_V (fun _ h => List.mem_cons_of_mem _ h) mw_860 mw_861 mw_862 mw_619 mw_859) rfl rfl rfl (by decide +kernel) ⟨Nat.le_of_ble_eq_true rfl, Nat.le_of_ble_eq_true rfl⟩) (sg_preV (ci := 12) (C := RX12) (T := TX12) (N := 55) hA hK hP hS hZ 0 (by decide) rfl rfl) rfl rfl hl.1 rfl (lv_room (Nat.le_of_ble_eq_true rfl)) dX12_chairsOn_157 ⟨Nat.le_refl _, Nat.le_refl _⟩) hA hS (fun f_56 L_57 Q_58 H locs hq hP hS => ?_)
            obtain ⟨hI, hk_f_56, eL9, eQ9⟩ := hq
            rw [eL9, eQ9] at hP; clear eL9 eQ9
            have hF : sgK WkX12_chairsOn_5 f f_56 := sgK.tr hF hk_f_56 (by decide)
            obtain ⟨v_59, ev_59⟩ : ∃ z : Int32, z = y5_116 + 1 := ⟨_, rfl⟩
            have q_60 : v_59.toInt = y5_116.toInt + 1 := by rw [ev_59]; exact (bn_addc y5_116 1 (by decide) (by omega) (by omega))
            refine lv_iinc (v := v_59) (lv' := [(5, .int v_59), (0, .ref (h 0)), (1, .int 5), (2, .int x1), (3, .int x2), (4, .int x3)]) hx hb dX12_chairsOn_160 hl (k := 5) rfl (by rw [ev_59]; rfl) (by decide) rfl (fun ls hl => ?_)
            refine lv_goto (tgt := 116) hx hb dX12_chairsOn_163 (by decide) ?_
            exact ih_116 v_59 f_56 _ _ _ (by omega) (by have zz0_6 : (f_56 0 6).toInt = v_35.toInt := (congrArg Int32.toInt (show f_56 0 6 = v_35 from ((hk_f_56 0 6 (by decide)).trans (by rw [ef_42, sg_up_n (by decide)]; exact ev_35.symm)))); omega) (by omega) hI hF hP hS (lv_sub hl [1, 2, 3, 4, 5, 0] rfl)
  refine lv_iload_n hx hb dX12_chairsOn_0 rfl (lv_at hl 1 rfl) ?_
  refine lv_aload_n hx hb dX12_chairsOn_1 rfl (lv_at hl 0 rfl) ?_
  refine sg_get (ci := 12) (v := .int v_1) (C := RX12) (T := TX12) (N := 55) hx hb hts (fun w h => List.mem_cons_of_mem _ (gx_12 w h)) hown hK hP 0 (by decide) rfl rfl 6 (by decide) (hts _ (List.mem_cons_of_mem _ mw_622)) (fun _ h9 => h9) (congrArg (fun z => some (Value.int z)) (show f 0 6 = v_1 from ev_1.symm)) dX12_chairsOn_2 ?_
  refine lv_icmp_ne (tgt := 93) hx hb dX12_chairsOn_5 (by decide) (fun c => ?_) (fun c => ?_)
  · skip
    have c_61 : 5 ≠ v_1.toInt := (by have z := bn_ne c; have k0 : (5 : Int32).toInt = 5 := (by decide); omega)
    refine lv_iload_n hx hb dX12_chairsOn_93 rfl (lv_at hl 3 rfl) ?_
    refine lv_iload_n hx hb dX12_chairsOn_94 rfl (lv_at hl 1 rfl) ?_
    refine sg_calli (va_runS (As := [.int x2, .int 5]) (rest := []) ⟨hx, hb, hml, hown, hts⟩ (kX12_isIn l D ca za h hh f L Q hI x2 5 (by omega) (by decide) H.size) (va_cwS 2 hts (gw_S (fun _ h => List.mem_cons_of_mem _ h) mw_832 mw_833 mw_619 mw_831) rfl rfl rfl (by decide +kernel) ⟨Nat.le_of_ble_eq_true rfl, Nat.le_of_ble_eq_true rfl⟩) (sg_preS hA hK hP hS hZ) rfl rfl hl.1 rfl (lv_room (Nat.le_of_ble_eq_true rfl)) dX12_chairsOn_95 ⟨Nat.le_refl _, Nat.le_refl _⟩) hA hS (fun r_66 f_63 L_64 Q_65 H locs hq hP hS => ?_)
    obtain ⟨⟨ef9, eL9, eQ9⟩, hq⟩ := hq
    rw [ef9, eL9, eQ9] at hP; clear ef9 eL9 eQ9
    refine lv_if_ne (tgt := 113) hx hb dX12_chairsOn_98 (by decide) (fun c => ?_) (fun c => ?_)
    · skip
      have c_67 : r_66.toInt ≠ 0 := (by have z := bn_ne c; have k1 : (0 : Int32).toInt = 0 := (by decide); omega)
      refine lv_iconst (v := 0) hx hb dX12_chairsOn_113 (by decide) ?_
      refine lv_istore (lv' := [(5, .int 0), (0, .ref (h 0)), (1, .int 5), (2, .int x1), (3, .int x2), (4, .int x3)]) hx hb dX12_chairsOn_114 hl (by decide) rfl (fun ls hl => ?_)
      exact loop_116 7 0 f _ _ _ (by have kc0 : (0 : Int32).toInt = 0 := (by decide); omega) (by have zz0_6 : (f 0 6).toInt = v_1.toInt := (congrArg Int32.toInt (show f 0 6 = v_1 from ev_1.symm)); omega) (by decide) hI hF hP hS (lv_sub hl [1, 2, 3, 4, 5, 0] rfl)
    · skip
      have c_68 : r_66.toInt = 0 := (by have z := Int32.toInt_inj.mpr c; have k1 : (0 : Int32).toInt = 0 := (by decide); omega)
      refine lv_aload_n hx hb dX12_chairsOn_101 rfl (lv_at hl 0 rfl) ?_
      refine lv_iload_n hx hb dX12_chairsOn_102 rfl (lv_at hl 1 rfl) ?_
      refine lv_iconst (v := 1) hx hb dX12_chairsOn_103 (by decide) ?_
      refine lv_iadd hx hb dX12_chairsOn_104 ?_
      refine W.eq (g2 := F0 m 105 ls [.int 6, .ref (h 0)]) (by rw [show (5 + 1 : Int32) = 6 from by decide]) ?_
      refine lv_iload_n hx hb dX12_chairsOn_105 rfl (lv_at hl 2 rfl) ?_
      refine lv_iload_n hx hb dX12_chairsOn_106 rfl (lv_at hl 3 rfl) ?_
      refine lv_iload hx hb dX12_chairsOn_107 (lv_at hl 4 rfl) ?_
      have q_69 : (f 0 6).toInt = v_1.toInt := (congrArg Int32.toInt (show f 0 6 = v_1 from ev_1.symm))
      have q_70 : (f 0 6).toInt = v_1.toInt := (congrArg Int32.toInt (show f 0 6 = v_1 from ev_1.symm))
      refine sg_callv (va_runV (As := [.int 6, .int x1, .int x2, .int x3]) (rest := []) ⟨hx, hb, hml, hown, hts⟩ (kX12_chairsOn_6 l D ca za h hh f L Q hI x1 x2 x3 (by omega) (by omega) (by omega) (by have k0 : (6 : Int32).toInt = 6 := (by decide); omega) H.size) (cwV 4 hts (gw_V (fun _ h => List.mem_cons_of_mem _ h) mw_860 mw_861 mw_862 mw_619 mw_859) rfl rfl rfl (by decide +kernel) ⟨Nat.le_of_ble_eq_true rfl, Nat.le_of_ble_eq_true rfl⟩) (sg_preV (ci := 12) (C := RX12) (T := TX12) (N := 55) hA hK hP hS hZ 0 (by decide) rfl rfl) rfl rfl hl.1 rfl (lv_room (Nat.le_of_ble_eq_true rfl)) dX12_chairsOn_109 ⟨Nat.le_refl _, Nat.le_refl _⟩) hA hS (fun f_71 L_72 Q_73 H locs hq hP hS => ?_)
      obtain ⟨hI, hk_f_71, eL9, eQ9⟩ := hq
      rw [eL9, eQ9] at hP; clear eL9 eQ9
      have hF : sgK WkX12_chairsOn_5 f f_71 := sgK.tr hF hk_f_71 (by decide)
      exact hret _ _ _ _ f_71 L Q dX12_chairsOn_112 hP hS ⟨hI, hF, rfl, rfl⟩
  · skip
    have c_62 : 5 = v_1.toInt := (by have z := Int32.toInt_inj.mpr c; have k0 : (5 : Int32).toInt = 5 := (by decide); omega)
    refine lv_iconst (v := 0) hx hb dX12_chairsOn_8 (by decide) ?_
    refine lv_istore (lv' := [(5, .int 0), (0, .ref (h 0)), (1, .int 5), (2, .int x1), (3, .int x2), (4, .int x3)]) hx hb dX12_chairsOn_9 hl (by decide) rfl (fun ls hl => ?_)
    refine lv_iconst (v := 0) hx hb dX12_chairsOn_11 (by decide) ?_
    refine lv_istore (lv' := [(6, .int 0), (5, .int 0), (0, .ref (h 0)), (1, .int 5), (2, .int x1), (3, .int x2), (4, .int x3)]) hx hb dX12_chairsOn_12 hl (by decide) rfl (fun ls hl => ?_)
    exact loop_14 6 0 0 f _ _ _ (by have kc0 : (0 : Int32).toInt = 0 := (by decide); have kc1 : (0 : Int32).toInt = 0 := (by decide); omega) (by have zz0_6 : (f 0 6).toInt = v_1.toInt := (congrArg Int32.toInt (show f 0 6 = v_1 from ev_1.symm)); omega) (by decide) hI hF hP hS (lv_sub hl [2, 4, 5, 1, 0] rfl)

abbrev WkX12_chairsOn_4 : List (Nat × Nat × Option Nat) := [(0, 0, some 35), (15, 15, none), (16, 16, none)]
set_option maxHeartbeats 4000000 in
set_option maxRecDepth 100000 in
theorem kX12_chairsOn_4 (l : Launch) (D : va_G) (ca : Nat → ClassId) (za h : Nat → Nat) (hh : sgH 26 h) (f : sg_F) (L : sg_L) (Q : sg_Q) (hI : sgI loM hiM f) (x1 : Int32) (x2 : Int32) (x3 : Int32) (b1 : 0 ≤ x1.toInt ∧ x1.toInt ≤ 4) (b2 : 0 ≤ x2.toInt ∧ x2.toInt ≤ 255) (b3 : 0 ≤ x3.toInt ∧ x3.toInt ≤ 9) (p0 : 4 ≤ (f 0 6).toInt ∧ (f 0 6).toInt ≤ 8) (sz : Nat) : Met l yX12_chairsOn gwX12_chairsOn { frames := 6, cells := 0, slots := 0, locals := 151 } (sgP D vwCl (tyX ca) 26 h (eM ca h) zcM za f L Q sz [.ref (h 0), .int 4, .int x1, .int x2, .int x3]) (sgQv D vwCl 26 h (eM ca h) sz (fun f1 L1 Q1 => ((sgI loM hiM f1 ∧ sgK WkX12_chairsOn_4 f f1 ∧ L1 = L ∧ Q1 = Q)))) 0 0 (sgA 26 h sz) := by
  refine sg_ofWv (cc := cX12_chairsOn) (maxL := 7) RX12 (by decide) rfl rfl (Nat.le_of_ble_eq_true rfl) ?_
  intro p e s m below meth cd Qz ls hx hb hml hown hts hK hZ hP hS hl hret
  have hA := sgY.self (n := 26) (h := h) (sz := s.heap.size)
  have hl : lv_has ls 7 [(0, .ref (h 0)), (1, .int 4), (2, .int x1), (3, .int x2), (4, .int x3)] := hl
  obtain ⟨H, hH⟩ : ∃ z : Heap, z = s.heap := ⟨_, rfl⟩
  obtain ⟨locs, hlo⟩ : ∃ z : List Loc, z = [] := ⟨_, rfl⟩
  have hP : va_P D vwCl (sgw 26 h (eM ca h) f L Q) H := by rw [hH]; exact hP
  have hS : va_S (sgA 26 h s.heap.size) s.heap H locs := by rw [hH, hlo]; exact hS
  suffices hgo : W p l e ({ frames := 6, cells := 0, slots := 0, locals := 151 }) s m ([.ref (h 0), .int 4, .int x1, .int x2, .int x3] : List Value).toArray below meth cd H locs 0 0 Qz (F0 m 0 ls []) by rw [hH, hlo] at hgo; exact hgo
  clear hH hlo
  obtain ⟨v_1, ev_1⟩ : ∃ z : Int32, z = f 0 6 := ⟨_, rfl⟩
  have q_2 : 0 ≤ v_1.toInt ∧ v_1.toInt ≤ 8 := by rw [ev_1]; exact hI 0 6
  have o_3 : (f 0 6).toInt = v_1.toInt := (congrArg Int32.toInt (show f 0 6 = v_1 from ev_1.symm))
  have hF : sgK WkX12_chairsOn_4 f f := sgK.rf
  have loop_63 : ∀ (n_63 : Nat) (y6_63 : Int32) (fp_63 : sg_F) (H : Heap) (locs : List Loc) (ls : Array Slot), 4 - y6_63.toInt < (n_63 : Int) → 4 ≤ (fp_63 0 6).toInt ∧ (fp_63 0 6).toInt ≤ 4 → 0 ≤ y6_63.toInt ∧ y6_63.toInt ≤ 4 → sgI loM hiM fp_63 → sgK WkX12_chairsOn_4 f fp_63 → va_P D vwCl (sgw 26 h (eM ca h) fp_63 L Q) H → va_S (sgA 26 h s.heap.size) s.heap H locs → lv_has ls 7 [(0, .ref (h 0)), (6, .int y6_63)] → W p l e ({ frames := 6, cells := 0, slots := 0, locals := 151 }) s m ([.ref (h 0), .int 4, .int x1, .int x2, .int x3] : List Value).toArray below meth cd H locs 0 0 Qz (F0 m 63 ls []) := by
    intro n_63
    induction n_63 with
    | zero => intro y6_63 fp_63 H locs ls hm_63 hy0_63 hy1_63 hI hF hP hS hl; exact absurd hm_63 (by omega)
    | succ n_63 ih_63 =>
      intro y6_63 fp_63 H locs ls hm_63 hy0_63 hy1_63 hI hF hP hS hl
      obtain ⟨v_4, ev_4⟩ : ∃ z : Int32, z = fp_63 0 6 := ⟨_, rfl⟩
      have q_5 : 0 ≤ v_4.toInt ∧ v_4.toInt ≤ 8 := by rw [ev_4]; exact hI 0 6
      have q_6 : (fp_63 0 6).toInt = v_4.toInt := by rw [ev_4]
      refine lv_iload hx hb dX12_chairsOn_63 (lv_at hl 1 rfl) ?_
      refine lv_aload_n hx hb dX12_chairsOn_65 rfl (lv_at hl 0 rfl) ?_
      refine sg_get (ci := 12) (v := .int v_4) (C := RX12) (T := TX12) (N := 55) hx hb hts (fun w h => List.mem_cons_of_mem _ (gx_12 w h)) hown hK hP 0 (by decide) rfl rfl 6 (by decide) (hts _ (List.mem_cons_of_mem _ mw_622)) (fun _ h9 => h9) (congrArg (fun z => some (Value.int z)) (show fp_63 0 6 = v_4 from ev_4.symm)) dX12_chairsOn_66 ?_
      refine lv_icmp_ge (tgt := 92) hx hb dX12_chairsOn_69 (by decide) (fun c => ?_) (fun c => ?_)
      · skip
        have c_7 : v_4.toInt ≤ y6_63.toInt := (by have z := bn_le c; omega)
        exact hret _ _ _ _ fp_63 L Q dX12_chairsOn_92 hP hS ⟨hI, hF, rfl, rfl⟩
      · skip
        have c_8 : y6_63.toInt < v_4.toInt := (by have z := bn_nle c; omega)
        refine lv_aload_n hx hb dX12_chairsOn_72 rfl (lv_at hl 0 rfl) ?_
        refine sg_get (ci := 12) (v := .ref (h 16)) (C := RX12) (T := TX12) (N := 55) hx hb hts (fun w h => List.mem_cons_of_mem _ (gx_12 w h)) hown hK hP 0 (by decide) rfl rfl 34 (by decide) (hts _ (List.mem_cons_of_mem _ mw_863)) (fun _ h9 => h9) rfl dX12_chairsOn_73 ?_
        refine lv_iload hx hb dX12_chairsOn_76 (lv_at hl 1 rfl) ?_
        refine lv_aload_n hx hb dX12_chairsOn_78 rfl (lv_at hl 0 rfl) ?_
        refine sg_get (ci := 12) (v := .ref (h 15)) (C := RX12) (T := TX12) (N := 55) hx hb hts (fun w h => List.mem_cons_of_mem _ (gx_12 w h)) hown hK hP 0 (by decide) rfl rfl 33 (by decide) (hts _ (List.mem_cons_of_mem _ mw_834)) (fun _ h9 => h9) rfl dX12_chairsOn_79 ?_
        refine lv_iload hx hb dX12_chairsOn_82 (lv_at hl 1 rfl) ?_
        refine sg_iald hx hb hK hP 15 (by decide) 0 rfl rfl (i := y6_63) (vp_in_iff.mpr ⟨by omega, by omega⟩) dX12_chairsOn_84 ?_
        refine lv_topi (fun v_9 ev_9 => ?_)
        have q_10 : 0 ≤ v_9.toInt ∧ v_9.toInt ≤ 7 := by rw [ev_9]; exact hI 15 _
        refine sg_iast hx hb hh hA hK hP hS 16 (by decide) 0 (fun _ => rfl) rfl (i := y6_63) (x := v_9) (vp_in_iff.mpr ⟨by omega, by omega⟩) dX12_chairsOn_85 (fun f_11 H locs ef_11 hP hS => ?_)
        have hI : sgI loM hiM f_11 := by rw [ef_11]; exact sgI.put hI 16 y6_63.toNatClampNeg (show 0 ≤ (v_9 : Int32).toInt ∧ (v_9 : Int32).toInt ≤ 7 from by omega)
        have hF : sgK WkX12_chairsOn_4 f f_11 := sgK.put hF ef_11 (by rfl)
        obtain ⟨v_12, ev_12⟩ : ∃ z : Int32, z = y6_63 + 1 := ⟨_, rfl⟩
        have q_13 : v_12.toInt = y6_63.toInt + 1 := by rw [ev_12]; exact (bn_addc y6_63 1 (by decide) (by omega) (by omega))
        refine lv_iinc (v := v_12) (lv' := [(6, .int v_12), (0, .ref (h 0))]) hx hb dX12_chairsOn_86 hl (k := 1) rfl (by rw [ev_12]; rfl) (by decide) rfl (fun ls hl => ?_)
        refine lv_goto (tgt := 63) hx hb dX12_chairsOn_89 (by decide) ?_
        exact ih_63 v_12 f_11 _ _ _ (by omega) (by have zz0_6 : (f_11 0 6).toInt = v_4.toInt := (congrArg Int32.toInt (show f_11 0 6 = v_4 from (by rw [ef_11, sg_up_n (by decide)]; exact ev_4.symm))); omega) (by omega) hI hF hP hS (lv_sub hl [1, 0] rfl)
  have blk_54 : ∀ (y5_54 : Int32) (fp_54 : sg_F) (H : Heap) (locs : List Loc) (ls : Array Slot), 4 ≤ (fp_54 0 6).toInt ∧ (fp_54 0 6).toInt ≤ 4 → sgI loM hiM fp_54 → sgK WkX12_chairsOn_4 f fp_54 → va_P D vwCl (sgw 26 h (eM ca h) fp_54 L Q) H → va_S (sgA 26 h s.heap.size) s.heap H locs → lv_has ls 7 [(0, .ref (h 0)), (5, .int y5_54)] → W p l e ({ frames := 6, cells := 0, slots := 0, locals := 151 }) s m ([.ref (h 0), .int 4, .int x1, .int x2, .int x3] : List Value).toArray below meth cd H locs 0 0 Qz (F0 m 54 ls []) := by
    intro y5_54 fp_54 H locs ls hy0_54 hI hF hP hS hl
    obtain ⟨v_14, ev_14⟩ : ∃ z : Int32, z = fp_54 0 6 := ⟨_, rfl⟩
    have q_15 : 0 ≤ v_14.toInt ∧ v_14.toInt ≤ 8 := by rw [ev_14]; exact hI 0 6
    have q_16 : (fp_54 0 6).toInt = v_14.toInt := by rw [ev_14]
    refine lv_aload_n hx hb dX12_chairsOn_54 rfl (lv_at hl 0 rfl) ?_
    refine lv_iload hx hb dX12_chairsOn_55 (lv_at hl 1 rfl) ?_
    refine sg_put (ci := 12) (x := y5_54) (ty := .int) (C := RX12) (T := TX12) (N := 55) hx hb hts (fun w h => List.mem_cons_of_mem _ (gx_12 w h)) tyX12 tyX12_ok nmX12 hown hh hA hK hP hS 0 (by decide) rfl rfl 35 (by decide) (hts _ (List.mem_cons_of_mem _ mw_816)) (fun _ h9 => h9) rfl rfl (by decide +kernel) rfl rfl (Nat.le_of_ble_eq_true rfl) dX12_chairsOn_57 (fun f_17 H locs ef_17 hP hS => ?_)
    have hI : sgI loM hiM f_17 := by rw [ef_17]; exact sgI.put hI 0 35 (bn_top _)
    have hF : sgK WkX12_chairsOn_4 f f_17 := sgK.put hF ef_17 (by rfl)
    refine lv_iconst (v := 0) hx hb dX12_chairsOn_60 (by decide) ?_
    refine lv_istore (lv' := [(6, .int 0), (0, .ref (h 0)), (5, .int y5_54)]) hx hb dX12_chairsOn_61 hl (by decide) rfl (fun ls hl => ?_)
    exact loop_63 5 0 f_17 _ _ _ (by have kc0 : (0 : Int32).toInt = 0 := (by decide); omega) (by have zz0_6 : (f_17 0 6).toInt = v_14.toInt := (congrArg Int32.toInt (show f_17 0 6 = v_14 from (by rw [ef_17, sg_up_s, sgu_n (by decide)]; exact ev_14.symm))); omega) (by decide) hI hF hP hS (lv_sub hl [1, 0] rfl)
  have loop_14 : ∀ (n_14 : Nat) (y5_14 : Int32) (y6_14 : Int32) (fp_14 : sg_F) (H : Heap) (locs : List Loc) (ls : Array Slot), 4 - y6_14.toInt < (n_14 : Int) → 4 ≤ (fp_14 0 6).toInt ∧ (fp_14 0 6).toInt ≤ 4 → 0 ≤ y6_14.toInt ∧ y6_14.toInt ≤ 4 → sgI loM hiM fp_14 → sgK WkX12_chairsOn_4 f fp_14 → va_P D vwCl (sgw 26 h (eM ca h) fp_14 L Q) H → va_S (sgA 26 h s.heap.size) s.heap H locs → lv_has ls 7 [(0, .ref (h 0)), (2, .int x1), (3, .int x2), (5, .int y5_14), (6, .int y6_14)] → W p l e ({ frames := 6, cells := 0, slots := 0, locals := 151 }) s m ([.ref (h 0), .int 4, .int x1, .int x2, .int x3] : List Value).toArray below meth cd H locs 0 0 Qz (F0 m 14 ls []) := by
    intro n_14
    induction n_14 with
    | zero => intro y5_14 y6_14 fp_14 H locs ls hm_14 hy0_14 hy1_14 hI hF hP hS hl; exact absurd hm_14 (by omega)
    | succ n_14 ih_14 =>
      intro y5_14 y6_14 fp_14 H locs ls hm_14 hy0_14 hy1_14 hI hF hP hS hl
      obtain ⟨v_18, ev_18⟩ : ∃ z : Int32, z = fp_14 0 6 := ⟨_, rfl⟩
      have q_19 : 0 ≤ v_18.toInt ∧ v_18.toInt ≤ 8 := by rw [ev_18]; exact hI 0 6
      have q_20 : (fp_14 0 6).toInt = v_18.toInt := by rw [ev_18]
      refine lv_iload hx hb dX12_chairsOn_14 (lv_at hl 4 rfl) ?_
      refine lv_iload_n hx hb dX12_chairsOn_16 rfl (lv_at hl 1 rfl) ?_
      refine lv_icmp_ge (tgt := 38) hx hb dX12_chairsOn_17 (by decide) (fun c => ?_) (fun c => ?_)
      · skip
        have c_21 : x1.toInt ≤ y6_14.toInt := (by have z := bn_le c; omega)
        refine lv_aload_n hx hb dX12_chairsOn_38 rfl (lv_at hl 0 rfl) ?_
        refine sg_get (ci := 12) (v := .int (fp_14 0 35)) (C := RX12) (T := TX12) (N := 55) hx hb hts (fun w h => List.mem_cons_of_mem _ (gx_12 w h)) hown hK hP 0 (by decide) rfl rfl 35 (by decide) (hts _ (List.mem_cons_of_mem _ mw_816)) (fun _ h9 => h9) rfl dX12_chairsOn_39 ?_
        refine lv_topi (fun v_23 ev_23 => ?_)
        refine lv_if_lt (tgt := 54) hx hb dX12_chairsOn_42 (by decide) (fun c => ?_) (fun c => ?_)
        · skip
          have c_24 : v_23.toInt < 0 := (by have z := bn_lt c; have k1 : (0 : Int32).toInt = 0 := (by decide); omega)
          exact blk_54 y5_14 fp_14 _ _ _ (by have zz0_6 : (fp_14 0 6).toInt = v_18.toInt := (congrArg Int32.toInt (show fp_14 0 6 = v_18 from ev_18.symm)); omega) hI hF hP hS (lv_sub hl [0, 3] rfl)
        · skip
          have c_25 : 0 ≤ v_23.toInt := (by have z := bn_nlt c; have k1 : (0 : Int32).toInt = 0 := (by decide); omega)
          refine lv_iload hx hb dX12_chairsOn_45 (lv_at hl 3 rfl) ?_
          refine lv_aload_n hx hb dX12_chairsOn_47 rfl (lv_at hl 0 rfl) ?_
          refine sg_get (ci := 12) (v := .int v_23) (C := RX12) (T := TX12) (N := 55) hx hb hts (fun w h => List.mem_cons_of_mem _ (gx_12 w h)) hown hK hP 0 (by decide) rfl rfl 35 (by decide) (hts _ (List.mem_cons_of_mem _ mw_816)) (fun _ h9 => h9) (congrArg (fun z => some (Value.int z)) (show fp_14 0 35 = v_23 from ev_23.symm)) dX12_chairsOn_48 ?_
          refine lv_icmp_ge (tgt := 92) hx hb dX12_chairsOn_51 (by decide) (fun c => ?_) (fun c => ?_)
          · skip
            have c_26 : v_23.toInt ≤ y5_14.toInt := (by have z := bn_le c; omega)
            exact hret _ _ _ _ fp_14 L Q dX12_chairsOn_92 hP hS ⟨hI, hF, rfl, rfl⟩
          · skip
            have c_27 : y5_14.toInt < v_23.toInt := (by have z := bn_nle c; omega)
            exact blk_54 y5_14 fp_14 _ _ _ (by have zz0_6 : (fp_14 0 6).toInt = v_18.toInt := (congrArg Int32.toInt (show fp_14 0 6 = v_18 from ev_18.symm)); omega) hI hF hP hS (lv_sub hl [0, 3] rfl)
      · skip
        have c_22 : y6_14.toInt < x1.toInt := (by have z := bn_nle c; omega)
        refine lv_iload hx hb dX12_chairsOn_20 (lv_at hl 3 rfl) ?_
        refine lv_aload_n hx hb dX12_chairsOn_22 rfl (lv_at hl 0 rfl) ?_
        refine lv_iload_n hx hb dX12_chairsOn_23 rfl (lv_at hl 2 rfl) ?_
        refine lv_iload hx hb dX12_chairsOn_24 (lv_at hl 4 rfl) ?_
        refine sg_calli (va_runV (As := [.int x2, .int y6_14]) (rest := [.int y5_14]) ⟨hx, hb, hml, hown, hts⟩ (kX12_chairLoss l D ca za h hh fp_14 L Q hI x2 y6_14 (by omega) (by omega) H.size) (cwV 2 hts (gw_V (fun _ h => List.mem_cons_of_mem _ h) mw_873 mw_874 mw_875 mw_619 mw_872) rfl rfl rfl (by decide +kernel) ⟨Nat.le_of_ble_eq_true rfl, Nat.le_of_ble_eq_true rfl⟩) (sg_preV (ci := 12) (C := RX12) (T := TX12) (N := 55) hA hK hP hS hZ 0 (by decide) rfl rfl) rfl rfl hl.1 rfl (lv_room (Nat.le_of_ble_eq_true rfl)) dX12_chairsOn_26 ⟨Nat.le_refl _, Nat.le_refl _⟩) hA hS (fun r_31 f_28 L_29 Q_30 H locs hq hP hS => ?_)
        obtain ⟨⟨ef9, eL9, eQ9⟩, hq⟩ := hq
        rw [ef9, eL9, eQ9] at hP; clear ef9 eL9 eQ9
        refine lv_iadd hx hb dX12_chairsOn_29 ?_
        refine lv_topi (fun v_32 ev_32 => ?_)
        refine lv_istore (lv' := [(5, .int v_32), (0, .ref (h 0)), (2, .int x1), (3, .int x2), (6, .int y6_14)]) hx hb dX12_chairsOn_30 hl (by decide) rfl (fun ls hl => ?_)
        obtain ⟨v_33, ev_33⟩ : ∃ z : Int32, z = y6_14 + 1 := ⟨_, rfl⟩
        have q_34 : v_33.toInt = y6_14.toInt + 1 := by rw [ev_33]; exact (bn_addc y6_14 1 (by decide) (by omega) (by omega))
        refine lv_iinc (v := v_33) (lv' := [(6, .int v_33), (5, .int v_32), (0, .ref (h 0)), (2, .int x1), (3, .int x2)]) hx hb dX12_chairsOn_32 hl (k := 4) rfl (by rw [ev_33]; rfl) (by decide) rfl (fun ls hl => ?_)
        refine lv_goto (tgt := 14) hx hb dX12_chairsOn_35 (by decide) ?_
        exact ih_14 v_32 v_33 fp_14 _ _ _ (by omega) (by have zz0_6 : (fp_14 0 6).toInt = v_18.toInt := (congrArg Int32.toInt (show fp_14 0 6 = v_18 from ev_18.symm)); omega) (by omega) hI hF hP hS (lv_sub hl [2, 3, 4, 1, 0] rfl)
  have loop_116 : ∀ (n_116 : Nat) (y5_116 : Int32) (fp_116 : sg_F) (H : Heap) (locs : List Loc) (ls : Array Slot), 5 - y5_116.toInt < (n_116 : Int) → 5 ≤ (fp_116 0 6).toInt ∧ (fp_116 0 6).toInt ≤ 8 → 0 ≤ y5_116.toInt ∧ y5_116.toInt ≤ 5 → sgI loM hiM fp_116 → sgK WkX12_chairsOn_4 f fp_116 → va_P D vwCl (sgw 26 h (eM ca h) fp_116 L Q) H → va_S (sgA 26 h s.heap.size) s.heap H locs → lv_has ls 7 [(0, .ref (h 0)), (1, .int 4), (2, .int x1), (3, .int x2), (4, .int x3), (5, .int y5_116)] → W p l e ({ frames := 6, cells := 0, slots := 0, locals := 151 }) s m ([.ref (h 0), .int 4, .int x1, .int x2, .int x3] : List Value).toArray below meth cd H locs 0 0 Qz (F0 m 116 ls []) := by
    intro n_116
    induction n_116 with
    | zero => intro y5_116 fp_116 H locs ls hm_116 hy0_116 hy1_116 hI hF hP hS hl; exact absurd hm_116 (by omega)
    | succ n_116 ih_116 =>
      intro y5_116 fp_116 H locs ls hm_116 hy0_116 hy1_116 hI hF hP hS hl
      obtain ⟨v_35, ev_35⟩ : ∃ z : Int32, z = fp_116 0 6 := ⟨_, rfl⟩
      have q_36 : 0 ≤ v_35.toInt ∧ v_35.toInt ≤ 8 := by rw [ev_35]; exact hI 0 6
      have q_37 : (fp_116 0 6).toInt = v_35.toInt := by rw [ev_35]
      refine lv_iload hx hb dX12_chairsOn_116 (lv_at hl 5 rfl) ?_
      refine lv_iload hx hb dX12_chairsOn_118 (lv_at hl 4 rfl) ?_
      refine lv_icmp_ge (tgt := 166) hx hb dX12_chairsOn_120 (by decide) (fun c => ?_) (fun c => ?_)
      · skip
        have c_38 : x3.toInt ≤ y5_116.toInt := (by have z := bn_le c; omega)
        exact hret _ _ _ _ fp_116 L Q dX12_chairsOn_166 hP hS ⟨hI, hF, rfl, rfl⟩
      · skip
        have c_39 : y5_116.toInt < x3.toInt := (by have z := bn_nle c; omega)
        refine lv_iload hx hb dX12_chairsOn_123 (lv_at hl 5 rfl) ?_
        refine lv_iload_n hx hb dX12_chairsOn_125 rfl (lv_at hl 2 rfl) ?_
        refine lv_icmp_gt (tgt := 166) hx hb dX12_chairsOn_126 (by decide) (fun c => ?_) (fun c => ?_)
        · skip
          have c_40 : x1.toInt < y5_116.toInt := (by have z := bn_lt c; omega)
          exact hret _ _ _ _ fp_116 L Q dX12_chairsOn_166 hP hS ⟨hI, hF, rfl, rfl⟩
        · skip
          have c_41 : y5_116.toInt ≤ x1.toInt := (by have z := bn_nlt c; omega)
          refine lv_aload_n hx hb dX12_chairsOn_129 rfl (lv_at hl 0 rfl) ?_
          refine sg_get (ci := 12) (v := .ref (h 15)) (C := RX12) (T := TX12) (N := 55) hx hb hts (fun w h => List.mem_cons_of_mem _ (gx_12 w h)) hown hK hP 0 (by decide) rfl rfl 33 (by decide) (hts _ (List.mem_cons_of_mem _ mw_834)) (fun _ h9 => h9) rfl dX12_chairsOn_130 ?_
          refine lv_iload_n hx hb dX12_chairsOn_133 rfl (lv_at hl 1 rfl) ?_
          refine lv_iload hx hb dX12_chairsOn_134 (lv_at hl 5 rfl) ?_
          refine sg_iast hx hb hh hA hK hP hS 15 (by decide) 0 (fun _ => rfl) rfl (i := 4) (x := y5_116) (vp_in_iff.mpr (by decide)) dX12_chairsOn_136 (fun f_42 H locs ef_42 hP hS => ?_)
          have hI : sgI loM hiM f_42 := by rw [ef_42]; exact sgI.put hI 15 (Int32.toNatClampNeg 4) (show 0 ≤ (y5_116 : Int32).toInt ∧ (y5_116 : Int32).toInt ≤ 7 from by omega)
          have hF : sgK WkX12_chairsOn_4 f f_42 := sgK.put hF ef_42 (by rfl)
          refine lv_aload_n hx hb dX12_chairsOn_137 rfl (lv_at hl 0 rfl) ?_
          refine lv_iload_n hx hb dX12_chairsOn_138 rfl (lv_at hl 1 rfl) ?_
          refine lv_iconst (v := 1) hx hb dX12_chairsOn_139 (by decide) ?_
          refine lv_iadd hx hb dX12_chairsOn_140 ?_
          refine W.eq (g2 := F0 m 141 ls [.int 5, .ref (h 0)]) (by rw [show (4 + 1 : Int32) = 5 from by decide]) ?_
          refine lv_iload hx hb dX12_chairsOn_141 (lv_at hl 5 rfl) ?_
          refine lv_iload_n hx hb dX12_chairsOn_143 rfl (lv_at hl 2 rfl) ?_
          refine lv_icmp_ne (tgt := 153) hx hb dX12_chairsOn_144 (by decide) (fun c => ?_) (fun c => ?_)
          · skip
            have c_43 : y5_116.toInt ≠ x1.toInt := (by have z := bn_ne c; omega)
            refine lv_iload_n hx hb dX12_chairsOn_153 rfl (lv_at hl 2 rfl) ?_
            refine lv_iload_n hx hb dX12_chairsOn_154 rfl (lv_at hl 3 rfl) ?_
            refine lv_iload hx hb dX12_chairsOn_155 (lv_at hl 4 rfl) ?_
            have q_45 : (f_42 0 6).toInt = v_35.toInt := (congrArg Int32.toInt (show f_42 0 6 = v_35 from (by rw [ef_42, sg_up_n (by decide)]; exact ev_35.symm)))
            have q_46 : (f_42 0 6).toInt = v_35.toInt := (congrArg Int32.toInt (show f_42 0 6 = v_35 from (by rw [ef_42, sg_up_n (by decide)]; exact ev_35.symm)))
            refine sg_callv (va_runV (As := [.int 5, .int x1, .int x2, .int x3]) (rest := []) ⟨hx, hb, hml, hown, hts⟩ (kX12_chairsOn_5 l D ca za h hh f_42 L Q hI x1 x2 x3 (by omega) (by omega) (by omega) (by have k0 : (5 : Int32).toInt = 5 := (by decide); omega) H.size) (cwV 4 hts (gw_V (fun _ h => List.mem_cons_of_mem _ h) mw_860 mw_861 mw_862 mw_619 mw_859) rfl rfl rfl (by decide +kernel) ⟨Nat.le_of_ble_eq_true rfl, Nat.le_of_ble_eq_true rfl⟩) (sg_preV (ci := 12) (C := RX12) (T := TX12) (N := 55) hA hK hP hS hZ 0 (by decide) rfl rfl) rfl rfl hl.1 rfl (lv_room (Nat.le_of_ble_eq_true rfl)) dX12_chairsOn_157 ⟨Nat.le_refl _, Nat.le_refl _⟩) hA hS (fun f_47 L_48 Q_49 H locs hq hP hS => ?_)
            obtain ⟨hI, hk_f_47, eL9, eQ9⟩ := hq
            rw [eL9, eQ9] at hP; clear eL9 eQ9
            have hF : sgK WkX12_chairsOn_4 f f_47 := sgK.tr hF hk_f_47 (by decide)
            obtain ⟨v_50, ev_50⟩ : ∃ z : Int32, z = y5_116 + 1 := ⟨_, rfl⟩
            have q_51 : v_50.toInt = y5_116.toInt + 1 := by rw [ev_50]; exact (bn_addc y5_116 1 (by decide) (by omega) (by omega))
            refine lv_iinc (v := v_50) (lv' := [(5, .int v_50), (0, .ref (h 0)), (1, .int 4), (2, .int x1), (3, .int x2), (4, .int x3)]) hx hb dX12_chairsOn_160 hl (k := 5) rfl (by rw [ev_50]; rfl) (by decide) rfl (fun ls hl => ?_)
            refine lv_goto (tgt := 116) hx hb dX12_chairsOn_163 (by decide) ?_
            exact ih_116 v_50 f_47 _ _ _ (by omega) (by have zz0_6 : (f_47 0 6).toInt = v_35.toInt := (congrArg Int32.toInt (show f_47 0 6 = v_35 from ((hk_f_47 0 6 (by decide)).trans (by rw [ef_42, sg_up_n (by decide)]; exact ev_35.symm)))); omega) (by omega) hI hF hP hS (lv_sub hl [1, 2, 3, 4, 5, 0] rfl)
          · skip
            have c_44 : y5_116.toInt = x1.toInt := (by have z := Int32.toInt_inj.mpr c; omega)
            refine lv_iload_n hx hb dX12_chairsOn_147 rfl (lv_at hl 2 rfl) ?_
            refine lv_iconst (v := 1) hx hb dX12_chairsOn_148 (by decide) ?_
            refine lv_iadd hx hb dX12_chairsOn_149 ?_
            refine lv_topi (fun v_52 ev_52 => ?_)
            have q_53 : v_52.toInt = x1.toInt + 1 := by rw [ev_52]; have k1 : (1 : Int32).toInt = 1 := (by decide); exact (bn_addI (by omega) (by omega)).trans (by omega)
            refine lv_goto (tgt := 154) hx hb dX12_chairsOn_150 (by decide) ?_
            refine lv_iload_n hx hb dX12_chairsOn_154 rfl (lv_at hl 3 rfl) ?_
            refine lv_iload hx hb dX12_chairsOn_155 (lv_at hl 4 rfl) ?_
            have q_54 : (f_42 0 6).toInt = v_35.toInt := (congrArg Int32.toInt (show f_42 0 6 = v_35 from (by rw [ef_42, sg_up_n (by decide)]; exact ev_35.symm)))
            have q_55 : (f_42 0 6).toInt = v_35.toInt := (congrArg Int32.toInt (show f_42 0 6 = v_35 from (by rw [ef_42, sg_up_n (by decide)]; exact ev_35.symm)))
            refine sg_callv (va_runV (As := [.int 5, .int v_52, .int x2, .int x3]) (rest := []) ⟨hx, hb, hml, hown, hts⟩ (kX12_chairsOn_5 l D ca za h hh f_42 L Q hI v_52 x2 x3 (by omega) (by omega) (by omega) (by have k0 : (5 : Int32).toInt = 5 := (by decide); omega) H.size) (cwV 4 hts (gw_V (fun _ h => List.mem_cons_of_mem _ h) mw_860 mw_861 mw_862 mw_619 mw_859) rfl rfl rfl (by decide +kernel) ⟨Nat.le_of_ble_eq_true rfl, Nat.le_of_ble_eq_true rfl⟩) (sg_preV (ci := 12) (C := RX12) (T := TX12) (N := 55) hA hK hP hS hZ 0 (by decide) rfl rfl) rfl rfl hl.1 rfl (lv_room (Nat.le_of_ble_eq_true rfl)) dX12_chairsOn_157 ⟨Nat.le_refl _, Nat.le_refl _⟩) hA hS (fun f_56 L_57 Q_58 H locs hq hP hS => ?_)
            obtain ⟨hI, hk_f_56, eL9, eQ9⟩ := hq
            rw [eL9, eQ9] at hP; clear eL9 eQ9
            have hF : sgK WkX12_chairsOn_4 f f_56 := sgK.tr hF hk_f_56 (by decide)
            obtain ⟨v_59, ev_59⟩ : ∃ z : Int32, z = y5_116 + 1 := ⟨_, rfl⟩
            have q_60 : v_59.toInt = y5_116.toInt + 1 := by rw [ev_59]; exact (bn_addc y5_116 1 (by decide) (by omega) (by omega))
            refine lv_iinc (v := v_59) (lv' := [(5, .int v_59), (0, .ref (h 0)), (1, .int 4), (2, .int x1), (3, .int x2), (4, .int x3)]) hx hb dX12_chairsOn_160 hl (k := 5) rfl (by rw [ev_59]; rfl) (by decide) rfl (fun ls hl => ?_)
            refine lv_goto (tgt := 116) hx hb dX12_chairsOn_163 (by decide) ?_
            exact ih_116 v_59 f_56 _ _ _ (by omega) (by have zz0_6 : (f_56 0 6).toInt = v_35.toInt := (congrArg Int32.toInt (show f_56 0 6 = v_35 from ((hk_f_56 0 6 (by decide)).trans (by rw [ef_42, sg_up_n (by decide)]; exact ev_35.symm)))); omega) (by omega) hI hF hP hS (lv_sub hl [1, 2, 3, 4, 5, 0] rfl)
  refine lv_iload_n hx hb dX12_chairsOn_0 rfl (lv_at hl 1 rfl) ?_
  refine lv_aload_n hx hb dX12_chairsOn_1 rfl (lv_at hl 0 rfl) ?_
  refine sg_get (ci := 12) (v := .int v_1) (C := RX12) (T := TX12) (N := 55) hx hb hts (fun w h => List.mem_cons_of_mem _ (gx_12 w h)) hown hK hP 0 (by decide) rfl rfl 6 (by decide) (hts _ (List.mem_cons_of_mem _ mw_622)) (fun _ h9 => h9) (congrArg (fun z => some (Value.int z)) (show f 0 6 = v_1 from ev_1.symm)) dX12_chairsOn_2 ?_
  refine lv_icmp_ne (tgt := 93) hx hb dX12_chairsOn_5 (by decide) (fun c => ?_) (fun c => ?_)
  · skip
    have c_61 : 4 ≠ v_1.toInt := (by have z := bn_ne c; have k0 : (4 : Int32).toInt = 4 := (by decide); omega)
    refine lv_iload_n hx hb dX12_chairsOn_93 rfl (lv_at hl 3 rfl) ?_
    refine lv_iload_n hx hb dX12_chairsOn_94 rfl (lv_at hl 1 rfl) ?_
    refine sg_calli (va_runS (As := [.int x2, .int 4]) (rest := []) ⟨hx, hb, hml, hown, hts⟩ (kX12_isIn l D ca za h hh f L Q hI x2 4 (by omega) (by decide) H.size) (va_cwS 2 hts (gw_S (fun _ h => List.mem_cons_of_mem _ h) mw_832 mw_833 mw_619 mw_831) rfl rfl rfl (by decide +kernel) ⟨Nat.le_of_ble_eq_true rfl, Nat.le_of_ble_eq_true rfl⟩) (sg_preS hA hK hP hS hZ) rfl rfl hl.1 rfl (lv_room (Nat.le_of_ble_eq_true rfl)) dX12_chairsOn_95 ⟨Nat.le_refl _, Nat.le_refl _⟩) hA hS (fun r_66 f_63 L_64 Q_65 H locs hq hP hS => ?_)
    obtain ⟨⟨ef9, eL9, eQ9⟩, hq⟩ := hq
    rw [ef9, eL9, eQ9] at hP; clear ef9 eL9 eQ9
    refine lv_if_ne (tgt := 113) hx hb dX12_chairsOn_98 (by decide) (fun c => ?_) (fun c => ?_)
    · skip
      have c_67 : r_66.toInt ≠ 0 := (by have z := bn_ne c; have k1 : (0 : Int32).toInt = 0 := (by decide); omega)
      refine lv_iconst (v := 0) hx hb dX12_chairsOn_113 (by decide) ?_
      refine lv_istore (lv' := [(5, .int 0), (0, .ref (h 0)), (1, .int 4), (2, .int x1), (3, .int x2), (4, .int x3)]) hx hb dX12_chairsOn_114 hl (by decide) rfl (fun ls hl => ?_)
      exact loop_116 6 0 f _ _ _ (by have kc0 : (0 : Int32).toInt = 0 := (by decide); omega) (by have zz0_6 : (f 0 6).toInt = v_1.toInt := (congrArg Int32.toInt (show f 0 6 = v_1 from ev_1.symm)); omega) (by decide) hI hF hP hS (lv_sub hl [1, 2, 3, 4, 5, 0] rfl)
    · skip
      have c_68 : r_66.toInt = 0 := (by have z := Int32.toInt_inj.mpr c; have k1 : (0 : Int32).toInt = 0 := (by decide); omega)
      refine lv_aload_n hx hb dX12_chairsOn_101 rfl (lv_at hl 0 rfl) ?_
      refine lv_iload_n hx hb dX12_chairsOn_102 rfl (lv_at hl 1 rfl) ?_
      refine lv_iconst (v := 1) hx hb dX12_chairsOn_103 (by decide) ?_
      refine lv_iadd hx hb dX12_chairsOn_104 ?_
      refine W.eq (g2 := F0 m 105 ls [.int 5, .ref (h 0)]) (by rw [show (4 + 1 : Int32) = 5 from by decide]) ?_
      refine lv_iload_n hx hb dX12_chairsOn_105 rfl (lv_at hl 2 rfl) ?_
      refine lv_iload_n hx hb dX12_chairsOn_106 rfl (lv_at hl 3 rfl) ?_
      refine lv_iload hx hb dX12_chairsOn_107 (lv_at hl 4 rfl) ?_
      have q_69 : (f 0 6).toInt = v_1.toInt := (congrArg Int32.toInt (show f 0 6 = v_1 from ev_1.symm))
      have q_70 : (f 0 6).toInt = v_1.toInt := (congrArg Int32.toInt (show f 0 6 = v_1 from ev_1.symm))
      refine sg_callv (va_runV (As := [.int 5, .int x1, .int x2, .int x3]) (rest := []) ⟨hx, hb, hml, hown, hts⟩ (kX12_chairsOn_5 l D ca za h hh f L Q hI x1 x2 x3 (by omega) (by omega) (by omega) (by have k0 : (5 : Int32).toInt = 5 := (by decide); omega) H.size) (cwV 4 hts (gw_V (fun _ h => List.mem_cons_of_mem _ h) mw_860 mw_861 mw_862 mw_619 mw_859) rfl rfl rfl (by decide +kernel) ⟨Nat.le_of_ble_eq_true rfl, Nat.le_of_ble_eq_true rfl⟩) (sg_preV (ci := 12) (C := RX12) (T := TX12) (N := 55) hA hK hP hS hZ 0 (by decide) rfl rfl) rfl rfl hl.1 rfl (lv_room (Nat.le_of_ble_eq_true rfl)) dX12_chairsOn_109 ⟨Nat.le_refl _, Nat.le_refl _⟩) hA hS (fun f_71 L_72 Q_73 H locs hq hP hS => ?_)
      obtain ⟨hI, hk_f_71, eL9, eQ9⟩ := hq
      rw [eL9, eQ9] at hP; clear eL9 eQ9
      have hF : sgK WkX12_chairsOn_4 f f_71 := sgK.tr hF hk_f_71 (by decide)
      exact hret _ _ _ _ f_71 L Q dX12_chairsOn_112 hP hS ⟨hI, hF, rfl, rfl⟩
  · skip
    have c_62 : 4 = v_1.toInt := (by have z := Int32.toInt_inj.mpr c; have k0 : (4 : Int32).toInt = 4 := (by decide); omega)
    refine lv_iconst (v := 0) hx hb dX12_chairsOn_8 (by decide) ?_
    refine lv_istore (lv' := [(5, .int 0), (0, .ref (h 0)), (1, .int 4), (2, .int x1), (3, .int x2), (4, .int x3)]) hx hb dX12_chairsOn_9 hl (by decide) rfl (fun ls hl => ?_)
    refine lv_iconst (v := 0) hx hb dX12_chairsOn_11 (by decide) ?_
    refine lv_istore (lv' := [(6, .int 0), (5, .int 0), (0, .ref (h 0)), (1, .int 4), (2, .int x1), (3, .int x2), (4, .int x3)]) hx hb dX12_chairsOn_12 hl (by decide) rfl (fun ls hl => ?_)
    exact loop_14 5 0 0 f _ _ _ (by have kc0 : (0 : Int32).toInt = 0 := (by decide); have kc1 : (0 : Int32).toInt = 0 := (by decide); omega) (by have zz0_6 : (f 0 6).toInt = v_1.toInt := (congrArg Int32.toInt (show f 0 6 = v_1 from ev_1.symm)); omega) (by decide) hI hF hP hS (lv_sub hl [2, 4, 5, 1, 0] rfl)

abbrev WkX12_chairsOn_3 : List (Nat × Nat × Option Nat) := [(0, 0, some 35), (15, 15, none), (16, 16, none)]
set_option maxHeartbeats 4000000 in
set_option maxRecDepth 100000 in
theorem kX12_chairsOn_3 (l : Launch) (D : va_G) (ca : Nat → ClassId) (za h : Nat → Nat) (hh : sgH 26 h) (f : sg_F) (L : sg_L) (Q : sg_Q) (hI : sgI loM hiM f) (x1 : Int32) (x2 : Int32) (x3 : Int32) (b1 : 0 ≤ x1.toInt ∧ x1.toInt ≤ 3) (b2 : 0 ≤ x2.toInt ∧ x2.toInt ≤ 255) (b3 : 0 ≤ x3.toInt ∧ x3.toInt ≤ 9) (p0 : 3 ≤ (f 0 6).toInt ∧ (f 0 6).toInt ≤ 8) (sz : Nat) : Met l yX12_chairsOn gwX12_chairsOn { frames := 7, cells := 0, slots := 0, locals := 177 } (sgP D vwCl (tyX ca) 26 h (eM ca h) zcM za f L Q sz [.ref (h 0), .int 3, .int x1, .int x2, .int x3]) (sgQv D vwCl 26 h (eM ca h) sz (fun f1 L1 Q1 => ((sgI loM hiM f1 ∧ sgK WkX12_chairsOn_3 f f1 ∧ L1 = L ∧ Q1 = Q)))) 0 0 (sgA 26 h sz) := by
  refine sg_ofWv (cc := cX12_chairsOn) (maxL := 7) RX12 (by decide) rfl rfl (Nat.le_of_ble_eq_true rfl) ?_
  intro p e s m below meth cd Qz ls hx hb hml hown hts hK hZ hP hS hl hret
  have hA := sgY.self (n := 26) (h := h) (sz := s.heap.size)
  have hl : lv_has ls 7 [(0, .ref (h 0)), (1, .int 3), (2, .int x1), (3, .int x2), (4, .int x3)] := hl
  obtain ⟨H, hH⟩ : ∃ z : Heap, z = s.heap := ⟨_, rfl⟩
  obtain ⟨locs, hlo⟩ : ∃ z : List Loc, z = [] := ⟨_, rfl⟩
  have hP : va_P D vwCl (sgw 26 h (eM ca h) f L Q) H := by rw [hH]; exact hP
  have hS : va_S (sgA 26 h s.heap.size) s.heap H locs := by rw [hH, hlo]; exact hS
  suffices hgo : W p l e ({ frames := 7, cells := 0, slots := 0, locals := 177 }) s m ([.ref (h 0), .int 3, .int x1, .int x2, .int x3] : List Value).toArray below meth cd H locs 0 0 Qz (F0 m 0 ls []) by rw [hH, hlo] at hgo; exact hgo
  clear hH hlo
  obtain ⟨v_1, ev_1⟩ : ∃ z : Int32, z = f 0 6 := ⟨_, rfl⟩
  have q_2 : 0 ≤ v_1.toInt ∧ v_1.toInt ≤ 8 := by rw [ev_1]; exact hI 0 6
  have o_3 : (f 0 6).toInt = v_1.toInt := (congrArg Int32.toInt (show f 0 6 = v_1 from ev_1.symm))
  have hF : sgK WkX12_chairsOn_3 f f := sgK.rf
  have loop_63 : ∀ (n_63 : Nat) (y6_63 : Int32) (fp_63 : sg_F) (H : Heap) (locs : List Loc) (ls : Array Slot), 3 - y6_63.toInt < (n_63 : Int) → 3 ≤ (fp_63 0 6).toInt ∧ (fp_63 0 6).toInt ≤ 3 → 0 ≤ y6_63.toInt ∧ y6_63.toInt ≤ 3 → sgI loM hiM fp_63 → sgK WkX12_chairsOn_3 f fp_63 → va_P D vwCl (sgw 26 h (eM ca h) fp_63 L Q) H → va_S (sgA 26 h s.heap.size) s.heap H locs → lv_has ls 7 [(0, .ref (h 0)), (6, .int y6_63)] → W p l e ({ frames := 7, cells := 0, slots := 0, locals := 177 }) s m ([.ref (h 0), .int 3, .int x1, .int x2, .int x3] : List Value).toArray below meth cd H locs 0 0 Qz (F0 m 63 ls []) := by
    intro n_63
    induction n_63 with
    | zero => intro y6_63 fp_63 H locs ls hm_63 hy0_63 hy1_63 hI hF hP hS hl; exact absurd hm_63 (by omega)
    | succ n_63 ih_63 =>
      intro y6_63 fp_63 H locs ls hm_63 hy0_63 hy1_63 hI hF hP hS hl
      obtain ⟨v_4, ev_4⟩ : ∃ z : Int32, z = fp_63 0 6 := ⟨_, rfl⟩
      have q_5 : 0 ≤ v_4.toInt ∧ v_4.toInt ≤ 8 := by rw [ev_4]; exact hI 0 6
      have q_6 : (fp_63 0 6).toInt = v_4.toInt := by rw [ev_4]
      refine lv_iload hx hb dX12_chairsOn_63 (lv_at hl 1 rfl) ?_
      refine lv_aload_n hx hb dX12_chairsOn_65 rfl (lv_at hl 0 rfl) ?_
      refine sg_get (ci := 12) (v := .int v_4) (C := RX12) (T := TX12) (N := 55) hx hb hts (fun w h => List.mem_cons_of_mem _ (gx_12 w h)) hown hK hP 0 (by decide) rfl rfl 6 (by decide) (hts _ (List.mem_cons_of_mem _ mw_622)) (fun _ h9 => h9) (congrArg (fun z => some (Value.int z)) (show fp_63 0 6 = v_4 from ev_4.symm)) dX12_chairsOn_66 ?_
      refine lv_icmp_ge (tgt := 92) hx hb dX12_chairsOn_69 (by decide) (fun c => ?_) (fun c => ?_)
      · skip
        have c_7 : v_4.toInt ≤ y6_63.toInt := (by have z := bn_le c; omega)
        exact hret _ _ _ _ fp_63 L Q dX12_chairsOn_92 hP hS ⟨hI, hF, rfl, rfl⟩
      · skip
        have c_8 : y6_63.toInt < v_4.toInt := (by have z := bn_nle c; omega)
        refine lv_aload_n hx hb dX12_chairsOn_72 rfl (lv_at hl 0 rfl) ?_
        refine sg_get (ci := 12) (v := .ref (h 16)) (C := RX12) (T := TX12) (N := 55) hx hb hts (fun w h => List.mem_cons_of_mem _ (gx_12 w h)) hown hK hP 0 (by decide) rfl rfl 34 (by decide) (hts _ (List.mem_cons_of_mem _ mw_863)) (fun _ h9 => h9) rfl dX12_chairsOn_73 ?_
        refine lv_iload hx hb dX12_chairsOn_76 (lv_at hl 1 rfl) ?_
        refine lv_aload_n hx hb dX12_chairsOn_78 rfl (lv_at hl 0 rfl) ?_
        refine sg_get (ci := 12) (v := .ref (h 15)) (C := RX12) (T := TX12) (N := 55) hx hb hts (fun w h => List.mem_cons_of_mem _ (gx_12 w h)) hown hK hP 0 (by decide) rfl rfl 33 (by decide) (hts _ (List.mem_cons_of_mem _ mw_834)) (fun _ h9 => h9) rfl dX12_chairsOn_79 ?_
        refine lv_iload hx hb dX12_chairsOn_82 (lv_at hl 1 rfl) ?_
        refine sg_iald hx hb hK hP 15 (by decide) 0 rfl rfl (i := y6_63) (vp_in_iff.mpr ⟨by omega, by omega⟩) dX12_chairsOn_84 ?_
        refine lv_topi (fun v_9 ev_9 => ?_)
        have q_10 : 0 ≤ v_9.toInt ∧ v_9.toInt ≤ 7 := by rw [ev_9]; exact hI 15 _
        refine sg_iast hx hb hh hA hK hP hS 16 (by decide) 0 (fun _ => rfl) rfl (i := y6_63) (x := v_9) (vp_in_iff.mpr ⟨by omega, by omega⟩) dX12_chairsOn_85 (fun f_11 H locs ef_11 hP hS => ?_)
        have hI : sgI loM hiM f_11 := by rw [ef_11]; exact sgI.put hI 16 y6_63.toNatClampNeg (show 0 ≤ (v_9 : Int32).toInt ∧ (v_9 : Int32).toInt ≤ 7 from by omega)
        have hF : sgK WkX12_chairsOn_3 f f_11 := sgK.put hF ef_11 (by rfl)
        obtain ⟨v_12, ev_12⟩ : ∃ z : Int32, z = y6_63 + 1 := ⟨_, rfl⟩
        have q_13 : v_12.toInt = y6_63.toInt + 1 := by rw [ev_12]; exact (bn_addc y6_63 1 (by decide) (by omega) (by omega))
        refine lv_iinc (v := v_12) (lv' := [(6, .int v_12), (0, .ref (h 0))]) hx hb dX12_chairsOn_86 hl (k := 1) rfl (by rw [ev_12]; rfl) (by decide) rfl (fun ls hl => ?_)
        refine lv_goto (tgt := 63) hx hb dX12_chairsOn_89 (by decide) ?_
        exact ih_63 v_12 f_11 _ _ _ (by omega) (by have zz0_6 : (f_11 0 6).toInt = v_4.toInt := (congrArg Int32.toInt (show f_11 0 6 = v_4 from (by rw [ef_11, sg_up_n (by decide)]; exact ev_4.symm))); omega) (by omega) hI hF hP hS (lv_sub hl [1, 0] rfl)
  have blk_54 : ∀ (y5_54 : Int32) (fp_54 : sg_F) (H : Heap) (locs : List Loc) (ls : Array Slot), 3 ≤ (fp_54 0 6).toInt ∧ (fp_54 0 6).toInt ≤ 3 → sgI loM hiM fp_54 → sgK WkX12_chairsOn_3 f fp_54 → va_P D vwCl (sgw 26 h (eM ca h) fp_54 L Q) H → va_S (sgA 26 h s.heap.size) s.heap H locs → lv_has ls 7 [(0, .ref (h 0)), (5, .int y5_54)] → W p l e ({ frames := 7, cells := 0, slots := 0, locals := 177 }) s m ([.ref (h 0), .int 3, .int x1, .int x2, .int x3] : List Value).toArray below meth cd H locs 0 0 Qz (F0 m 54 ls []) := by
    intro y5_54 fp_54 H locs ls hy0_54 hI hF hP hS hl
    obtain ⟨v_14, ev_14⟩ : ∃ z : Int32, z = fp_54 0 6 := ⟨_, rfl⟩
    have q_15 : 0 ≤ v_14.toInt ∧ v_14.toInt ≤ 8 := by rw [ev_14]; exact hI 0 6
    have q_16 : (fp_54 0 6).toInt = v_14.toInt := by rw [ev_14]
    refine lv_aload_n hx hb dX12_chairsOn_54 rfl (lv_at hl 0 rfl) ?_
    refine lv_iload hx hb dX12_chairsOn_55 (lv_at hl 1 rfl) ?_
    refine sg_put (ci := 12) (x := y5_54) (ty := .int) (C := RX12) (T := TX12) (N := 55) hx hb hts (fun w h => List.mem_cons_of_mem _ (gx_12 w h)) tyX12 tyX12_ok nmX12 hown hh hA hK hP hS 0 (by decide) rfl rfl 35 (by decide) (hts _ (List.mem_cons_of_mem _ mw_816)) (fun _ h9 => h9) rfl rfl (by decide +kernel) rfl rfl (Nat.le_of_ble_eq_true rfl) dX12_chairsOn_57 (fun f_17 H locs ef_17 hP hS => ?_)
    have hI : sgI loM hiM f_17 := by rw [ef_17]; exact sgI.put hI 0 35 (bn_top _)
    have hF : sgK WkX12_chairsOn_3 f f_17 := sgK.put hF ef_17 (by rfl)
    refine lv_iconst (v := 0) hx hb dX12_chairsOn_60 (by decide) ?_
    refine lv_istore (lv' := [(6, .int 0), (0, .ref (h 0)), (5, .int y5_54)]) hx hb dX12_chairsOn_61 hl (by decide) rfl (fun ls hl => ?_)
    exact loop_63 4 0 f_17 _ _ _ (by have kc0 : (0 : Int32).toInt = 0 := (by decide); omega) (by have zz0_6 : (f_17 0 6).toInt = v_14.toInt := (congrArg Int32.toInt (show f_17 0 6 = v_14 from (by rw [ef_17, sg_up_s, sgu_n (by decide)]; exact ev_14.symm))); omega) (by decide) hI hF hP hS (lv_sub hl [1, 0] rfl)
  have loop_14 : ∀ (n_14 : Nat) (y5_14 : Int32) (y6_14 : Int32) (fp_14 : sg_F) (H : Heap) (locs : List Loc) (ls : Array Slot), 3 - y6_14.toInt < (n_14 : Int) → 3 ≤ (fp_14 0 6).toInt ∧ (fp_14 0 6).toInt ≤ 3 → 0 ≤ y6_14.toInt ∧ y6_14.toInt ≤ 3 → sgI loM hiM fp_14 → sgK WkX12_chairsOn_3 f fp_14 → va_P D vwCl (sgw 26 h (eM ca h) fp_14 L Q) H → va_S (sgA 26 h s.heap.size) s.heap H locs → lv_has ls 7 [(0, .ref (h 0)), (2, .int x1), (3, .int x2), (5, .int y5_14), (6, .int y6_14)] → W p l e ({ frames := 7, cells := 0, slots := 0, locals := 177 }) s m ([.ref (h 0), .int 3, .int x1, .int x2, .int x3] : List Value).toArray below meth cd H locs 0 0 Qz (F0 m 14 ls []) := by
    intro n_14
    induction n_14 with
    | zero => intro y5_14 y6_14 fp_14 H locs ls hm_14 hy0_14 hy1_14 hI hF hP hS hl; exact absurd hm_14 (by omega)
    | succ n_14 ih_14 =>
      intro y5_14 y6_14 fp_14 H locs ls hm_14 hy0_14 hy1_14 hI hF hP hS hl
      obtain ⟨v_18, ev_18⟩ : ∃ z : Int32, z = fp_14 0 6 := ⟨_, rfl⟩
      have q_19 : 0 ≤ v_18.toInt ∧ v_18.toInt ≤ 8 := by rw [ev_18]; exact hI 0 6
      have q_20 : (fp_14 0 6).toInt = v_18.toInt := by rw [ev_18]
      refine lv_iload hx hb dX12_chairsOn_14 (lv_at hl 4 rfl) ?_
      refine lv_iload_n hx hb dX12_chairsOn_16 rfl (lv_at hl 1 rfl) ?_
      refine lv_icmp_ge (tgt := 38) hx hb dX12_chairsOn_17 (by decide) (fun c => ?_) (fun c => ?_)
      · skip
        have c_21 : x1.toInt ≤ y6_14.toInt := (by have z := bn_le c; omega)
        refine lv_aload_n hx hb dX12_chairsOn_38 rfl (lv_at hl 0 rfl) ?_
        refine sg_get (ci := 12) (v := .int (fp_14 0 35)) (C := RX12) (T := TX12) (N := 55) hx hb hts (fun w h => List.mem_cons_of_mem _ (gx_12 w h)) hown hK hP 0 (by decide) rfl rfl 35 (by decide) (hts _ (List.mem_cons_of_mem _ mw_816)) (fun _ h9 => h9) rfl dX12_chairsOn_39 ?_
        refine lv_topi (fun v_23 ev_23 => ?_)
        refine lv_if_lt (tgt := 54) hx hb dX12_chairsOn_42 (by decide) (fun c => ?_) (fun c => ?_)
        · skip
          have c_24 : v_23.toInt < 0 := (by have z := bn_lt c; have k1 : (0 : Int32).toInt = 0 := (by decide); omega)
          exact blk_54 y5_14 fp_14 _ _ _ (by have zz0_6 : (fp_14 0 6).toInt = v_18.toInt := (congrArg Int32.toInt (show fp_14 0 6 = v_18 from ev_18.symm)); omega) hI hF hP hS (lv_sub hl [0, 3] rfl)
        · skip
          have c_25 : 0 ≤ v_23.toInt := (by have z := bn_nlt c; have k1 : (0 : Int32).toInt = 0 := (by decide); omega)
          refine lv_iload hx hb dX12_chairsOn_45 (lv_at hl 3 rfl) ?_
          refine lv_aload_n hx hb dX12_chairsOn_47 rfl (lv_at hl 0 rfl) ?_
          refine sg_get (ci := 12) (v := .int v_23) (C := RX12) (T := TX12) (N := 55) hx hb hts (fun w h => List.mem_cons_of_mem _ (gx_12 w h)) hown hK hP 0 (by decide) rfl rfl 35 (by decide) (hts _ (List.mem_cons_of_mem _ mw_816)) (fun _ h9 => h9) (congrArg (fun z => some (Value.int z)) (show fp_14 0 35 = v_23 from ev_23.symm)) dX12_chairsOn_48 ?_
          refine lv_icmp_ge (tgt := 92) hx hb dX12_chairsOn_51 (by decide) (fun c => ?_) (fun c => ?_)
          · skip
            have c_26 : v_23.toInt ≤ y5_14.toInt := (by have z := bn_le c; omega)
            exact hret _ _ _ _ fp_14 L Q dX12_chairsOn_92 hP hS ⟨hI, hF, rfl, rfl⟩
          · skip
            have c_27 : y5_14.toInt < v_23.toInt := (by have z := bn_nle c; omega)
            exact blk_54 y5_14 fp_14 _ _ _ (by have zz0_6 : (fp_14 0 6).toInt = v_18.toInt := (congrArg Int32.toInt (show fp_14 0 6 = v_18 from ev_18.symm)); omega) hI hF hP hS (lv_sub hl [0, 3] rfl)
      · skip
        have c_22 : y6_14.toInt < x1.toInt := (by have z := bn_nle c; omega)
        refine lv_iload hx hb dX12_chairsOn_20 (lv_at hl 3 rfl) ?_
        refine lv_aload_n hx hb dX12_chairsOn_22 rfl (lv_at hl 0 rfl) ?_
        refine lv_iload_n hx hb dX12_chairsOn_23 rfl (lv_at hl 2 rfl) ?_
        refine lv_iload hx hb dX12_chairsOn_24 (lv_at hl 4 rfl) ?_
        refine sg_calli (va_runV (As := [.int x2, .int y6_14]) (rest := [.int y5_14]) ⟨hx, hb, hml, hown, hts⟩ (kX12_chairLoss l D ca za h hh fp_14 L Q hI x2 y6_14 (by omega) (by omega) H.size) (cwV 2 hts (gw_V (fun _ h => List.mem_cons_of_mem _ h) mw_873 mw_874 mw_875 mw_619 mw_872) rfl rfl rfl (by decide +kernel) ⟨Nat.le_of_ble_eq_true rfl, Nat.le_of_ble_eq_true rfl⟩) (sg_preV (ci := 12) (C := RX12) (T := TX12) (N := 55) hA hK hP hS hZ 0 (by decide) rfl rfl) rfl rfl hl.1 rfl (lv_room (Nat.le_of_ble_eq_true rfl)) dX12_chairsOn_26 ⟨Nat.le_refl _, Nat.le_refl _⟩) hA hS (fun r_31 f_28 L_29 Q_30 H locs hq hP hS => ?_)
        obtain ⟨⟨ef9, eL9, eQ9⟩, hq⟩ := hq
        rw [ef9, eL9, eQ9] at hP; clear ef9 eL9 eQ9
        refine lv_iadd hx hb dX12_chairsOn_29 ?_
        refine lv_topi (fun v_32 ev_32 => ?_)
        refine lv_istore (lv' := [(5, .int v_32), (0, .ref (h 0)), (2, .int x1), (3, .int x2), (6, .int y6_14)]) hx hb dX12_chairsOn_30 hl (by decide) rfl (fun ls hl => ?_)
        obtain ⟨v_33, ev_33⟩ : ∃ z : Int32, z = y6_14 + 1 := ⟨_, rfl⟩
        have q_34 : v_33.toInt = y6_14.toInt + 1 := by rw [ev_33]; exact (bn_addc y6_14 1 (by decide) (by omega) (by omega))
        refine lv_iinc (v := v_33) (lv' := [(6, .int v_33), (5, .int v_32), (0, .ref (h 0)), (2, .int x1), (3, .int x2)]) hx hb dX12_chairsOn_32 hl (k := 4) rfl (by rw [ev_33]; rfl) (by decide) rfl (fun ls hl => ?_)
        refine lv_goto (tgt := 14) hx hb dX12_chairsOn_35 (by decide) ?_
        exact ih_14 v_32 v_33 fp_14 _ _ _ (by omega) (by have zz0_6 : (fp_14 0 6).toInt = v_18.toInt := (congrArg Int32.toInt (show fp_14 0 6 = v_18 from ev_18.symm)); omega) (by omega) hI hF hP hS (lv_sub hl [2, 3, 4, 1, 0] rfl)
  have loop_116 : ∀ (n_116 : Nat) (y5_116 : Int32) (fp_116 : sg_F) (H : Heap) (locs : List Loc) (ls : Array Slot), 4 - y5_116.toInt < (n_116 : Int) → 4 ≤ (fp_116 0 6).toInt ∧ (fp_116 0 6).toInt ≤ 8 → 0 ≤ y5_116.toInt ∧ y5_116.toInt ≤ 4 → sgI loM hiM fp_116 → sgK WkX12_chairsOn_3 f fp_116 → va_P D vwCl (sgw 26 h (eM ca h) fp_116 L Q) H → va_S (sgA 26 h s.heap.size) s.heap H locs → lv_has ls 7 [(0, .ref (h 0)), (1, .int 3), (2, .int x1), (3, .int x2), (4, .int x3), (5, .int y5_116)] → W p l e ({ frames := 7, cells := 0, slots := 0, locals := 177 }) s m ([.ref (h 0), .int 3, .int x1, .int x2, .int x3] : List Value).toArray below meth cd H locs 0 0 Qz (F0 m 116 ls []) := by
    intro n_116
    induction n_116 with
    | zero => intro y5_116 fp_116 H locs ls hm_116 hy0_116 hy1_116 hI hF hP hS hl; exact absurd hm_116 (by omega)
    | succ n_116 ih_116 =>
      intro y5_116 fp_116 H locs ls hm_116 hy0_116 hy1_116 hI hF hP hS hl
      obtain ⟨v_35, ev_35⟩ : ∃ z : Int32, z = fp_116 0 6 := ⟨_, rfl⟩
      have q_36 : 0 ≤ v_35.toInt ∧ v_35.toInt ≤ 8 := by rw [ev_35]; exact hI 0 6
      have q_37 : (fp_116 0 6).toInt = v_35.toInt := by rw [ev_35]
      refine lv_iload hx hb dX12_chairsOn_116 (lv_at hl 5 rfl) ?_
      refine lv_iload hx hb dX12_chairsOn_118 (lv_at hl 4 rfl) ?_
      refine lv_icmp_ge (tgt := 166) hx hb dX12_chairsOn_120 (by decide) (fun c => ?_) (fun c => ?_)
      · skip
        have c_38 : x3.toInt ≤ y5_116.toInt := (by have z := bn_le c; omega)
        exact hret _ _ _ _ fp_116 L Q dX12_chairsOn_166 hP hS ⟨hI, hF, rfl, rfl⟩
      · skip
        have c_39 : y5_116.toInt < x3.toInt := (by have z := bn_nle c; omega)
        refine lv_iload hx hb dX12_chairsOn_123 (lv_at hl 5 rfl) ?_
        refine lv_iload_n hx hb dX12_chairsOn_125 rfl (lv_at hl 2 rfl) ?_
        refine lv_icmp_gt (tgt := 166) hx hb dX12_chairsOn_126 (by decide) (fun c => ?_) (fun c => ?_)
        · skip
          have c_40 : x1.toInt < y5_116.toInt := (by have z := bn_lt c; omega)
          exact hret _ _ _ _ fp_116 L Q dX12_chairsOn_166 hP hS ⟨hI, hF, rfl, rfl⟩
        · skip
          have c_41 : y5_116.toInt ≤ x1.toInt := (by have z := bn_nlt c; omega)
          refine lv_aload_n hx hb dX12_chairsOn_129 rfl (lv_at hl 0 rfl) ?_
          refine sg_get (ci := 12) (v := .ref (h 15)) (C := RX12) (T := TX12) (N := 55) hx hb hts (fun w h => List.mem_cons_of_mem _ (gx_12 w h)) hown hK hP 0 (by decide) rfl rfl 33 (by decide) (hts _ (List.mem_cons_of_mem _ mw_834)) (fun _ h9 => h9) rfl dX12_chairsOn_130 ?_
          refine lv_iload_n hx hb dX12_chairsOn_133 rfl (lv_at hl 1 rfl) ?_
          refine lv_iload hx hb dX12_chairsOn_134 (lv_at hl 5 rfl) ?_
          refine sg_iast hx hb hh hA hK hP hS 15 (by decide) 0 (fun _ => rfl) rfl (i := 3) (x := y5_116) (vp_in_iff.mpr (by decide)) dX12_chairsOn_136 (fun f_42 H locs ef_42 hP hS => ?_)
          have hI : sgI loM hiM f_42 := by rw [ef_42]; exact sgI.put hI 15 (Int32.toNatClampNeg 3) (show 0 ≤ (y5_116 : Int32).toInt ∧ (y5_116 : Int32).toInt ≤ 7 from by omega)
          have hF : sgK WkX12_chairsOn_3 f f_42 := sgK.put hF ef_42 (by rfl)
          refine lv_aload_n hx hb dX12_chairsOn_137 rfl (lv_at hl 0 rfl) ?_
          refine lv_iload_n hx hb dX12_chairsOn_138 rfl (lv_at hl 1 rfl) ?_
          refine lv_iconst (v := 1) hx hb dX12_chairsOn_139 (by decide) ?_
          refine lv_iadd hx hb dX12_chairsOn_140 ?_
          refine W.eq (g2 := F0 m 141 ls [.int 4, .ref (h 0)]) (by rw [show (3 + 1 : Int32) = 4 from by decide]) ?_
          refine lv_iload hx hb dX12_chairsOn_141 (lv_at hl 5 rfl) ?_
          refine lv_iload_n hx hb dX12_chairsOn_143 rfl (lv_at hl 2 rfl) ?_
          refine lv_icmp_ne (tgt := 153) hx hb dX12_chairsOn_144 (by decide) (fun c => ?_) (fun c => ?_)
          · skip
            have c_43 : y5_116.toInt ≠ x1.toInt := (by have z := bn_ne c; omega)
            refine lv_iload_n hx hb dX12_chairsOn_153 rfl (lv_at hl 2 rfl) ?_
            refine lv_iload_n hx hb dX12_chairsOn_154 rfl (lv_at hl 3 rfl) ?_
            refine lv_iload hx hb dX12_chairsOn_155 (lv_at hl 4 rfl) ?_
            have q_45 : (f_42 0 6).toInt = v_35.toInt := (congrArg Int32.toInt (show f_42 0 6 = v_35 from (by rw [ef_42, sg_up_n (by decide)]; exact ev_35.symm)))
            have q_46 : (f_42 0 6).toInt = v_35.toInt := (congrArg Int32.toInt (show f_42 0 6 = v_35 from (by rw [ef_42, sg_up_n (by decide)]; exact ev_35.symm)))
            refine sg_callv (va_runV (As := [.int 4, .int x1, .int x2, .int x3]) (rest := []) ⟨hx, hb, hml, hown, hts⟩ (kX12_chairsOn_4 l D ca za h hh f_42 L Q hI x1 x2 x3 (by omega) (by omega) (by omega) (by have k0 : (4 : Int32).toInt = 4 := (by decide); omega) H.size) (cwV 4 hts (gw_V (fun _ h => List.mem_cons_of_mem _ h) mw_860 mw_861 mw_862 mw_619 mw_859) rfl rfl rfl (by decide +kernel) ⟨Nat.le_of_ble_eq_true rfl, Nat.le_of_ble_eq_true rfl⟩) (sg_preV (ci := 12) (C := RX12) (T := TX12) (N := 55) hA hK hP hS hZ 0 (by decide) rfl rfl) rfl rfl hl.1 rfl (lv_room (Nat.le_of_ble_eq_true rfl)) dX12_chairsOn_157 ⟨Nat.le_refl _, Nat.le_refl _⟩) hA hS (fun f_47 L_48 Q_49 H locs hq hP hS => ?_)
            obtain ⟨hI, hk_f_47, eL9, eQ9⟩ := hq
            rw [eL9, eQ9] at hP; clear eL9 eQ9
            have hF : sgK WkX12_chairsOn_3 f f_47 := sgK.tr hF hk_f_47 (by decide)
            obtain ⟨v_50, ev_50⟩ : ∃ z : Int32, z = y5_116 + 1 := ⟨_, rfl⟩
            have q_51 : v_50.toInt = y5_116.toInt + 1 := by rw [ev_50]; exact (bn_addc y5_116 1 (by decide) (by omega) (by omega))
            refine lv_iinc (v := v_50) (lv' := [(5, .int v_50), (0, .ref (h 0)), (1, .int 3), (2, .int x1), (3, .int x2), (4, .int x3)]) hx hb dX12_chairsOn_160 hl (k := 5) rfl (by rw [ev_50]; rfl) (by decide) rfl (fun ls hl => ?_)
            refine lv_goto (tgt := 116) hx hb dX12_chairsOn_163 (by decide) ?_
            exact ih_116 v_50 f_47 _ _ _ (by omega) (by have zz0_6 : (f_47 0 6).toInt = v_35.toInt := (congrArg Int32.toInt (show f_47 0 6 = v_35 from ((hk_f_47 0 6 (by decide)).trans (by rw [ef_42, sg_up_n (by decide)]; exact ev_35.symm)))); omega) (by omega) hI hF hP hS (lv_sub hl [1, 2, 3, 4, 5, 0] rfl)
          · skip
            have c_44 : y5_116.toInt = x1.toInt := (by have z := Int32.toInt_inj.mpr c; omega)
            refine lv_iload_n hx hb dX12_chairsOn_147 rfl (lv_at hl 2 rfl) ?_
            refine lv_iconst (v := 1) hx hb dX12_chairsOn_148 (by decide) ?_
            refine lv_iadd hx hb dX12_chairsOn_149 ?_
            refine lv_topi (fun v_52 ev_52 => ?_)
            have q_53 : v_52.toInt = x1.toInt + 1 := by rw [ev_52]; have k1 : (1 : Int32).toInt = 1 := (by decide); exact (bn_addI (by omega) (by omega)).trans (by omega)
            refine lv_goto (tgt := 154) hx hb dX12_chairsOn_150 (by decide) ?_
            refine lv_iload_n hx hb dX12_chairsOn_154 rfl (lv_at hl 3 rfl) ?_
            refine lv_iload hx hb dX12_chairsOn_155 (lv_at hl 4 rfl) ?_
            have q_54 : (f_42 0 6).toInt = v_35.toInt := (congrArg Int32.toInt (show f_42 0 6 = v_35 from (by rw [ef_42, sg_up_n (by decide)]; exact ev_35.symm)))
            have q_55 : (f_42 0 6).toInt = v_35.toInt := (congrArg Int32.toInt (show f_42 0 6 = v_35 from (by rw [ef_42, sg_up_n (by decide)]; exact ev_35.symm)))
            refine sg_callv (va_runV (As := [.int 4, .int v_52, .int x2, .int x3]) (rest := []) ⟨hx, hb, hml, hown, hts⟩ (kX12_chairsOn_4 l D ca za h hh f_42 L Q hI v_52 x2 x3 (by omega) (by omega) (by omega) (by have k0 : (4 : Int32).toInt = 4 := (by decide); omega) H.size) (cwV 4 hts (gw_V (fun _ h => List.mem_cons_of_mem _ h) mw_860 mw_861 mw_862 mw_619 mw_859) rfl rfl rfl (by decide +kernel) ⟨Nat.le_of_ble_eq_true rfl, Nat.le_of_ble_eq_true rfl⟩) (sg_preV (ci := 12) (C := RX12) (T := TX12) (N := 55) hA hK hP hS hZ 0 (by decide) rfl rfl) rfl rfl hl.1 rfl (lv_room (Nat.le_of_ble_eq_true rfl)) dX12_chairsOn_157 ⟨Nat.le_refl _, Nat.le_refl _⟩) hA hS (fun f_56 L_57 Q_58 H locs hq hP hS => ?_)
            obtain ⟨hI, hk_f_56, eL9, eQ9⟩ := hq
            rw [eL9, eQ9] at hP; clear eL9 eQ9
            have hF : sgK WkX12_chairsOn_3 f f_56 := sgK.tr hF hk_f_56 (by decide)
            obtain ⟨v_59, ev_59⟩ : ∃ z : Int32, z = y5_116 + 1 := ⟨_, rfl⟩
            have q_60 : v_59.toInt = y5_116.toInt + 1 := by rw [ev_59]; exact (bn_addc y5_116 1 (by decide) (by omega) (by omega))
            refine lv_iinc (v := v_59) (lv' := [(5, .int v_59), (0, .ref (h 0)), (1, .int 3), (2, .int x1), (3, .int x2), (4, .int x3)]) hx hb dX12_chairsOn_160 hl (k := 5) rfl (by rw [ev_59]; rfl) (by decide) rfl (fun ls hl => ?_)
            refine lv_goto (tgt := 116) hx hb dX12_chairsOn_163 (by decide) ?_
            exact ih_116 v_59 f_56 _ _ _ (by omega) (by have zz0_6 : (f_56 0 6).toInt = v_35.toInt := (congrArg Int32.toInt (show f_56 0 6 = v_35 from ((hk_f_56 0 6 (by decide)).trans (by rw [ef_42, sg_up_n (by decide)]; exact ev_35.symm)))); omega) (by omega) hI hF hP hS (lv_sub hl [1, 2, 3, 4, 5, 0] rfl)
  refine lv_iload_n hx hb dX12_chairsOn_0 rfl (lv_at hl 1 rfl) ?_
  refine lv_aload_n hx hb dX12_chairsOn_1 rfl (lv_at hl 0 rfl) ?_
  refine sg_get (ci := 12) (v := .int v_1) (C := RX12) (T := TX12) (N := 55) hx hb hts (fun w h => List.mem_cons_of_mem _ (gx_12 w h)) hown hK hP 0 (by decide) rfl rfl 6 (by decide) (hts _ (List.mem_cons_of_mem _ mw_622)) (fun _ h9 => h9) (congrArg (fun z => some (Value.int z)) (show f 0 6 = v_1 from ev_1.symm)) dX12_chairsOn_2 ?_
  refine lv_icmp_ne (tgt := 93) hx hb dX12_chairsOn_5 (by decide) (fun c => ?_) (fun c => ?_)
  · skip
    have c_61 : 3 ≠ v_1.toInt := (by have z := bn_ne c; have k0 : (3 : Int32).toInt = 3 := (by decide); omega)
    refine lv_iload_n hx hb dX12_chairsOn_93 rfl (lv_at hl 3 rfl) ?_
    refine lv_iload_n hx hb dX12_chairsOn_94 rfl (lv_at hl 1 rfl) ?_
    refine sg_calli (va_runS (As := [.int x2, .int 3]) (rest := []) ⟨hx, hb, hml, hown, hts⟩ (kX12_isIn l D ca za h hh f L Q hI x2 3 (by omega) (by decide) H.size) (va_cwS 2 hts (gw_S (fun _ h => List.mem_cons_of_mem _ h) mw_832 mw_833 mw_619 mw_831) rfl rfl rfl (by decide +kernel) ⟨Nat.le_of_ble_eq_true rfl, Nat.le_of_ble_eq_true rfl⟩) (sg_preS hA hK hP hS hZ) rfl rfl hl.1 rfl (lv_room (Nat.le_of_ble_eq_true rfl)) dX12_chairsOn_95 ⟨Nat.le_refl _, Nat.le_refl _⟩) hA hS (fun r_66 f_63 L_64 Q_65 H locs hq hP hS => ?_)
    obtain ⟨⟨ef9, eL9, eQ9⟩, hq⟩ := hq
    rw [ef9, eL9, eQ9] at hP; clear ef9 eL9 eQ9
    refine lv_if_ne (tgt := 113) hx hb dX12_chairsOn_98 (by decide) (fun c => ?_) (fun c => ?_)
    · skip
      have c_67 : r_66.toInt ≠ 0 := (by have z := bn_ne c; have k1 : (0 : Int32).toInt = 0 := (by decide); omega)
      refine lv_iconst (v := 0) hx hb dX12_chairsOn_113 (by decide) ?_
      refine lv_istore (lv' := [(5, .int 0), (0, .ref (h 0)), (1, .int 3), (2, .int x1), (3, .int x2), (4, .int x3)]) hx hb dX12_chairsOn_114 hl (by decide) rfl (fun ls hl => ?_)
      exact loop_116 5 0 f _ _ _ (by have kc0 : (0 : Int32).toInt = 0 := (by decide); omega) (by have zz0_6 : (f 0 6).toInt = v_1.toInt := (congrArg Int32.toInt (show f 0 6 = v_1 from ev_1.symm)); omega) (by decide) hI hF hP hS (lv_sub hl [1, 2, 3, 4, 5, 0] rfl)
    · skip
      have c_68 : r_66.toInt = 0 := (by have z := Int32.toInt_inj.mpr c; have k1 : (0 : Int32).toInt = 0 := (by decide); omega)
      refine lv_aload_n hx hb dX12_chairsOn_101 rfl (lv_at hl 0 rfl) ?_
      refine lv_iload_n hx hb dX12_chairsOn_102 rfl (lv_at hl 1 rfl) ?_
      refine lv_iconst (v := 1) hx hb dX12_chairsOn_103 (by decide) ?_
      refine lv_iadd hx hb dX12_chairsOn_104 ?_
      refine W.eq (g2 := F0 m 105 ls [.int 4, .ref (h 0)]) (by rw [show (3 + 1 : Int32) = 4 from by decide]) ?_
      refine lv_iload_n hx hb dX12_chairsOn_105 rfl (lv_at hl 2 rfl) ?_
      refine lv_iload_n hx hb dX12_chairsOn_106 rfl (lv_at hl 3 rfl) ?_
      refine lv_iload hx hb dX12_chairsOn_107 (lv_at hl 4 rfl) ?_
      have q_69 : (f 0 6).toInt = v_1.toInt := (congrArg Int32.toInt (show f 0 6 = v_1 from ev_1.symm))
      have q_70 : (f 0 6).toInt = v_1.toInt := (congrArg Int32.toInt (show f 0 6 = v_1 from ev_1.symm))
      refine sg_callv (va_runV (As := [.int 4, .int x1, .int x2, .int x3]) (rest := []) ⟨hx, hb, hml, hown, hts⟩ (kX12_chairsOn_4 l D ca za h hh f L Q hI x1 x2 x3 (by omega) (by omega) (by omega) (by have k0 : (4 : Int32).toInt = 4 := (by decide); omega) H.size) (cwV 4 hts (gw_V (fun _ h => List.mem_cons_of_mem _ h) mw_860 mw_861 mw_862 mw_619 mw_859) rfl rfl rfl (by decide +kernel) ⟨Nat.le_of_ble_eq_true rfl, Nat.le_of_ble_eq_true rfl⟩) (sg_preV (ci := 12) (C := RX12) (T := TX12) (N := 55) hA hK hP hS hZ 0 (by decide) rfl rfl) rfl rfl hl.1 rfl (lv_room (Nat.le_of_ble_eq_true rfl)) dX12_chairsOn_109 ⟨Nat.le_refl _, Nat.le_refl _⟩) hA hS (fun f_71 L_72 Q_73 H locs hq hP hS => ?_)
      obtain ⟨hI, hk_f_71, eL9, eQ9⟩ := hq
      rw [eL9, eQ9] at hP; clear eL9 eQ9
      have hF : sgK WkX12_chairsOn_3 f f_71 := sgK.tr hF hk_f_71 (by decide)
      exact hret _ _ _ _ f_71 L Q dX12_chairsOn_112 hP hS ⟨hI, hF, rfl, rfl⟩
  · skip
    have c_62 : 3 = v_1.toInt := (by have z := Int32.toInt_inj.mpr c; have k0 : (3 : Int32).toInt = 3 := (by decide); omega)
    refine lv_iconst (v := 0) hx hb dX12_chairsOn_8 (by decide) ?_
    refine lv_istore (lv' := [(5, .int 0), (0, .ref (h 0)), (1, .int 3), (2, .int x1), (3, .int x2), (4, .int x3)]) hx hb dX12_chairsOn_9 hl (by decide) rfl (fun ls hl => ?_)
    refine lv_iconst (v := 0) hx hb dX12_chairsOn_11 (by decide) ?_
    refine lv_istore (lv' := [(6, .int 0), (5, .int 0), (0, .ref (h 0)), (1, .int 3), (2, .int x1), (3, .int x2), (4, .int x3)]) hx hb dX12_chairsOn_12 hl (by decide) rfl (fun ls hl => ?_)
    exact loop_14 4 0 0 f _ _ _ (by have kc0 : (0 : Int32).toInt = 0 := (by decide); have kc1 : (0 : Int32).toInt = 0 := (by decide); omega) (by have zz0_6 : (f 0 6).toInt = v_1.toInt := (congrArg Int32.toInt (show f 0 6 = v_1 from ev_1.symm)); omega) (by decide) hI hF hP hS (lv_sub hl [2, 4, 5, 1, 0] rfl)

abbrev WkX12_chairsOn_2 : List (Nat × Nat × Option Nat) := [(0, 0, some 35), (15, 15, none), (16, 16, none)]
set_option maxHeartbeats 4000000 in
set_option maxRecDepth 100000 in
theorem kX12_chairsOn_2 (l : Launch) (D : va_G) (ca : Nat → ClassId) (za h : Nat → Nat) (hh : sgH 26 h) (f : sg_F) (L : sg_L) (Q : sg_Q) (hI : sgI loM hiM f) (x1 : Int32) (x2 : Int32) (x3 : Int32) (b1 : 0 ≤ x1.toInt ∧ x1.toInt ≤ 2) (b2 : 0 ≤ x2.toInt ∧ x2.toInt ≤ 255) (b3 : 0 ≤ x3.toInt ∧ x3.toInt ≤ 9) (p0 : 2 ≤ (f 0 6).toInt ∧ (f 0 6).toInt ≤ 8) (sz : Nat) : Met l yX12_chairsOn gwX12_chairsOn { frames := 8, cells := 0, slots := 0, locals := 203 } (sgP D vwCl (tyX ca) 26 h (eM ca h) zcM za f L Q sz [.ref (h 0), .int 2, .int x1, .int x2, .int x3]) (sgQv D vwCl 26 h (eM ca h) sz (fun f1 L1 Q1 => ((sgI loM hiM f1 ∧ sgK WkX12_chairsOn_2 f f1 ∧ L1 = L ∧ Q1 = Q)))) 0 0 (sgA 26 h sz) := by
  refine sg_ofWv (cc := cX12_chairsOn) (maxL := 7) RX12 (by decide) rfl rfl (Nat.le_of_ble_eq_true rfl) ?_
  intro p e s m below meth cd Qz ls hx hb hml hown hts hK hZ hP hS hl hret
  have hA := sgY.self (n := 26) (h := h) (sz := s.heap.size)
  have hl : lv_has ls 7 [(0, .ref (h 0)), (1, .int 2), (2, .int x1), (3, .int x2), (4, .int x3)] := hl
  obtain ⟨H, hH⟩ : ∃ z : Heap, z = s.heap := ⟨_, rfl⟩
  obtain ⟨locs, hlo⟩ : ∃ z : List Loc, z = [] := ⟨_, rfl⟩
  have hP : va_P D vwCl (sgw 26 h (eM ca h) f L Q) H := by rw [hH]; exact hP
  have hS : va_S (sgA 26 h s.heap.size) s.heap H locs := by rw [hH, hlo]; exact hS
  suffices hgo : W p l e ({ frames := 8, cells := 0, slots := 0, locals := 203 }) s m ([.ref (h 0), .int 2, .int x1, .int x2, .int x3] : List Value).toArray below meth cd H locs 0 0 Qz (F0 m 0 ls []) by rw [hH, hlo] at hgo; exact hgo
  clear hH hlo
  obtain ⟨v_1, ev_1⟩ : ∃ z : Int32, z = f 0 6 := ⟨_, rfl⟩
  have q_2 : 0 ≤ v_1.toInt ∧ v_1.toInt ≤ 8 := by rw [ev_1]; exact hI 0 6
  have o_3 : (f 0 6).toInt = v_1.toInt := (congrArg Int32.toInt (show f 0 6 = v_1 from ev_1.symm))
  have hF : sgK WkX12_chairsOn_2 f f := sgK.rf
  have loop_63 : ∀ (n_63 : Nat) (y6_63 : Int32) (fp_63 : sg_F) (H : Heap) (locs : List Loc) (ls : Array Slot), 2 - y6_63.toInt < (n_63 : Int) → 2 ≤ (fp_63 0 6).toInt ∧ (fp_63 0 6).toInt ≤ 2 → 0 ≤ y6_63.toInt ∧ y6_63.toInt ≤ 2 → sgI loM hiM fp_63 → sgK WkX12_chairsOn_2 f fp_63 → va_P D vwCl (sgw 26 h (eM ca h) fp_63 L Q) H → va_S (sgA 26 h s.heap.size) s.heap H locs → lv_has ls 7 [(0, .ref (h 0)), (6, .int y6_63)] → W p l e ({ frames := 8, cells := 0, slots := 0, locals := 203 }) s m ([.ref (h 0), .int 2, .int x1, .int x2, .int x3] : List Value).toArray below meth cd H locs 0 0 Qz (F0 m 63 ls []) := by
    intro n_63
    induction n_63 with
    | zero => intro y6_63 fp_63 H locs ls hm_63 hy0_63 hy1_63 hI hF hP hS hl; exact absurd hm_63 (by omega)
    | succ n_63 ih_63 =>
      intro y6_63 fp_63 H locs ls hm_63 hy0_63 hy1_63 hI hF hP hS hl
      obtain ⟨v_4, ev_4⟩ : ∃ z : Int32, z = fp_63 0 6 := ⟨_, rfl⟩
      have q_5 : 0 ≤ v_4.toInt ∧ v_4.toInt ≤ 8 := by rw [ev_4]; exact hI 0 6
      have q_6 : (fp_63 0 6).toInt = v_4.toInt := by rw [ev_4]
      refine lv_iload hx hb dX12_chairsOn_63 (lv_at hl 1 rfl) ?_
      refine lv_aload_n hx hb dX12_chairsOn_65 rfl (lv_at hl 0 rfl) ?_
      refine sg_get (ci := 12) (v := .int v_4) (C := RX12) (T := TX12) (N := 55) hx hb hts (fun w h => List.mem_cons_of_mem _ (gx_12 w h)) hown hK hP 0 (by decide) rfl rfl 6 (by decide) (hts _ (List.mem_cons_of_mem _ mw_622)) (fun _ h9 => h9) (congrArg (fun z => some (Value.int z)) (show fp_63 0 6 = v_4 from ev_4.symm)) dX12_chairsOn_66 ?_
      refine lv_icmp_ge (tgt := 92) hx hb dX12_chairsOn_69 (by decide) (fun c => ?_) (fun c => ?_)
      · skip
        have c_7 : v_4.toInt ≤ y6_63.toInt := (by have z := bn_le c; omega)
        exact hret _ _ _ _ fp_63 L Q dX12_chairsOn_92 hP hS ⟨hI, hF, rfl, rfl⟩
      · skip
        have c_8 : y6_63.toInt < v_4.toInt := (by have z := bn_nle c; omega)
        refine lv_aload_n hx hb dX12_chairsOn_72 rfl (lv_at hl 0 rfl) ?_
        refine sg_get (ci := 12) (v := .ref (h 16)) (C := RX12) (T := TX12) (N := 55) hx hb hts (fun w h => List.mem_cons_of_mem _ (gx_12 w h)) hown hK hP 0 (by decide) rfl rfl 34 (by decide) (hts _ (List.mem_cons_of_mem _ mw_863)) (fun _ h9 => h9) rfl dX12_chairsOn_73 ?_
        refine lv_iload hx hb dX12_chairsOn_76 (lv_at hl 1 rfl) ?_
        refine lv_aload_n hx hb dX12_chairsOn_78 rfl (lv_at hl 0 rfl) ?_
        refine sg_get (ci := 12) (v := .ref (h 15)) (C := RX12) (T := TX12) (N := 55) hx hb hts (fun w h => List.mem_cons_of_mem _ (gx_12 w h)) hown hK hP 0 (by decide) rfl rfl 33 (by decide) (hts _ (List.mem_cons_of_mem _ mw_834)) (fun _ h9 => h9) rfl dX12_chairsOn_79 ?_
        refine lv_iload hx hb dX12_chairsOn_82 (lv_at hl 1 rfl) ?_
        refine sg_iald hx hb hK hP 15 (by decide) 0 rfl rfl (i := y6_63) (vp_in_iff.mpr ⟨by omega, by omega⟩) dX12_chairsOn_84 ?_
        refine lv_topi (fun v_9 ev_9 => ?_)
        have q_10 : 0 ≤ v_9.toInt ∧ v_9.toInt ≤ 7 := by rw [ev_9]; exact hI 15 _
        refine sg_iast hx hb hh hA hK hP hS 16 (by decide) 0 (fun _ => rfl) rfl (i := y6_63) (x := v_9) (vp_in_iff.mpr ⟨by omega, by omega⟩) dX12_chairsOn_85 (fun f_11 H locs ef_11 hP hS => ?_)
        have hI : sgI loM hiM f_11 := by rw [ef_11]; exact sgI.put hI 16 y6_63.toNatClampNeg (show 0 ≤ (v_9 : Int32).toInt ∧ (v_9 : Int32).toInt ≤ 7 from by omega)
        have hF : sgK WkX12_chairsOn_2 f f_11 := sgK.put hF ef_11 (by rfl)
        obtain ⟨v_12, ev_12⟩ : ∃ z : Int32, z = y6_63 + 1 := ⟨_, rfl⟩
        have q_13 : v_12.toInt = y6_63.toInt + 1 := by rw [ev_12]; exact (bn_addc y6_63 1 (by decide) (by omega) (by omega))
        refine lv_iinc (v := v_12) (lv' := [(6, .int v_12), (0, .ref (h 0))]) hx hb dX12_chairsOn_86 hl (k := 1) rfl (by rw [ev_12]; rfl) (by decide) rfl (fun ls hl => ?_)
        refine lv_goto (tgt := 63) hx hb dX12_chairsOn_89 (by decide) ?_
        exact ih_63 v_12 f_11 _ _ _ (by omega) (by have zz0_6 : (f_11 0 6).toInt = v_4.toInt := (congrArg Int32.toInt (show f_11 0 6 = v_4 from (by rw [ef_11, sg_up_n (by decide)]; exact ev_4.symm))); omega) (by omega) hI hF hP hS (lv_sub hl [1, 0] rfl)
  have blk_54 : ∀ (y5_54 : Int32) (fp_54 : sg_F) (H : Heap) (locs : List Loc) (ls : Array Slot), 2 ≤ (fp_54 0 6).toInt ∧ (fp_54 0 6).toInt ≤ 2 → sgI loM hiM fp_54 → sgK WkX12_chairsOn_2 f fp_54 → va_P D vwCl (sgw 26 h (eM ca h) fp_54 L Q) H → va_S (sgA 26 h s.heap.size) s.heap H locs → lv_has ls 7 [(0, .ref (h 0)), (5, .int y5_54)] → W p l e ({ frames := 8, cells := 0, slots := 0, locals := 203 }) s m ([.ref (h 0), .int 2, .int x1, .int x2, .int x3] : List Value).toArray below meth cd H locs 0 0 Qz (F0 m 54 ls []) := by
    intro y5_54 fp_54 H locs ls hy0_54 hI hF hP hS hl
    obtain ⟨v_14, ev_14⟩ : ∃ z : Int32, z = fp_54 0 6 := ⟨_, rfl⟩
    have q_15 : 0 ≤ v_14.toInt ∧ v_14.toInt ≤ 8 := by rw [ev_14]; exact hI 0 6
    have q_16 : (fp_54 0 6).toInt = v_14.toInt := by rw [ev_14]
    refine lv_aload_n hx hb dX12_chairsOn_54 rfl (lv_at hl 0 rfl) ?_
    refine lv_iload hx hb dX12_chairsOn_55 (lv_at hl 1 rfl) ?_
    refine sg_put (ci := 12) (x := y5_54) (ty := .int) (C := RX12) (T := TX12) (N := 55) hx hb hts (fun w h => List.mem_cons_of_mem _ (gx_12 w h)) tyX12 tyX12_ok nmX12 hown hh hA hK hP hS 0 (by decide) rfl rfl 35 (by decide) (hts _ (List.mem_cons_of_mem _ mw_816)) (fun _ h9 => h9) rfl rfl (by decide +kernel) rfl rfl (Nat.le_of_ble_eq_true rfl) dX12_chairsOn_57 (fun f_17 H locs ef_17 hP hS => ?_)
    have hI : sgI loM hiM f_17 := by rw [ef_17]; exact sgI.put hI 0 35 (bn_top _)
    have hF : sgK WkX12_chairsOn_2 f f_17 := sgK.put hF ef_17 (by rfl)
    refine lv_iconst (v := 0) hx hb dX12_chairsOn_60 (by decide) ?_
    refine lv_istore (lv' := [(6, .int 0), (0, .ref (h 0)), (5, .int y5_54)]) hx hb dX12_chairsOn_61 hl (by decide) rfl (fun ls hl => ?_)
    exact loop_63 3 0 f_17 _ _ _ (by have kc0 : (0 : Int32).toInt = 0 := (by decide); omega) (by have zz0_6 : (f_17 0 6).toInt = v_14.toInt := (congrArg Int32.toInt (show f_17 0 6 = v_14 from (by rw [ef_17, sg_up_s, sgu_n (by decide)]; exact ev_14.symm))); omega) (by decide) hI hF hP hS (lv_sub hl [1, 0] rfl)
  have loop_14 : ∀ (n_14 : Nat) (y5_14 : Int32) (y6_14 : Int32) (fp_14 : sg_F) (H : Heap) (locs : List Loc) (ls : Array Slot), 2 - y6_14.toInt < (n_14 : Int) → 2 ≤ (fp_14 0 6).toInt ∧ (fp_14 0 6).toInt ≤ 2 → 0 ≤ y6_14.toInt ∧ y6_14.toInt ≤ 2 → sgI loM hiM fp_14 → sgK WkX12_chairsOn_2 f fp_14 → va_P D vwCl (sgw 26 h (eM ca h) fp_14 L Q) H → va_S (sgA 26 h s.heap.size) s.heap H locs → lv_has ls 7 [(0, .ref (h 0)), (2, .int x1), (3, .int x2), (5, .int y5_14), (6, .int y6_14)] → W p l e ({ frames := 8, cells := 0, slots := 0, locals := 203 }) s m ([.ref (h 0), .int 2, .int x1, .int x2, .int x3] : List Value).toArray below meth cd H locs 0 0 Qz (F0 m 14 ls []) := by
    intro n_14
    induction n_14 with
    | zero => intro y5_14 y6_14 fp_14 H locs ls hm_14 hy0_14 hy1_14 hI hF hP hS hl; exact absurd hm_14 (by omega)
    | succ n_14 ih_14 =>
      intro y5_14 y6_14 fp_14 H locs ls hm_14 hy0_14 hy1_14 hI hF hP hS hl
      obtain ⟨v_18, ev_18⟩ : ∃ z : Int32, z = fp_14 0 6 := ⟨_, rfl⟩
      have q_19 : 0 ≤ v_18.toInt ∧ v_18.toInt ≤ 8 := by rw [ev_18]; exact hI 0 6
      have q_20 : (fp_14 0 6).toInt = v_18.toInt := by rw [ev_18]
      refine lv_iload hx hb dX12_chairsOn_14 (lv_at hl 4 rfl) ?_
      refine lv_iload_n hx hb dX12_chairsOn_16 rfl (lv_at hl 1 rfl) ?_
      refine lv_icmp_ge (tgt := 38) hx hb dX12_chairsOn_17 (by decide) (fun c => ?_) (fun c => ?_)
      · skip
        have c_21 : x1.toInt ≤ y6_14.toInt := (by have z := bn_le c; omega)
        refine lv_aload_n hx hb dX12_chairsOn_38 rfl (lv_at hl 0 rfl) ?_
        refine sg_get (ci := 12) (v := .int (fp_14 0 35)) (C := RX12) (T := TX12) (N := 55) hx hb hts (fun w h => List.mem_cons_of_mem _ (gx_12 w h)) hown hK hP 0 (by decide) rfl rfl 35 (by decide) (hts _ (List.mem_cons_of_mem _ mw_816)) (fun _ h9 => h9) rfl dX12_chairsOn_39 ?_
        refine lv_topi (fun v_23 ev_23 => ?_)
        refine lv_if_lt (tgt := 54) hx hb dX12_chairsOn_42 (by decide) (fun c => ?_) (fun c => ?_)
        · skip
          have c_24 : v_23.toInt < 0 := (by have z := bn_lt c; have k1 : (0 : Int32).toInt = 0 := (by decide); omega)
          exact blk_54 y5_14 fp_14 _ _ _ (by have zz0_6 : (fp_14 0 6).toInt = v_18.toInt := (congrArg Int32.toInt (show fp_14 0 6 = v_18 from ev_18.symm)); omega) hI hF hP hS (lv_sub hl [0, 3] rfl)
        · skip
          have c_25 : 0 ≤ v_23.toInt := (by have z := bn_nlt c; have k1 : (0 : Int32).toInt = 0 := (by decide); omega)
          refine lv_iload hx hb dX12_chairsOn_45 (lv_at hl 3 rfl) ?_
          refine lv_aload_n hx hb dX12_chairsOn_47 rfl (lv_at hl 0 rfl) ?_
          refine sg_get (ci := 12) (v := .int v_23) (C := RX12) (T := TX12) (N := 55) hx hb hts (fun w h => List.mem_cons_of_mem _ (gx_12 w h)) hown hK hP 0 (by decide) rfl rfl 35 (by decide) (hts _ (List.mem_cons_of_mem _ mw_816)) (fun _ h9 => h9) (congrArg (fun z => some (Value.int z)) (show fp_14 0 35 = v_23 from ev_23.symm)) dX12_chairsOn_48 ?_
          refine lv_icmp_ge (tgt := 92) hx hb dX12_chairsOn_51 (by decide) (fun c => ?_) (fun c => ?_)
          · skip
            have c_26 : v_23.toInt ≤ y5_14.toInt := (by have z := bn_le c; omega)
            exact hret _ _ _ _ fp_14 L Q dX12_chairsOn_92 hP hS ⟨hI, hF, rfl, rfl⟩
          · skip
            have c_27 : y5_14.toInt < v_23.toInt := (by have z := bn_nle c; omega)
            exact blk_54 y5_14 fp_14 _ _ _ (by have zz0_6 : (fp_14 0 6).toInt = v_18.toInt := (congrArg Int32.toInt (show fp_14 0 6 = v_18 from ev_18.symm)); omega) hI hF hP hS (lv_sub hl [0, 3] rfl)
      · skip
        have c_22 : y6_14.toInt < x1.toInt := (by have z := bn_nle c; omega)
        refine lv_iload hx hb dX12_chairsOn_20 (lv_at hl 3 rfl) ?_
        refine lv_aload_n hx hb dX12_chairsOn_22 rfl (lv_at hl 0 rfl) ?_
        refine lv_iload_n hx hb dX12_chairsOn_23 rfl (lv_at hl 2 rfl) ?_
        refine lv_iload hx hb dX12_chairsOn_24 (lv_at hl 4 rfl) ?_
        refine sg_calli (va_runV (As := [.int x2, .int y6_14]) (rest := [.int y5_14]) ⟨hx, hb, hml, hown, hts⟩ (kX12_chairLoss l D ca za h hh fp_14 L Q hI x2 y6_14 (by omega) (by omega) H.size) (cwV 2 hts (gw_V (fun _ h => List.mem_cons_of_mem _ h) mw_873 mw_874 mw_875 mw_619 mw_872) rfl rfl rfl (by decide +kernel) ⟨Nat.le_of_ble_eq_true rfl, Nat.le_of_ble_eq_true rfl⟩) (sg_preV (ci := 12) (C := RX12) (T := TX12) (N := 55) hA hK hP hS hZ 0 (by decide) rfl rfl) rfl rfl hl.1 rfl (lv_room (Nat.le_of_ble_eq_true rfl)) dX12_chairsOn_26 ⟨Nat.le_refl _, Nat.le_refl _⟩) hA hS (fun r_31 f_28 L_29 Q_30 H locs hq hP hS => ?_)
        obtain ⟨⟨ef9, eL9, eQ9⟩, hq⟩ := hq
        rw [ef9, eL9, eQ9] at hP; clear ef9 eL9 eQ9
        refine lv_iadd hx hb dX12_chairsOn_29 ?_
        refine lv_topi (fun v_32 ev_32 => ?_)
        refine lv_istore (lv' := [(5, .int v_32), (0, .ref (h 0)), (2, .int x1), (3, .int x2), (6, .int y6_14)]) hx hb dX12_chairsOn_30 hl (by decide) rfl (fun ls hl => ?_)
        obtain ⟨v_33, ev_33⟩ : ∃ z : Int32, z = y6_14 + 1 := ⟨_, rfl⟩
        have q_34 : v_33.toInt = y6_14.toInt + 1 := by rw [ev_33]; exact (bn_addc y6_14 1 (by decide) (by omega) (by omega))
        refine lv_iinc (v := v_33) (lv' := [(6, .int v_33), (5, .int v_32), (0, .ref (h 0)), (2, .int x1), (3, .int x2)]) hx hb dX12_chairsOn_32 hl (k := 4) rfl (by rw [ev_33]; rfl) (by decide) rfl (fun ls hl => ?_)
        refine lv_goto (tgt := 14) hx hb dX12_chairsOn_35 (by decide) ?_
        exact ih_14 v_32 v_33 fp_14 _ _ _ (by omega) (by have zz0_6 : (fp_14 0 6).toInt = v_18.toInt := (congrArg Int32.toInt (show fp_14 0 6 = v_18 from ev_18.symm)); omega) (by omega) hI hF hP hS (lv_sub hl [2, 3, 4, 1, 0] rfl)
  have loop_116 : ∀ (n_116 : Nat) (y5_116 : Int32) (fp_116 : sg_F) (H : Heap) (locs : List Loc) (ls : Array Slot), 3 - y5_116.toInt < (n_116 : Int) → 3 ≤ (fp_116 0 6).toInt ∧ (fp_116 0 6).toInt ≤ 8 → 0 ≤ y5_116.toInt ∧ y5_116.toInt ≤ 3 → sgI loM hiM fp_116 → sgK WkX12_chairsOn_2 f fp_116 → va_P D vwCl (sgw 26 h (eM ca h) fp_116 L Q) H → va_S (sgA 26 h s.heap.size) s.heap H locs → lv_has ls 7 [(0, .ref (h 0)), (1, .int 2), (2, .int x1), (3, .int x2), (4, .int x3), (5, .int y5_116)] → W p l e ({ frames := 8, cells := 0, slots := 0, locals := 203 }) s m ([.ref (h 0), .int 2, .int x1, .int x2, .int x3] : List Value).toArray below meth cd H locs 0 0 Qz (F0 m 116 ls []) := by
    intro n_116
    induction n_116 with
    | zero => intro y5_116 fp_116 H locs ls hm_116 hy0_116 hy1_116 hI hF hP hS hl; exact absurd hm_116 (by omega)
    | succ n_116 ih_116 =>
      intro y5_116 fp_116 H locs ls hm_116 hy0_116 hy1_116 hI hF hP hS hl
      obtain ⟨v_35, ev_35⟩ : ∃ z : Int32, z = fp_116 0 6 := ⟨_, rfl⟩
      have q_36 : 0 ≤ v_35.toInt ∧ v_35.toInt ≤ 8 := by rw [ev_35]; exact hI 0 6
      have q_37 : (fp_116 0 6).toInt = v_35.toInt := by rw [ev_35]
      refine lv_iload hx hb dX12_chairsOn_116 (lv_at hl 5 rfl) ?_
      refine lv_iload hx hb dX12_chairsOn_118 (lv_at hl 4 rfl) ?_
      refine lv_icmp_ge (tgt := 166) hx hb dX12_chairsOn_120 (by decide) (fun c => ?_) (fun c => ?_)
      · skip
        have c_38 : x3.toInt ≤ y5_116.toInt := (by have z := bn_le c; omega)
        exact hret _ _ _ _ fp_116 L Q dX12_chairsOn_166 hP hS ⟨hI, hF, rfl, rfl⟩
      · skip
        have c_39 : y5_116.toInt < x3.toInt := (by have z := bn_nle c; omega)
        refine lv_iload hx hb dX12_chairsOn_123 (lv_at hl 5 rfl) ?_
        refine lv_iload_n hx hb dX12_chairsOn_125 rfl (lv_at hl 2 rfl) ?_
        refine lv_icmp_gt (tgt := 166) hx hb dX12_chairsOn_126 (by decide) (fun c => ?_) (fun c => ?_)
        · skip
          have c_40 : x1.toInt < y5_116.toInt := (by have z := bn_lt c; omega)
          exact hret _ _ _ _ fp_116 L Q dX12_chairsOn_166 hP hS ⟨hI, hF, rfl, rfl⟩
        · skip
          have c_41 : y5_116.toInt ≤ x1.toInt := (by have z := bn_nlt c; omega)
          refine lv_aload_n hx hb dX12_chairsOn_129 rfl (lv_at hl 0 rfl) ?_
          refine sg_get (ci := 12) (v := .ref (h 15)) (C := RX12) (T := TX12) (N := 55) hx hb hts (fun w h => List.mem_cons_of_mem _ (gx_12 w h)) hown hK hP 0 (by decide) rfl rfl 33 (by decide) (hts _ (List.mem_cons_of_mem _ mw_834)) (fun _ h9 => h9) rfl dX12_chairsOn_130 ?_
          refine lv_iload_n hx hb dX12_chairsOn_133 rfl (lv_at hl 1 rfl) ?_
          refine lv_iload hx hb dX12_chairsOn_134 (lv_at hl 5 rfl) ?_
          refine sg_iast hx hb hh hA hK hP hS 15 (by decide) 0 (fun _ => rfl) rfl (i := 2) (x := y5_116) (vp_in_iff.mpr (by decide)) dX12_chairsOn_136 (fun f_42 H locs ef_42 hP hS => ?_)
          have hI : sgI loM hiM f_42 := by rw [ef_42]; exact sgI.put hI 15 (Int32.toNatClampNeg 2) (show 0 ≤ (y5_116 : Int32).toInt ∧ (y5_116 : Int32).toInt ≤ 7 from by omega)
          have hF : sgK WkX12_chairsOn_2 f f_42 := sgK.put hF ef_42 (by rfl)
          refine lv_aload_n hx hb dX12_chairsOn_137 rfl (lv_at hl 0 rfl) ?_
          refine lv_iload_n hx hb dX12_chairsOn_138 rfl (lv_at hl 1 rfl) ?_
          refine lv_iconst (v := 1) hx hb dX12_chairsOn_139 (by decide) ?_
          refine lv_iadd hx hb dX12_chairsOn_140 ?_
          refine W.eq (g2 := F0 m 141 ls [.int 3, .ref (h 0)]) (by rw [show (2 + 1 : Int32) = 3 from by decide]) ?_
          refine lv_iload hx hb dX12_chairsOn_141 (lv_at hl 5 rfl) ?_
          refine lv_iload_n hx hb dX12_chairsOn_143 rfl (lv_at hl 2 rfl) ?_
          refine lv_icmp_ne (tgt := 153) hx hb dX12_chairsOn_144 (by decide) (fun c => ?_) (fun c => ?_)
          · skip
            have c_43 : y5_116.toInt ≠ x1.toInt := (by have z := bn_ne c; omega)
            refine lv_iload_n hx hb dX12_chairsOn_153 rfl (lv_at hl 2 rfl) ?_
            refine lv_iload_n hx hb dX12_chairsOn_154 rfl (lv_at hl 3 rfl) ?_
            refine lv_iload hx hb dX12_chairsOn_155 (lv_at hl 4 rfl) ?_
            have q_45 : (f_42 0 6).toInt = v_35.toInt := (congrArg Int32.toInt (show f_42 0 6 = v_35 from (by rw [ef_42, sg_up_n (by decide)]; exact ev_35.symm)))
            have q_46 : (f_42 0 6).toInt = v_35.toInt := (congrArg Int32.toInt (show f_42 0 6 = v_35 from (by rw [ef_42, sg_up_n (by decide)]; exact ev_35.symm)))
            refine sg_callv (va_runV (As := [.int 3, .int x1, .int x2, .int x3]) (rest := []) ⟨hx, hb, hml, hown, hts⟩ (kX12_chairsOn_3 l D ca za h hh f_42 L Q hI x1 x2 x3 (by omega) (by omega) (by omega) (by have k0 : (3 : Int32).toInt = 3 := (by decide); omega) H.size) (cwV 4 hts (gw_V (fun _ h => List.mem_cons_of_mem _ h) mw_860 mw_861 mw_862 mw_619 mw_859) rfl rfl rfl (by decide +kernel) ⟨Nat.le_of_ble_eq_true rfl, Nat.le_of_ble_eq_true rfl⟩) (sg_preV (ci := 12) (C := RX12) (T := TX12) (N := 55) hA hK hP hS hZ 0 (by decide) rfl rfl) rfl rfl hl.1 rfl (lv_room (Nat.le_of_ble_eq_true rfl)) dX12_chairsOn_157 ⟨Nat.le_refl _, Nat.le_refl _⟩) hA hS (fun f_47 L_48 Q_49 H locs hq hP hS => ?_)
            obtain ⟨hI, hk_f_47, eL9, eQ9⟩ := hq
            rw [eL9, eQ9] at hP; clear eL9 eQ9
            have hF : sgK WkX12_chairsOn_2 f f_47 := sgK.tr hF hk_f_47 (by decide)
            obtain ⟨v_50, ev_50⟩ : ∃ z : Int32, z = y5_116 + 1 := ⟨_, rfl⟩
            have q_51 : v_50.toInt = y5_116.toInt + 1 := by rw [ev_50]; exact (bn_addc y5_116 1 (by decide) (by omega) (by omega))
            refine lv_iinc (v := v_50) (lv' := [(5, .int v_50), (0, .ref (h 0)), (1, .int 2), (2, .int x1), (3, .int x2), (4, .int x3)]) hx hb dX12_chairsOn_160 hl (k := 5) rfl (by rw [ev_50]; rfl) (by decide) rfl (fun ls hl => ?_)
            refine lv_goto (tgt := 116) hx hb dX12_chairsOn_163 (by decide) ?_
            exact ih_116 v_50 f_47 _ _ _ (by omega) (by have zz0_6 : (f_47 0 6).toInt = v_35.toInt := (congrArg Int32.toInt (show f_47 0 6 = v_35 from ((hk_f_47 0 6 (by decide)).trans (by rw [ef_42, sg_up_n (by decide)]; exact ev_35.symm)))); omega) (by omega) hI hF hP hS (lv_sub hl [1, 2, 3, 4, 5, 0] rfl)
          · skip
            have c_44 : y5_116.toInt = x1.toInt := (by have z := Int32.toInt_inj.mpr c; omega)
            refine lv_iload_n hx hb dX12_chairsOn_147 rfl (lv_at hl 2 rfl) ?_
            refine lv_iconst (v := 1) hx hb dX12_chairsOn_148 (by decide) ?_
            refine lv_iadd hx hb dX12_chairsOn_149 ?_
            refine lv_topi (fun v_52 ev_52 => ?_)
            have q_53 : v_52.toInt = x1.toInt + 1 := by rw [ev_52]; have k1 : (1 : Int32).toInt = 1 := (by decide); exact (bn_addI (by omega) (by omega)).trans (by omega)
            refine lv_goto (tgt := 154) hx hb dX12_chairsOn_150 (by decide) ?_
            refine lv_iload_n hx hb dX12_chairsOn_154 rfl (lv_at hl 3 rfl) ?_
            refine lv_iload hx hb dX12_chairsOn_155 (lv_at hl 4 rfl) ?_
            have q_54 : (f_42 0 6).toInt = v_35.toInt := (congrArg Int32.toInt (show f_42 0 6 = v_35 from (by rw [ef_42, sg_up_n (by decide)]; exact ev_35.symm)))
            have q_55 : (f_42 0 6).toInt = v_35.toInt := (congrArg Int32.toInt (show f_42 0 6 = v_35 from (by rw [ef_42, sg_up_n (by decide)]; exact ev_35.symm)))
            refine sg_callv (va_runV (As := [.int 3, .int v_52, .int x2, .int x3]) (rest := []) ⟨hx, hb, hml, hown, hts⟩ (kX12_chairsOn_3 l D ca za h hh f_42 L Q hI v_52 x2 x3 (by omega) (by omega) (by omega) (by have k0 : (3 : Int32).toInt = 3 := (by decide); omega) H.size) (cwV 4 hts (gw_V (fun _ h => List.mem_cons_of_mem _ h) mw_860 mw_861 mw_862 mw_619 mw_859) rfl rfl rfl (by decide +kernel) ⟨Nat.le_of_ble_eq_true rfl, Nat.le_of_ble_eq_true rfl⟩) (sg_preV (ci := 12) (C := RX12) (T := TX12) (N := 55) hA hK hP hS hZ 0 (by decide) rfl rfl) rfl rfl hl.1 rfl (lv_room (Nat.le_of_ble_eq_true rfl)) dX12_chairsOn_157 ⟨Nat.le_refl _, Nat.le_refl _⟩) hA hS (fun f_56 L_57 Q_58 H locs hq hP hS => ?_)
            obtain ⟨hI, hk_f_56, eL9, eQ9⟩ := hq
            rw [eL9, eQ9] at hP; clear eL9 eQ9
            have hF : sgK WkX12_chairsOn_2 f f_56 := sgK.tr hF hk_f_56 (by decide)
            obtain ⟨v_59, ev_59⟩ : ∃ z : Int32, z = y5_116 + 1 := ⟨_, rfl⟩
            have q_60 : v_59.toInt = y5_116.toInt + 1 := by rw [ev_59]; exact (bn_addc y5_116 1 (by decide) (by omega) (by omega))
            refine lv_iinc (v := v_59) (lv' := [(5, .int v_59), (0, .ref (h 0)), (1, .int 2), (2, .int x1), (3, .int x2), (4, .int x3)]) hx hb dX12_chairsOn_160 hl (k := 5) rfl (by rw [ev_59]; rfl) (by decide) rfl (fun ls hl => ?_)
            refine lv_goto (tgt := 116) hx hb dX12_chairsOn_163 (by decide) ?_
            exact ih_116 v_59 f_56 _ _ _ (by omega) (by have zz0_6 : (f_56 0 6).toInt = v_35.toInt := (congrArg Int32.toInt (show f_56 0 6 = v_35 from ((hk_f_56 0 6 (by decide)).trans (by rw [ef_42, sg_up_n (by decide)]; exact ev_35.symm)))); omega) (by omega) hI hF hP hS (lv_sub hl [1, 2, 3, 4, 5, 0] rfl)
  refine lv_iload_n hx hb dX12_chairsOn_0 rfl (lv_at hl 1 rfl) ?_
  refine lv_aload_n hx hb dX12_chairsOn_1 rfl (lv_at hl 0 rfl) ?_
  refine sg_get (ci := 12) (v := .int v_1) (C := RX12) (T := TX12) (N := 55) hx hb hts (fun w h => List.mem_cons_of_mem _ (gx_12 w h)) hown hK hP 0 (by decide) rfl rfl 6 (by decide) (hts _ (List.mem_cons_of_mem _ mw_622)) (fun _ h9 => h9) (congrArg (fun z => some (Value.int z)) (show f 0 6 = v_1 from ev_1.symm)) dX12_chairsOn_2 ?_
  refine lv_icmp_ne (tgt := 93) hx hb dX12_chairsOn_5 (by decide) (fun c => ?_) (fun c => ?_)
  · skip
    have c_61 : 2 ≠ v_1.toInt := (by have z := bn_ne c; have k0 : (2 : Int32).toInt = 2 := (by decide); omega)
    refine lv_iload_n hx hb dX12_chairsOn_93 rfl (lv_at hl 3 rfl) ?_
    refine lv_iload_n hx hb dX12_chairsOn_94 rfl (lv_at hl 1 rfl) ?_
    refine sg_calli (va_runS (As := [.int x2, .int 2]) (rest := []) ⟨hx, hb, hml, hown, hts⟩ (kX12_isIn l D ca za h hh f L Q hI x2 2 (by omega) (by decide) H.size) (va_cwS 2 hts (gw_S (fun _ h => List.mem_cons_of_mem _ h) mw_832 mw_833 mw_619 mw_831) rfl rfl rfl (by decide +kernel) ⟨Nat.le_of_ble_eq_true rfl, Nat.le_of_ble_eq_true rfl⟩) (sg_preS hA hK hP hS hZ) rfl rfl hl.1 rfl (lv_room (Nat.le_of_ble_eq_true rfl)) dX12_chairsOn_95 ⟨Nat.le_refl _, Nat.le_refl _⟩) hA hS (fun r_66 f_63 L_64 Q_65 H locs hq hP hS => ?_)
    obtain ⟨⟨ef9, eL9, eQ9⟩, hq⟩ := hq
    rw [ef9, eL9, eQ9] at hP; clear ef9 eL9 eQ9
    refine lv_if_ne (tgt := 113) hx hb dX12_chairsOn_98 (by decide) (fun c => ?_) (fun c => ?_)
    · skip
      have c_67 : r_66.toInt ≠ 0 := (by have z := bn_ne c; have k1 : (0 : Int32).toInt = 0 := (by decide); omega)
      refine lv_iconst (v := 0) hx hb dX12_chairsOn_113 (by decide) ?_
      refine lv_istore (lv' := [(5, .int 0), (0, .ref (h 0)), (1, .int 2), (2, .int x1), (3, .int x2), (4, .int x3)]) hx hb dX12_chairsOn_114 hl (by decide) rfl (fun ls hl => ?_)
      exact loop_116 4 0 f _ _ _ (by have kc0 : (0 : Int32).toInt = 0 := (by decide); omega) (by have zz0_6 : (f 0 6).toInt = v_1.toInt := (congrArg Int32.toInt (show f 0 6 = v_1 from ev_1.symm)); omega) (by decide) hI hF hP hS (lv_sub hl [1, 2, 3, 4, 5, 0] rfl)
    · skip
      have c_68 : r_66.toInt = 0 := (by have z := Int32.toInt_inj.mpr c; have k1 : (0 : Int32).toInt = 0 := (by decide); omega)
      refine lv_aload_n hx hb dX12_chairsOn_101 rfl (lv_at hl 0 rfl) ?_
      refine lv_iload_n hx hb dX12_chairsOn_102 rfl (lv_at hl 1 rfl) ?_
      refine lv_iconst (v := 1) hx hb dX12_chairsOn_103 (by decide) ?_
      refine lv_iadd hx hb dX12_chairsOn_104 ?_
      refine W.eq (g2 := F0 m 105 ls [.int 3, .ref (h 0)]) (by rw [show (2 + 1 : Int32) = 3 from by decide]) ?_
      refine lv_iload_n hx hb dX12_chairsOn_105 rfl (lv_at hl 2 rfl) ?_
      refine lv_iload_n hx hb dX12_chairsOn_106 rfl (lv_at hl 3 rfl) ?_
      refine lv_iload hx hb dX12_chairsOn_107 (lv_at hl 4 rfl) ?_
      have q_69 : (f 0 6).toInt = v_1.toInt := (congrArg Int32.toInt (show f 0 6 = v_1 from ev_1.symm))
      have q_70 : (f 0 6).toInt = v_1.toInt := (congrArg Int32.toInt (show f 0 6 = v_1 from ev_1.symm))
      refine sg_callv (va_runV (As := [.int 3, .int x1, .int x2, .int x3]) (rest := []) ⟨hx, hb, hml, hown, hts⟩ (kX12_chairsOn_3 l D ca za h hh f L Q hI x1 x2 x3 (by omega) (by omega) (by omega) (by have k0 : (3 : Int32).toInt = 3 := (by decide); omega) H.size) (cwV 4 hts (gw_V (fun _ h => List.mem_cons_of_mem _ h) mw_860 mw_861 mw_862 mw_619 mw_859) rfl rfl rfl (by decide +kernel) ⟨Nat.le_of_ble_eq_true rfl, Nat.le_of_ble_eq_true rfl⟩) (sg_preV (ci := 12) (C := RX12) (T := TX12) (N := 55) hA hK hP hS hZ 0 (by decide) rfl rfl) rfl rfl hl.1 rfl (lv_room (Nat.le_of_ble_eq_true rfl)) dX12_chairsOn_109 ⟨Nat.le_refl _, Nat.le_refl _⟩) hA hS (fun f_71 L_72 Q_73 H locs hq hP hS => ?_)
      obtain ⟨hI, hk_f_71, eL9, eQ9⟩ := hq
      rw [eL9, eQ9] at hP; clear eL9 eQ9
      have hF : sgK WkX12_chairsOn_2 f f_71 := sgK.tr hF hk_f_71 (by decide)
      exact hret _ _ _ _ f_71 L Q dX12_chairsOn_112 hP hS ⟨hI, hF, rfl, rfl⟩
  · skip
    have c_62 : 2 = v_1.toInt := (by have z := Int32.toInt_inj.mpr c; have k0 : (2 : Int32).toInt = 2 := (by decide); omega)
    refine lv_iconst (v := 0) hx hb dX12_chairsOn_8 (by decide) ?_
    refine lv_istore (lv' := [(5, .int 0), (0, .ref (h 0)), (1, .int 2), (2, .int x1), (3, .int x2), (4, .int x3)]) hx hb dX12_chairsOn_9 hl (by decide) rfl (fun ls hl => ?_)
    refine lv_iconst (v := 0) hx hb dX12_chairsOn_11 (by decide) ?_
    refine lv_istore (lv' := [(6, .int 0), (5, .int 0), (0, .ref (h 0)), (1, .int 2), (2, .int x1), (3, .int x2), (4, .int x3)]) hx hb dX12_chairsOn_12 hl (by decide) rfl (fun ls hl => ?_)
    exact loop_14 3 0 0 f _ _ _ (by have kc0 : (0 : Int32).toInt = 0 := (by decide); have kc1 : (0 : Int32).toInt = 0 := (by decide); omega) (by have zz0_6 : (f 0 6).toInt = v_1.toInt := (congrArg Int32.toInt (show f 0 6 = v_1 from ev_1.symm)); omega) (by decide) hI hF hP hS (lv_sub hl [2, 4, 5, 1, 0] rfl)

abbrev WkX12_chairsOn_1 : List (Nat × Nat × Option Nat) := [(0, 0, some 35), (15, 15, none), (16, 16, none)]
set_option maxHeartbeats 4000000 in
set_option maxRecDepth 100000 in
theorem kX12_chairsOn_1 (l : Launch) (D : va_G) (ca : Nat → ClassId) (za h : Nat → Nat) (hh : sgH 26 h) (f : sg_F) (L : sg_L) (Q : sg_Q) (hI : sgI loM hiM f) (x1 : Int32) (x2 : Int32) (x3 : Int32) (b1 : 0 ≤ x1.toInt ∧ x1.toInt ≤ 1) (b2 : 0 ≤ x2.toInt ∧ x2.toInt ≤ 255) (b3 : 0 ≤ x3.toInt ∧ x3.toInt ≤ 9) (p0 : 1 ≤ (f 0 6).toInt ∧ (f 0 6).toInt ≤ 8) (sz : Nat) : Met l yX12_chairsOn gwX12_chairsOn { frames := 9, cells := 0, slots := 0, locals := 229 } (sgP D vwCl (tyX ca) 26 h (eM ca h) zcM za f L Q sz [.ref (h 0), .int 1, .int x1, .int x2, .int x3]) (sgQv D vwCl 26 h (eM ca h) sz (fun f1 L1 Q1 => ((sgI loM hiM f1 ∧ sgK WkX12_chairsOn_1 f f1 ∧ L1 = L ∧ Q1 = Q)))) 0 0 (sgA 26 h sz) := by
  refine sg_ofWv (cc := cX12_chairsOn) (maxL := 7) RX12 (by decide) rfl rfl (Nat.le_of_ble_eq_true rfl) ?_
  intro p e s m below meth cd Qz ls hx hb hml hown hts hK hZ hP hS hl hret
  have hA := sgY.self (n := 26) (h := h) (sz := s.heap.size)
  have hl : lv_has ls 7 [(0, .ref (h 0)), (1, .int 1), (2, .int x1), (3, .int x2), (4, .int x3)] := hl
  obtain ⟨H, hH⟩ : ∃ z : Heap, z = s.heap := ⟨_, rfl⟩
  obtain ⟨locs, hlo⟩ : ∃ z : List Loc, z = [] := ⟨_, rfl⟩
  have hP : va_P D vwCl (sgw 26 h (eM ca h) f L Q) H := by rw [hH]; exact hP
  have hS : va_S (sgA 26 h s.heap.size) s.heap H locs := by rw [hH, hlo]; exact hS
  suffices hgo : W p l e ({ frames := 9, cells := 0, slots := 0, locals := 229 }) s m ([.ref (h 0), .int 1, .int x1, .int x2, .int x3] : List Value).toArray below meth cd H locs 0 0 Qz (F0 m 0 ls []) by rw [hH, hlo] at hgo; exact hgo
  clear hH hlo
  obtain ⟨v_1, ev_1⟩ : ∃ z : Int32, z = f 0 6 := ⟨_, rfl⟩
  have q_2 : 0 ≤ v_1.toInt ∧ v_1.toInt ≤ 8 := by rw [ev_1]; exact hI 0 6
  have o_3 : (f 0 6).toInt = v_1.toInt := (congrArg Int32.toInt (show f 0 6 = v_1 from ev_1.symm))
  have hF : sgK WkX12_chairsOn_1 f f := sgK.rf
  have loop_63 : ∀ (n_63 : Nat) (y6_63 : Int32) (fp_63 : sg_F) (H : Heap) (locs : List Loc) (ls : Array Slot), 1 - y6_63.toInt < (n_63 : Int) → 1 ≤ (fp_63 0 6).toInt ∧ (fp_63 0 6).toInt ≤ 1 → 0 ≤ y6_63.toInt ∧ y6_63.toInt ≤ 1 → sgI loM hiM fp_63 → sgK WkX12_chairsOn_1 f fp_63 → va_P D vwCl (sgw 26 h (eM ca h) fp_63 L Q) H → va_S (sgA 26 h s.heap.size) s.heap H locs → lv_has ls 7 [(0, .ref (h 0)), (6, .int y6_63)] → W p l e ({ frames := 9, cells := 0, slots := 0, locals := 229 }) s m ([.ref (h 0), .int 1, .int x1, .int x2, .int x3] : List Value).toArray below meth cd H locs 0 0 Qz (F0 m 63 ls []) := by
    intro n_63
    induction n_63 with
    | zero => intro y6_63 fp_63 H locs ls hm_63 hy0_63 hy1_63 hI hF hP hS hl; exact absurd hm_63 (by omega)
    | succ n_63 ih_63 =>
      intro y6_63 fp_63 H locs ls hm_63 hy0_63 hy1_63 hI hF hP hS hl
      obtain ⟨v_4, ev_4⟩ : ∃ z : Int32, z = fp_63 0 6 := ⟨_, rfl⟩
      have q_5 : 0 ≤ v_4.toInt ∧ v_4.toInt ≤ 8 := by rw [ev_4]; exact hI 0 6
      have q_6 : (fp_63 0 6).toInt = v_4.toInt := by rw [ev_4]
      refine lv_iload hx hb dX12_chairsOn_63 (lv_at hl 1 rfl) ?_
      refine lv_aload_n hx hb dX12_chairsOn_65 rfl (lv_at hl 0 rfl) ?_
      refine sg_get (ci := 12) (v := .int v_4) (C := RX12) (T := TX12) (N := 55) hx hb hts (fun w h => List.mem_cons_of_mem _ (gx_12 w h)) hown hK hP 0 (by decide) rfl rfl 6 (by decide) (hts _ (List.mem_cons_of_mem _ mw_622)) (fun _ h9 => h9) (congrArg (fun z => some (Value.int z)) (show fp_63 0 6 = v_4 from ev_4.symm)) dX12_chairsOn_66 ?_
      refine lv_icmp_ge (tgt := 92) hx hb dX12_chairsOn_69 (by decide) (fun c => ?_) (fun c => ?_)
      · skip
        have c_7 : v_4.toInt ≤ y6_63.toInt := (by have z := bn_le c; omega)
        exact hret _ _ _ _ fp_63 L Q dX12_chairsOn_92 hP hS ⟨hI, hF, rfl, rfl⟩
      · skip
        have c_8 : y6_63.toInt < v_4.toInt := (by have z := bn_nle c; omega)
        refine lv_aload_n hx hb dX12_chairsOn_72 rfl (lv_at hl 0 rfl) ?_
        refine sg_get (ci := 12) (v := .ref (h 16)) (C := RX12) (T := TX12) (N := 55) hx hb hts (fun w h => List.mem_cons_of_mem _ (gx_12 w h)) hown hK hP 0 (by decide) rfl rfl 34 (by decide) (hts _ (List.mem_cons_of_mem _ mw_863)) (fun _ h9 => h9) rfl dX12_chairsOn_73 ?_
        refine lv_iload hx hb dX12_chairsOn_76 (lv_at hl 1 rfl) ?_
        refine lv_aload_n hx hb dX12_chairsOn_78 rfl (lv_at hl 0 rfl) ?_
        refine sg_get (ci := 12) (v := .ref (h 15)) (C := RX12) (T := TX12) (N := 55) hx hb hts (fun w h => List.mem_cons_of_mem _ (gx_12 w h)) hown hK hP 0 (by decide) rfl rfl 33 (by decide) (hts _ (List.mem_cons_of_mem _ mw_834)) (fun _ h9 => h9) rfl dX12_chairsOn_79 ?_
        refine lv_iload hx hb dX12_chairsOn_82 (lv_at hl 1 rfl) ?_
        refine sg_iald hx hb hK hP 15 (by decide) 0 rfl rfl (i := y6_63) (vp_in_iff.mpr ⟨by omega, by omega⟩) dX12_chairsOn_84 ?_
        refine lv_topi (fun v_9 ev_9 => ?_)
        have q_10 : 0 ≤ v_9.toInt ∧ v_9.toInt ≤ 7 := by rw [ev_9]; exact hI 15 _
        refine sg_iast hx hb hh hA hK hP hS 16 (by decide) 0 (fun _ => rfl) rfl (i := y6_63) (x := v_9) (vp_in_iff.mpr ⟨by omega, by omega⟩) dX12_chairsOn_85 (fun f_11 H locs ef_11 hP hS => ?_)
        have hI : sgI loM hiM f_11 := by rw [ef_11]; exact sgI.put hI 16 y6_63.toNatClampNeg (show 0 ≤ (v_9 : Int32).toInt ∧ (v_9 : Int32).toInt ≤ 7 from by omega)
        have hF : sgK WkX12_chairsOn_1 f f_11 := sgK.put hF ef_11 (by rfl)
        obtain ⟨v_12, ev_12⟩ : ∃ z : Int32, z = y6_63 + 1 := ⟨_, rfl⟩
        have q_13 : v_12.toInt = y6_63.toInt + 1 := by rw [ev_12]; exact (bn_addc y6_63 1 (by decide) (by omega) (by omega))
        refine lv_iinc (v := v_12) (lv' := [(6, .int v_12), (0, .ref (h 0))]) hx hb dX12_chairsOn_86 hl (k := 1) rfl (by rw [ev_12]; rfl) (by decide) rfl (fun ls hl => ?_)
        refine lv_goto (tgt := 63) hx hb dX12_chairsOn_89 (by decide) ?_
        exact ih_63 v_12 f_11 _ _ _ (by omega) (by have zz0_6 : (f_11 0 6).toInt = v_4.toInt := (congrArg Int32.toInt (show f_11 0 6 = v_4 from (by rw [ef_11, sg_up_n (by decide)]; exact ev_4.symm))); omega) (by omega) hI hF hP hS (lv_sub hl [1, 0] rfl)
  have blk_54 : ∀ (y5_54 : Int32) (fp_54 : sg_F) (H : Heap) (locs : List Loc) (ls : Array Slot), 1 ≤ (fp_54 0 6).toInt ∧ (fp_54 0 6).toInt ≤ 1 → sgI loM hiM fp_54 → sgK WkX12_chairsOn_1 f fp_54 → va_P D vwCl (sgw 26 h (eM ca h) fp_54 L Q) H → va_S (sgA 26 h s.heap.size) s.heap H locs → lv_has ls 7 [(0, .ref (h 0)), (5, .int y5_54)] → W p l e ({ frames := 9, cells := 0, slots := 0, locals := 229 }) s m ([.ref (h 0), .int 1, .int x1, .int x2, .int x3] : List Value).toArray below meth cd H locs 0 0 Qz (F0 m 54 ls []) := by
    intro y5_54 fp_54 H locs ls hy0_54 hI hF hP hS hl
    obtain ⟨v_14, ev_14⟩ : ∃ z : Int32, z = fp_54 0 6 := ⟨_, rfl⟩
    have q_15 : 0 ≤ v_14.toInt ∧ v_14.toInt ≤ 8 := by rw [ev_14]; exact hI 0 6
    have q_16 : (fp_54 0 6).toInt = v_14.toInt := by rw [ev_14]
    refine lv_aload_n hx hb dX12_chairsOn_54 rfl (lv_at hl 0 rfl) ?_
    refine lv_iload hx hb dX12_chairsOn_55 (lv_at hl 1 rfl) ?_
    refine sg_put (ci := 12) (x := y5_54) (ty := .int) (C := RX12) (T := TX12) (N := 55) hx hb hts (fun w h => List.mem_cons_of_mem _ (gx_12 w h)) tyX12 tyX12_ok nmX12 hown hh hA hK hP hS 0 (by decide) rfl rfl 35 (by decide) (hts _ (List.mem_cons_of_mem _ mw_816)) (fun _ h9 => h9) rfl rfl (by decide +kernel) rfl rfl (Nat.le_of_ble_eq_true rfl) dX12_chairsOn_57 (fun f_17 H locs ef_17 hP hS => ?_)
    have hI : sgI loM hiM f_17 := by rw [ef_17]; exact sgI.put hI 0 35 (bn_top _)
    have hF : sgK WkX12_chairsOn_1 f f_17 := sgK.put hF ef_17 (by rfl)
    refine lv_iconst (v := 0) hx hb dX12_chairsOn_60 (by decide) ?_
    refine lv_istore (lv' := [(6, .int 0), (0, .ref (h 0)), (5, .int y5_54)]) hx hb dX12_chairsOn_61 hl (by decide) rfl (fun ls hl => ?_)
    exact loop_63 2 0 f_17 _ _ _ (by have kc0 : (0 : Int32).toInt = 0 := (by decide); omega) (by have zz0_6 : (f_17 0 6).toInt = v_14.toInt := (congrArg Int32.toInt (show f_17 0 6 = v_14 from (by rw [ef_17, sg_up_s, sgu_n (by decide)]; exact ev_14.symm))); omega) (by decide) hI hF hP hS (lv_sub hl [1, 0] rfl)
  have loop_14 : ∀ (n_14 : Nat) (y5_14 : Int32) (y6_14 : Int32) (fp_14 : sg_F) (H : Heap) (locs : List Loc) (ls : Array Slot), 1 - y6_14.toInt < (n_14 : Int) → 1 ≤ (fp_14 0 6).toInt ∧ (fp_14 0 6).toInt ≤ 1 → 0 ≤ y6_14.toInt ∧ y6_14.toInt ≤ 1 → sgI loM hiM fp_14 → sgK WkX12_chairsOn_1 f fp_14 → va_P D vwCl (sgw 26 h (eM ca h) fp_14 L Q) H → va_S (sgA 26 h s.heap.size) s.heap H locs → lv_has ls 7 [(0, .ref (h 0)), (2, .int x1), (3, .int x2), (5, .int y5_14), (6, .int y6_14)] → W p l e ({ frames := 9, cells := 0, slots := 0, locals := 229 }) s m ([.ref (h 0), .int 1, .int x1, .int x2, .int x3] : List Value).toArray below meth cd H locs 0 0 Qz (F0 m 14 ls []) := by
    intro n_14
    induction n_14 with
    | zero => intro y5_14 y6_14 fp_14 H locs ls hm_14 hy0_14 hy1_14 hI hF hP hS hl; exact absurd hm_14 (by omega)
    | succ n_14 ih_14 =>
      intro y5_14 y6_14 fp_14 H locs ls hm_14 hy0_14 hy1_14 hI hF hP hS hl
      obtain ⟨v_18, ev_18⟩ : ∃ z : Int32, z = fp_14 0 6 := ⟨_, rfl⟩
      have q_19 : 0 ≤ v_18.toInt ∧ v_18.toInt ≤ 8 := by rw [ev_18]; exact hI 0 6
      have q_20 : (fp_14 0 6).toInt = v_18.toInt := by rw [ev_18]
      refine lv_iload hx hb dX12_chairsOn_14 (lv_at hl 4 rfl) ?_
      refine lv_iload_n hx hb dX12_chairsOn_16 rfl (lv_at hl 1 rfl) ?_
      refine lv_icmp_ge (tgt := 38) hx hb dX12_chairsOn_17 (by decide) (fun c => ?_) (fun c => ?_)
      · skip
        have c_21 : x1.toInt ≤ y6_14.toInt := (by have z := bn_le c; omega)
        refine lv_aload_n hx hb dX12_chairsOn_38 rfl (lv_at hl 0 rfl) ?_
        refine sg_get (ci := 12) (v := .int (fp_14 0 35)) (C := RX12) (T := TX12) (N := 55) hx hb hts (fun w h => List.mem_cons_of_mem _ (gx_12 w h)) hown hK hP 0 (by decide) rfl rfl 35 (by decide) (hts _ (List.mem_cons_of_mem _ mw_816)) (fun _ h9 => h9) rfl dX12_chairsOn_39 ?_
        refine lv_topi (fun v_23 ev_23 => ?_)
        refine lv_if_lt (tgt := 54) hx hb dX12_chairsOn_42 (by decide) (fun c => ?_) (fun c => ?_)
        · skip
          have c_24 : v_23.toInt < 0 := (by have z := bn_lt c; have k1 : (0 : Int32).toInt = 0 := (by decide); omega)
          exact blk_54 y5_14 fp_14 _ _ _ (by have zz0_6 : (fp_14 0 6).toInt = v_18.toInt := (congrArg Int32.toInt (show fp_14 0 6 = v_18 from ev_18.symm)); omega) hI hF hP hS (lv_sub hl [0, 3] rfl)
        · skip
          have c_25 : 0 ≤ v_23.toInt := (by have z := bn_nlt c; have k1 : (0 : Int32).toInt = 0 := (by decide); omega)
          refine lv_iload hx hb dX12_chairsOn_45 (lv_at hl 3 rfl) ?_
          refine lv_aload_n hx hb dX12_chairsOn_47 rfl (lv_at hl 0 rfl) ?_
          refine sg_get (ci := 12) (v := .int v_23) (C := RX12) (T := TX12) (N := 55) hx hb hts (fun w h => List.mem_cons_of_mem _ (gx_12 w h)) hown hK hP 0 (by decide) rfl rfl 35 (by decide) (hts _ (List.mem_cons_of_mem _ mw_816)) (fun _ h9 => h9) (congrArg (fun z => some (Value.int z)) (show fp_14 0 35 = v_23 from ev_23.symm)) dX12_chairsOn_48 ?_
          refine lv_icmp_ge (tgt := 92) hx hb dX12_chairsOn_51 (by decide) (fun c => ?_) (fun c => ?_)
          · skip
            have c_26 : v_23.toInt ≤ y5_14.toInt := (by have z := bn_le c; omega)
            exact hret _ _ _ _ fp_14 L Q dX12_chairsOn_92 hP hS ⟨hI, hF, rfl, rfl⟩
          · skip
            have c_27 : y5_14.toInt < v_23.toInt := (by have z := bn_nle c; omega)
            exact blk_54 y5_14 fp_14 _ _ _ (by have zz0_6 : (fp_14 0 6).toInt = v_18.toInt := (congrArg Int32.toInt (show fp_14 0 6 = v_18 from ev_18.symm)); omega) hI hF hP hS (lv_sub hl [0, 3] rfl)
      · skip
        have c_22 : y6_14.toInt < x1.toInt := (by have z := bn_nle c; omega)
        refine lv_iload hx hb dX12_chairsOn_20 (lv_at hl 3 rfl) ?_
        refine lv_aload_n hx hb dX12_chairsOn_22 rfl (lv_at hl 0 rfl) ?_
        refine lv_iload_n hx hb dX12_chairsOn_23 rfl (lv_at hl 2 rfl) ?_
        refine lv_iload hx hb dX12_chairsOn_24 (lv_at hl 4 rfl) ?_
        refine sg_calli (va_runV (As := [.int x2, .int y6_14]) (rest := [.int y5_14]) ⟨hx, hb, hml, hown, hts⟩ (kX12_chairLoss l D ca za h hh fp_14 L Q hI x2 y6_14 (by omega) (by omega) H.size) (cwV 2 hts (gw_V (fun _ h => List.mem_cons_of_mem _ h) mw_873 mw_874 mw_875 mw_619 mw_872) rfl rfl rfl (by decide +kernel) ⟨Nat.le_of_ble_eq_true rfl, Nat.le_of_ble_eq_true rfl⟩) (sg_preV (ci := 12) (C := RX12) (T := TX12) (N := 55) hA hK hP hS hZ 0 (by decide) rfl rfl) rfl rfl hl.1 rfl (lv_room (Nat.le_of_ble_eq_true rfl)) dX12_chairsOn_26 ⟨Nat.le_refl _, Nat.le_refl _⟩) hA hS (fun r_31 f_28 L_29 Q_30 H locs hq hP hS => ?_)
        obtain ⟨⟨ef9, eL9, eQ9⟩, hq⟩ := hq
        rw [ef9, eL9, eQ9] at hP; clear ef9 eL9 eQ9
        refine lv_iadd hx hb dX12_chairsOn_29 ?_
        refine lv_topi (fun v_32 ev_32 => ?_)
        refine lv_istore (lv' := [(5, .int v_32), (0, .ref (h 0)), (2, .int x1), (3, .int x2), (6, .int y6_14)]) hx hb dX12_chairsOn_30 hl (by decide) rfl (fun ls hl => ?_)
        obtain ⟨v_33, ev_33⟩ : ∃ z : Int32, z = y6_14 + 1 := ⟨_, rfl⟩
        have q_34 : v_33.toInt = y6_14.toInt + 1 := by rw [ev_33]; exact (bn_addc y6_14 1 (by decide) (by omega) (by omega))
        refine lv_iinc (v := v_33) (lv' := [(6, .int v_33), (5, .int v_32), (0, .ref (h 0)), (2, .int x1), (3, .int x2)]) hx hb dX12_chairsOn_32 hl (k := 4) rfl (by rw [ev_33]; rfl) (by decide) rfl (fun ls hl => ?_)
        refine lv_goto (tgt := 14) hx hb dX12_chairsOn_35 (by decide) ?_
        exact ih_14 v_32 v_33 fp_14 _ _ _ (by omega) (by have zz0_6 : (fp_14 0 6).toInt = v_18.toInt := (congrArg Int32.toInt (show fp_14 0 6 = v_18 from ev_18.symm)); omega) (by omega) hI hF hP hS (lv_sub hl [2, 3, 4, 1, 0] rfl)
  have loop_116 : ∀ (n_116 : Nat) (y5_116 : Int32) (fp_116 : sg_F) (H : Heap) (locs : List Loc) (ls : Array Slot), 2 - y5_116.toInt < (n_116 : Int) → 2 ≤ (fp_116 0 6).toInt ∧ (fp_116 0 6).toInt ≤ 8 → 0 ≤ y5_116.toInt ∧ y5_116.toInt ≤ 2 → sgI loM hiM fp_116 → sgK WkX12_chairsOn_1 f fp_116 → va_P D vwCl (sgw 26 h (eM ca h) fp_116 L Q) H → va_S (sgA 26 h s.heap.size) s.heap H locs → lv_has ls 7 [(0, .ref (h 0)), (1, .int 1), (2, .int x1), (3, .int x2), (4, .int x3), (5, .int y5_116)] → W p l e ({ frames := 9, cells := 0, slots := 0, locals := 229 }) s m ([.ref (h 0), .int 1, .int x1, .int x2, .int x3] : List Value).toArray below meth cd H locs 0 0 Qz (F0 m 116 ls []) := by
    intro n_116
    induction n_116 with
    | zero => intro y5_116 fp_116 H locs ls hm_116 hy0_116 hy1_116 hI hF hP hS hl; exact absurd hm_116 (by omega)
    | succ n_116 ih_116 =>
      intro y5_116 fp_116 H locs ls hm_116 hy0_116 hy1_116 hI hF hP hS hl
      obtain ⟨v_35, ev_35⟩ : ∃ z : Int32, z = fp_116 0 6 := ⟨_, rfl⟩
      have q_36 : 0 ≤ v_35.toInt ∧ v_35.toInt ≤ 8 := by rw [ev_35]; exact hI 0 6
      have q_37 : (fp_116 0 6).toInt = v_35.toInt := by rw [ev_35]
      refine lv_iload hx hb dX12_chairsOn_116 (lv_at hl 5 rfl) ?_
      refine lv_iload hx hb dX12_chairsOn_118 (lv_at hl 4 rfl) ?_
      refine lv_icmp_ge (tgt := 166) hx hb dX12_chairsOn_120 (by decide) (fun c => ?_) (fun c => ?_)
      · skip
        have c_38 : x3.toInt ≤ y5_116.toInt := (by have z := bn_le c; omega)
        exact hret _ _ _ _ fp_116 L Q dX12_chairsOn_166 hP hS ⟨hI, hF, rfl, rfl⟩
      · skip
        have c_39 : y5_116.toInt < x3.toInt := (by have z := bn_nle c; omega)
        refine lv_iload hx hb dX12_chairsOn_123 (lv_at hl 5 rfl) ?_
        refine lv_iload_n hx hb dX12_chairsOn_125 rfl (lv_at hl 2 rfl) ?_
        refine lv_icmp_gt (tgt := 166) hx hb dX12_chairsOn_126 (by decide) (fun c => ?_) (fun c => ?_)
        · skip
          have c_40 : x1.toInt < y5_116.toInt := (by have z := bn_lt c; omega)
          exact hret _ _ _ _ fp_116 L Q dX12_chairsOn_166 hP hS ⟨hI, hF, rfl, rfl⟩
        · skip
          have c_41 : y5_116.toInt ≤ x1.toInt := (by have z := bn_nlt c; omega)
          refine lv_aload_n hx hb dX12_chairsOn_129 rfl (lv_at hl 0 rfl) ?_
          refine sg_get (ci := 12) (v := .ref (h 15)) (C := RX12) (T := TX12) (N := 55) hx hb hts (fun w h => List.mem_cons_of_mem _ (gx_12 w h)) hown hK hP 0 (by decide) rfl rfl 33 (by decide) (hts _ (List.mem_cons_of_mem _ mw_834)) (fun _ h9 => h9) rfl dX12_chairsOn_130 ?_
          refine lv_iload_n hx hb dX12_chairsOn_133 rfl (lv_at hl 1 rfl) ?_
          refine lv_iload hx hb dX12_chairsOn_134 (lv_at hl 5 rfl) ?_
          refine sg_iast hx hb hh hA hK hP hS 15 (by decide) 0 (fun _ => rfl) rfl (i := 1) (x := y5_116) (vp_in_iff.mpr (by decide)) dX12_chairsOn_136 (fun f_42 H locs ef_42 hP hS => ?_)
          have hI : sgI loM hiM f_42 := by rw [ef_42]; exact sgI.put hI 15 (Int32.toNatClampNeg 1) (show 0 ≤ (y5_116 : Int32).toInt ∧ (y5_116 : Int32).toInt ≤ 7 from by omega)
          have hF : sgK WkX12_chairsOn_1 f f_42 := sgK.put hF ef_42 (by rfl)
          refine lv_aload_n hx hb dX12_chairsOn_137 rfl (lv_at hl 0 rfl) ?_
          refine lv_iload_n hx hb dX12_chairsOn_138 rfl (lv_at hl 1 rfl) ?_
          refine lv_iconst (v := 1) hx hb dX12_chairsOn_139 (by decide) ?_
          refine lv_iadd hx hb dX12_chairsOn_140 ?_
          refine W.eq (g2 := F0 m 141 ls [.int 2, .ref (h 0)]) (by rw [show (1 + 1 : Int32) = 2 from by decide]) ?_
          refine lv_iload hx hb dX12_chairsOn_141 (lv_at hl 5 rfl) ?_
          refine lv_iload_n hx hb dX12_chairsOn_143 rfl (lv_at hl 2 rfl) ?_
          refine lv_icmp_ne (tgt := 153) hx hb dX12_chairsOn_144 (by decide) (fun c => ?_) (fun c => ?_)
          · skip
            have c_43 : y5_116.toInt ≠ x1.toInt := (by have z := bn_ne c; omega)
            refine lv_iload_n hx hb dX12_chairsOn_153 rfl (lv_at hl 2 rfl) ?_
            refine lv_iload_n hx hb dX12_chairsOn_154 rfl (lv_at hl 3 rfl) ?_
            refine lv_iload hx hb dX12_chairsOn_155 (lv_at hl 4 rfl) ?_
            have q_45 : (f_42 0 6).toInt = v_35.toInt := (congrArg Int32.toInt (show f_42 0 6 = v_35 from (by rw [ef_42, sg_up_n (by decide)]; exact ev_35.symm)))
            have q_46 : (f_42 0 6).toInt = v_35.toInt := (congrArg Int32.toInt (show f_42 0 6 = v_35 from (by rw [ef_42, sg_up_n (by decide)]; exact ev_35.symm)))
            refine sg_callv (va_runV (As := [.int 2, .int x1, .int x2, .int x3]) (rest := []) ⟨hx, hb, hml, hown, hts⟩ (kX12_chairsOn_2 l D ca za h hh f_42 L Q hI x1 x2 x3 (by omega) (by omega) (by omega) (by have k0 : (2 : Int32).toInt = 2 := (by decide); omega) H.size) (cwV 4 hts (gw_V (fun _ h => List.mem_cons_of_mem _ h) mw_860 mw_861 mw_862 mw_619 mw_859) rfl rfl rfl (by decide +kernel) ⟨Nat.le_of_ble_eq_true rfl, Nat.le_of_ble_eq_true rfl⟩) (sg_preV (ci := 12) (C := RX12) (T := TX12) (N := 55) hA hK hP hS hZ 0 (by decide) rfl rfl) rfl rfl hl.1 rfl (lv_room (Nat.le_of_ble_eq_true rfl)) dX12_chairsOn_157 ⟨Nat.le_refl _, Nat.le_refl _⟩) hA hS (fun f_47 L_48 Q_49 H locs hq hP hS => ?_)
            obtain ⟨hI, hk_f_47, eL9, eQ9⟩ := hq
            rw [eL9, eQ9] at hP; clear eL9 eQ9
            have hF : sgK WkX12_chairsOn_1 f f_47 := sgK.tr hF hk_f_47 (by decide)
            obtain ⟨v_50, ev_50⟩ : ∃ z : Int32, z = y5_116 + 1 := ⟨_, rfl⟩
            have q_51 : v_50.toInt = y5_116.toInt + 1 := by rw [ev_50]; exact (bn_addc y5_116 1 (by decide) (by omega) (by omega))
            refine lv_iinc (v := v_50) (lv' := [(5, .int v_50), (0, .ref (h 0)), (1, .int 1), (2, .int x1), (3, .int x2), (4, .int x3)]) hx hb dX12_chairsOn_160 hl (k := 5) rfl (by rw [ev_50]; rfl) (by decide) rfl (fun ls hl => ?_)
            refine lv_goto (tgt := 116) hx hb dX12_chairsOn_163 (by decide) ?_
            exact ih_116 v_50 f_47 _ _ _ (by omega) (by have zz0_6 : (f_47 0 6).toInt = v_35.toInt := (congrArg Int32.toInt (show f_47 0 6 = v_35 from ((hk_f_47 0 6 (by decide)).trans (by rw [ef_42, sg_up_n (by decide)]; exact ev_35.symm)))); omega) (by omega) hI hF hP hS (lv_sub hl [1, 2, 3, 4, 5, 0] rfl)
          · skip
            have c_44 : y5_116.toInt = x1.toInt := (by have z := Int32.toInt_inj.mpr c; omega)
            refine lv_iload_n hx hb dX12_chairsOn_147 rfl (lv_at hl 2 rfl) ?_
            refine lv_iconst (v := 1) hx hb dX12_chairsOn_148 (by decide) ?_
            refine lv_iadd hx hb dX12_chairsOn_149 ?_
            refine lv_topi (fun v_52 ev_52 => ?_)
            have q_53 : v_52.toInt = x1.toInt + 1 := by rw [ev_52]; have k1 : (1 : Int32).toInt = 1 := (by decide); exact (bn_addI (by omega) (by omega)).trans (by omega)
            refine lv_goto (tgt := 154) hx hb dX12_chairsOn_150 (by decide) ?_
            refine lv_iload_n hx hb dX12_chairsOn_154 rfl (lv_at hl 3 rfl) ?_
            refine lv_iload hx hb dX12_chairsOn_155 (lv_at hl 4 rfl) ?_
            have q_54 : (f_42 0 6).toInt = v_35.toInt := (congrArg Int32.toInt (show f_42 0 6 = v_35 from (by rw [ef_42, sg_up_n (by decide)]; exact ev_35.symm)))
            have q_55 : (f_42 0 6).toInt = v_35.toInt := (congrArg Int32.toInt (show f_42 0 6 = v_35 from (by rw [ef_42, sg_up_n (by decide)]; exact ev_35.symm)))
            refine sg_callv (va_runV (As := [.int 2, .int v_52, .int x2, .int x3]) (rest := []) ⟨hx, hb, hml, hown, hts⟩ (kX12_chairsOn_2 l D ca za h hh f_42 L Q hI v_52 x2 x3 (by omega) (by omega) (by omega) (by have k0 : (2 : Int32).toInt = 2 := (by decide); omega) H.size) (cwV 4 hts (gw_V (fun _ h => List.mem_cons_of_mem _ h) mw_860 mw_861 mw_862 mw_619 mw_859) rfl rfl rfl (by decide +kernel) ⟨Nat.le_of_ble_eq_true rfl, Nat.le_of_ble_eq_true rfl⟩) (sg_preV (ci := 12) (C := RX12) (T := TX12) (N := 55) hA hK hP hS hZ 0 (by decide) rfl rfl) rfl rfl hl.1 rfl (lv_room (Nat.le_of_ble_eq_true rfl)) dX12_chairsOn_157 ⟨Nat.le_refl _, Nat.le_refl _⟩) hA hS (fun f_56 L_57 Q_58 H locs hq hP hS => ?_)
            obtain ⟨hI, hk_f_56, eL9, eQ9⟩ := hq
            rw [eL9, eQ9] at hP; clear eL9 eQ9
            have hF : sgK WkX12_chairsOn_1 f f_56 := sgK.tr hF hk_f_56 (by decide)
            obtain ⟨v_59, ev_59⟩ : ∃ z : Int32, z = y5_116 + 1 := ⟨_, rfl⟩
            have q_60 : v_59.toInt = y5_116.toInt + 1 := by rw [ev_59]; exact (bn_addc y5_116 1 (by decide) (by omega) (by omega))
            refine lv_iinc (v := v_59) (lv' := [(5, .int v_59), (0, .ref (h 0)), (1, .int 1), (2, .int x1), (3, .int x2), (4, .int x3)]) hx hb dX12_chairsOn_160 hl (k := 5) rfl (by rw [ev_59]; rfl) (by decide) rfl (fun ls hl => ?_)
            refine lv_goto (tgt := 116) hx hb dX12_chairsOn_163 (by decide) ?_
            exact ih_116 v_59 f_56 _ _ _ (by omega) (by have zz0_6 : (f_56 0 6).toInt = v_35.toInt := (congrArg Int32.toInt (show f_56 0 6 = v_35 from ((hk_f_56 0 6 (by decide)).trans (by rw [ef_42, sg_up_n (by decide)]; exact ev_35.symm)))); omega) (by omega) hI hF hP hS (lv_sub hl [1, 2, 3, 4, 5, 0] rfl)
  refine lv_iload_n hx hb dX12_chairsOn_0 rfl (lv_at hl 1 rfl) ?_
  refine lv_aload_n hx hb dX12_chairsOn_1 rfl (lv_at hl 0 rfl) ?_
  refine sg_get (ci := 12) (v := .int v_1) (C := RX12) (T := TX12) (N := 55) hx hb hts (fun w h => List.mem_cons_of_mem _ (gx_12 w h)) hown hK hP 0 (by decide) rfl rfl 6 (by decide) (hts _ (List.mem_cons_of_mem _ mw_622)) (fun _ h9 => h9) (congrArg (fun z => some (Value.int z)) (show f 0 6 = v_1 from ev_1.symm)) dX12_chairsOn_2 ?_
  refine lv_icmp_ne (tgt := 93) hx hb dX12_chairsOn_5 (by decide) (fun c => ?_) (fun c => ?_)
  · skip
    have c_61 : 1 ≠ v_1.toInt := (by have z := bn_ne c; have k0 : (1 : Int32).toInt = 1 := (by decide); omega)
    refine lv_iload_n hx hb dX12_chairsOn_93 rfl (lv_at hl 3 rfl) ?_
    refine lv_iload_n hx hb dX12_chairsOn_94 rfl (lv_at hl 1 rfl) ?_
    refine sg_calli (va_runS (As := [.int x2, .int 1]) (rest := []) ⟨hx, hb, hml, hown, hts⟩ (kX12_isIn l D ca za h hh f L Q hI x2 1 (by omega) (by decide) H.size) (va_cwS 2 hts (gw_S (fun _ h => List.mem_cons_of_mem _ h) mw_832 mw_833 mw_619 mw_831) rfl rfl rfl (by decide +kernel) ⟨Nat.le_of_ble_eq_true rfl, Nat.le_of_ble_eq_true rfl⟩) (sg_preS hA hK hP hS hZ) rfl rfl hl.1 rfl (lv_room (Nat.le_of_ble_eq_true rfl)) dX12_chairsOn_95 ⟨Nat.le_refl _, Nat.le_refl _⟩) hA hS (fun r_66 f_63 L_64 Q_65 H locs hq hP hS => ?_)
    obtain ⟨⟨ef9, eL9, eQ9⟩, hq⟩ := hq
    rw [ef9, eL9, eQ9] at hP; clear ef9 eL9 eQ9
    refine lv_if_ne (tgt := 113) hx hb dX12_chairsOn_98 (by decide) (fun c => ?_) (fun c => ?_)
    · skip
      have c_67 : r_66.toInt ≠ 0 := (by have z := bn_ne c; have k1 : (0 : Int32).toInt = 0 := (by decide); omega)
      refine lv_iconst (v := 0) hx hb dX12_chairsOn_113 (by decide) ?_
      refine lv_istore (lv' := [(5, .int 0), (0, .ref (h 0)), (1, .int 1), (2, .int x1), (3, .int x2), (4, .int x3)]) hx hb dX12_chairsOn_114 hl (by decide) rfl (fun ls hl => ?_)
      exact loop_116 3 0 f _ _ _ (by have kc0 : (0 : Int32).toInt = 0 := (by decide); omega) (by have zz0_6 : (f 0 6).toInt = v_1.toInt := (congrArg Int32.toInt (show f 0 6 = v_1 from ev_1.symm)); omega) (by decide) hI hF hP hS (lv_sub hl [1, 2, 3, 4, 5, 0] rfl)
    · skip
      have c_68 : r_66.toInt = 0 := (by have z := Int32.toInt_inj.mpr c; have k1 : (0 : Int32).toInt = 0 := (by decide); omega)
      refine lv_aload_n hx hb dX12_chairsOn_101 rfl (lv_at hl 0 rfl) ?_
      refine lv_iload_n hx hb dX12_chairsOn_102 rfl (lv_at hl 1 rfl) ?_
      refine lv_iconst (v := 1) hx hb dX12_chairsOn_103 (by decide) ?_
      refine lv_iadd hx hb dX12_chairsOn_104 ?_
      refine W.eq (g2 := F0 m 105 ls [.int 2, .ref (h 0)]) (by rw [show (1 + 1 : Int32) = 2 from by decide]) ?_
      refine lv_iload_n hx hb dX12_chairsOn_105 rfl (lv_at hl 2 rfl) ?_
      refine lv_iload_n hx hb dX12_chairsOn_106 rfl (lv_at hl 3 rfl) ?_
      refine lv_iload hx hb dX12_chairsOn_107 (lv_at hl 4 rfl) ?_
      have q_69 : (f 0 6).toInt = v_1.toInt := (congrArg Int32.toInt (show f 0 6 = v_1 from ev_1.symm))
      have q_70 : (f 0 6).toInt = v_1.toInt := (congrArg Int32.toInt (show f 0 6 = v_1 from ev_1.symm))
      refine sg_callv (va_runV (As := [.int 2, .int x1, .int x2, .int x3]) (rest := []) ⟨hx, hb, hml, hown, hts⟩ (kX12_chairsOn_2 l D ca za h hh f L Q hI x1 x2 x3 (by omega) (by omega) (by omega) (by have k0 : (2 : Int32).toInt = 2 := (by decide); omega) H.size) (cwV 4 hts (gw_V (fun _ h => List.mem_cons_of_mem _ h) mw_860 mw_861 mw_862 mw_619 mw_859) rfl rfl rfl (by decide +kernel) ⟨Nat.le_of_ble_eq_true rfl, Nat.le_of_ble_eq_true rfl⟩) (sg_preV (ci := 12) (C := RX12) (T := TX12) (N := 55) hA hK hP hS hZ 0 (by decide) rfl rfl) rfl rfl hl.1 rfl (lv_room (Nat.le_of_ble_eq_true rfl)) dX12_chairsOn_109 ⟨Nat.le_refl _, Nat.le_refl _⟩) hA hS (fun f_71 L_72 Q_73 H locs hq hP hS => ?_)
      obtain ⟨hI, hk_f_71, eL9, eQ9⟩ := hq
      rw [eL9, eQ9] at hP; clear eL9 eQ9
      have hF : sgK WkX12_chairsOn_1 f f_71 := sgK.tr hF hk_f_71 (by decide)
      exact hret _ _ _ _ f_71 L Q dX12_chairsOn_112 hP hS ⟨hI, hF, rfl, rfl⟩
  · skip
    have c_62 : 1 = v_1.toInt := (by have z := Int32.toInt_inj.mpr c; have k0 : (1 : Int32).toInt = 1 := (by decide); omega)
    refine lv_iconst (v := 0) hx hb dX12_chairsOn_8 (by decide) ?_
    refine lv_istore (lv' := [(5, .int 0), (0, .ref (h 0)), (1, .int 1), (2, .int x1), (3, .int x2), (4, .int x3)]) hx hb dX12_chairsOn_9 hl (by decide) rfl (fun ls hl => ?_)
    refine lv_iconst (v := 0) hx hb dX12_chairsOn_11 (by decide) ?_
    refine lv_istore (lv' := [(6, .int 0), (5, .int 0), (0, .ref (h 0)), (1, .int 1), (2, .int x1), (3, .int x2), (4, .int x3)]) hx hb dX12_chairsOn_12 hl (by decide) rfl (fun ls hl => ?_)
    exact loop_14 2 0 0 f _ _ _ (by have kc0 : (0 : Int32).toInt = 0 := (by decide); have kc1 : (0 : Int32).toInt = 0 := (by decide); omega) (by have zz0_6 : (f 0 6).toInt = v_1.toInt := (congrArg Int32.toInt (show f 0 6 = v_1 from ev_1.symm)); omega) (by decide) hI hF hP hS (lv_sub hl [2, 4, 5, 1, 0] rfl)

abbrev WkX12_chairsOn_0 : List (Nat × Nat × Option Nat) := [(0, 0, some 35), (15, 15, none), (16, 16, none)]
set_option maxHeartbeats 4000000 in
set_option maxRecDepth 100000 in
theorem kX12_chairsOn_0 (l : Launch) (D : va_G) (ca : Nat → ClassId) (za h : Nat → Nat) (hh : sgH 26 h) (f : sg_F) (L : sg_L) (Q : sg_Q) (hI : sgI loM hiM f) (x1 : Int32) (x2 : Int32) (x3 : Int32) (b1 : 0 ≤ x1.toInt ∧ x1.toInt ≤ 0) (b2 : 0 ≤ x2.toInt ∧ x2.toInt ≤ 255) (b3 : 0 ≤ x3.toInt ∧ x3.toInt ≤ 9) (p0 : 0 ≤ (f 0 6).toInt ∧ (f 0 6).toInt ≤ 8) (sz : Nat) : Met l yX12_chairsOn gwX12_chairsOn { frames := 10, cells := 0, slots := 0, locals := 255 } (sgP D vwCl (tyX ca) 26 h (eM ca h) zcM za f L Q sz [.ref (h 0), .int 0, .int x1, .int x2, .int x3]) (sgQv D vwCl 26 h (eM ca h) sz (fun f1 L1 Q1 => ((sgI loM hiM f1 ∧ sgK WkX12_chairsOn_0 f f1 ∧ L1 = L ∧ Q1 = Q)))) 0 0 (sgA 26 h sz) := by
  refine sg_ofWv (cc := cX12_chairsOn) (maxL := 7) RX12 (by decide) rfl rfl (Nat.le_of_ble_eq_true rfl) ?_
  intro p e s m below meth cd Qz ls hx hb hml hown hts hK hZ hP hS hl hret
  have hA := sgY.self (n := 26) (h := h) (sz := s.heap.size)
  have hl : lv_has ls 7 [(0, .ref (h 0)), (1, .int 0), (2, .int x1), (3, .int x2), (4, .int x3)] := hl
  obtain ⟨H, hH⟩ : ∃ z : Heap, z = s.heap := ⟨_, rfl⟩
  obtain ⟨locs, hlo⟩ : ∃ z : List Loc, z = [] := ⟨_, rfl⟩
  have hP : va_P D vwCl (sgw 26 h (eM ca h) f L Q) H := by rw [hH]; exact hP
  have hS : va_S (sgA 26 h s.heap.size) s.heap H locs := by rw [hH, hlo]; exact hS
  suffices hgo : W p l e ({ frames := 10, cells := 0, slots := 0, locals := 255 }) s m ([.ref (h 0), .int 0, .int x1, .int x2, .int x3] : List Value).toArray below meth cd H locs 0 0 Qz (F0 m 0 ls []) by rw [hH, hlo] at hgo; exact hgo
  clear hH hlo
  obtain ⟨v_1, ev_1⟩ : ∃ z : Int32, z = f 0 6 := ⟨_, rfl⟩
  have q_2 : 0 ≤ v_1.toInt ∧ v_1.toInt ≤ 8 := by rw [ev_1]; exact hI 0 6
  have o_3 : (f 0 6).toInt = v_1.toInt := (congrArg Int32.toInt (show f 0 6 = v_1 from ev_1.symm))
  have hF : sgK WkX12_chairsOn_0 f f := sgK.rf
  have loop_63 : ∀ (n_63 : Nat) (fp_63 : sg_F) (H : Heap) (locs : List Loc) (ls : Array Slot), 0 - 0 < (n_63 : Int) → 0 ≤ (fp_63 0 35).toInt ∧ (fp_63 0 35).toInt ≤ 0 → 0 ≤ (fp_63 0 6).toInt ∧ (fp_63 0 6).toInt ≤ 0 → sgI loM hiM fp_63 → sgK WkX12_chairsOn_0 f fp_63 → va_P D vwCl (sgw 26 h (eM ca h) fp_63 L Q) H → va_S (sgA 26 h s.heap.size) s.heap H locs → lv_has ls 7 [(0, .ref (h 0)), (6, .int 0)] → W p l e ({ frames := 10, cells := 0, slots := 0, locals := 255 }) s m ([.ref (h 0), .int 0, .int x1, .int x2, .int x3] : List Value).toArray below meth cd H locs 0 0 Qz (F0 m 63 ls []) := by
    intro n_63
    induction n_63 with
    | zero => intro fp_63 H locs ls hm_63 hy0_63 hy1_63 hI hF hP hS hl; exact absurd hm_63 (by omega)
    | succ n_63 ih_63 =>
      intro fp_63 H locs ls hm_63 hy0_63 hy1_63 hI hF hP hS hl
      obtain ⟨v_4, ev_4⟩ : ∃ z : Int32, z = fp_63 0 35 := ⟨_, rfl⟩
      have q_5 : (fp_63 0 35).toInt = v_4.toInt := by rw [ev_4]
      obtain ⟨v_6, ev_6⟩ : ∃ z : Int32, z = fp_63 0 6 := ⟨_, rfl⟩
      have q_7 : 0 ≤ v_6.toInt ∧ v_6.toInt ≤ 8 := by rw [ev_6]; exact hI 0 6
      have q_8 : (fp_63 0 6).toInt = v_6.toInt := by rw [ev_6]
      refine lv_iload hx hb dX12_chairsOn_63 (lv_at hl 1 rfl) ?_
      refine lv_aload_n hx hb dX12_chairsOn_65 rfl (lv_at hl 0 rfl) ?_
      refine sg_get (ci := 12) (v := .int v_6) (C := RX12) (T := TX12) (N := 55) hx hb hts (fun w h => List.mem_cons_of_mem _ (gx_12 w h)) hown hK hP 0 (by decide) rfl rfl 6 (by decide) (hts _ (List.mem_cons_of_mem _ mw_622)) (fun _ h9 => h9) (congrArg (fun z => some (Value.int z)) (show fp_63 0 6 = v_6 from ev_6.symm)) dX12_chairsOn_66 ?_
      refine lv_icmp_ge (tgt := 92) hx hb dX12_chairsOn_69 (by decide) (fun c => ?_) (fun c => ?_)
      · skip
        have c_9 : v_6.toInt ≤ 0 := (by have z := bn_le c; have k0 : (0 : Int32).toInt = 0 := (by decide); omega)
        exact hret _ _ _ _ fp_63 L Q dX12_chairsOn_92 hP hS ⟨hI, hF, rfl, rfl⟩
      · skip
        exfalso; have c_10 : 0 < v_6.toInt := (by have z := bn_nle c; have k0 : (0 : Int32).toInt = 0 := (by decide); omega); omega
  have blk_54 : ∀ (fp_54 : sg_F) (H : Heap) (locs : List Loc) (ls : Array Slot), 0 ≤ (fp_54 0 6).toInt ∧ (fp_54 0 6).toInt ≤ 0 → sgI loM hiM fp_54 → sgK WkX12_chairsOn_0 f fp_54 → va_P D vwCl (sgw 26 h (eM ca h) fp_54 L Q) H → va_S (sgA 26 h s.heap.size) s.heap H locs → lv_has ls 7 [(0, .ref (h 0)), (5, .int 0)] → W p l e ({ frames := 10, cells := 0, slots := 0, locals := 255 }) s m ([.ref (h 0), .int 0, .int x1, .int x2, .int x3] : List Value).toArray below meth cd H locs 0 0 Qz (F0 m 54 ls []) := by
    intro fp_54 H locs ls hy0_54 hI hF hP hS hl
    obtain ⟨v_11, ev_11⟩ : ∃ z : Int32, z = fp_54 0 6 := ⟨_, rfl⟩
    have q_12 : 0 ≤ v_11.toInt ∧ v_11.toInt ≤ 8 := by rw [ev_11]; exact hI 0 6
    have q_13 : (fp_54 0 6).toInt = v_11.toInt := by rw [ev_11]
    refine lv_aload_n hx hb dX12_chairsOn_54 rfl (lv_at hl 0 rfl) ?_
    refine lv_iload hx hb dX12_chairsOn_55 (lv_at hl 1 rfl) ?_
    refine sg_put (ci := 12) (x := 0) (ty := .int) (C := RX12) (T := TX12) (N := 55) hx hb hts (fun w h => List.mem_cons_of_mem _ (gx_12 w h)) tyX12 tyX12_ok nmX12 hown hh hA hK hP hS 0 (by decide) rfl rfl 35 (by decide) (hts _ (List.mem_cons_of_mem _ mw_816)) (fun _ h9 => h9) rfl rfl (by decide +kernel) rfl rfl (Nat.le_of_ble_eq_true rfl) dX12_chairsOn_57 (fun f_14 H locs ef_14 hP hS => ?_)
    have hI : sgI loM hiM f_14 := by rw [ef_14]; exact sgI.put hI 0 35 (bn_top _)
    have hF : sgK WkX12_chairsOn_0 f f_14 := sgK.put hF ef_14 (by rfl)
    refine lv_iconst (v := 0) hx hb dX12_chairsOn_60 (by decide) ?_
    refine lv_istore (lv' := [(6, .int 0), (0, .ref (h 0)), (5, .int 0)]) hx hb dX12_chairsOn_61 hl (by decide) rfl (fun ls hl => ?_)
    exact loop_63 1 f_14 _ _ _ (by omega) (by have zz0_35 : (f_14 0 35).toInt = 0 := (congrArg Int32.toInt (show f_14 0 35 = 0 from (by rw [ef_14, sg_up_s, sgu_s]))).trans (by decide); omega) (by have zz0_6 : (f_14 0 6).toInt = v_11.toInt := (congrArg Int32.toInt (show f_14 0 6 = v_11 from (by rw [ef_14, sg_up_s, sgu_n (by decide)]; exact ev_11.symm))); omega) hI hF hP hS (lv_sub hl [1, 0] rfl)
  have loop_14 : ∀ (n_14 : Nat) (fp_14 : sg_F) (H : Heap) (locs : List Loc) (ls : Array Slot), 0 - 0 < (n_14 : Int) → 0 ≤ (fp_14 0 6).toInt ∧ (fp_14 0 6).toInt ≤ 0 → sgI loM hiM fp_14 → sgK WkX12_chairsOn_0 f fp_14 → va_P D vwCl (sgw 26 h (eM ca h) fp_14 L Q) H → va_S (sgA 26 h s.heap.size) s.heap H locs → lv_has ls 7 [(0, .ref (h 0)), (2, .int x1), (3, .int x2), (5, .int 0), (6, .int 0)] → W p l e ({ frames := 10, cells := 0, slots := 0, locals := 255 }) s m ([.ref (h 0), .int 0, .int x1, .int x2, .int x3] : List Value).toArray below meth cd H locs 0 0 Qz (F0 m 14 ls []) := by
    intro n_14
    induction n_14 with
    | zero => intro fp_14 H locs ls hm_14 hy0_14 hI hF hP hS hl; exact absurd hm_14 (by omega)
    | succ n_14 ih_14 =>
      intro fp_14 H locs ls hm_14 hy0_14 hI hF hP hS hl
      obtain ⟨v_15, ev_15⟩ : ∃ z : Int32, z = fp_14 0 6 := ⟨_, rfl⟩
      have q_16 : 0 ≤ v_15.toInt ∧ v_15.toInt ≤ 8 := by rw [ev_15]; exact hI 0 6
      have q_17 : (fp_14 0 6).toInt = v_15.toInt := by rw [ev_15]
      refine lv_iload hx hb dX12_chairsOn_14 (lv_at hl 4 rfl) ?_
      refine lv_iload_n hx hb dX12_chairsOn_16 rfl (lv_at hl 1 rfl) ?_
      refine lv_icmp_ge (tgt := 38) hx hb dX12_chairsOn_17 (by decide) (fun c => ?_) (fun c => ?_)
      · skip
        have c_18 : x1.toInt ≤ 0 := (by have z := bn_le c; have k0 : (0 : Int32).toInt = 0 := (by decide); omega)
        refine lv_aload_n hx hb dX12_chairsOn_38 rfl (lv_at hl 0 rfl) ?_
        refine sg_get (ci := 12) (v := .int (fp_14 0 35)) (C := RX12) (T := TX12) (N := 55) hx hb hts (fun w h => List.mem_cons_of_mem _ (gx_12 w h)) hown hK hP 0 (by decide) rfl rfl 35 (by decide) (hts _ (List.mem_cons_of_mem _ mw_816)) (fun _ h9 => h9) rfl dX12_chairsOn_39 ?_
        refine lv_topi (fun v_20 ev_20 => ?_)
        refine lv_if_lt (tgt := 54) hx hb dX12_chairsOn_42 (by decide) (fun c => ?_) (fun c => ?_)
        · skip
          have c_21 : v_20.toInt < 0 := (by have z := bn_lt c; have k1 : (0 : Int32).toInt = 0 := (by decide); omega)
          exact blk_54 fp_14 _ _ _ (by have zz0_6 : (fp_14 0 6).toInt = v_15.toInt := (congrArg Int32.toInt (show fp_14 0 6 = v_15 from ev_15.symm)); omega) hI hF hP hS (lv_sub hl [0, 3] rfl)
        · skip
          have c_22 : 0 ≤ v_20.toInt := (by have z := bn_nlt c; have k1 : (0 : Int32).toInt = 0 := (by decide); omega)
          refine lv_iload hx hb dX12_chairsOn_45 (lv_at hl 3 rfl) ?_
          refine lv_aload_n hx hb dX12_chairsOn_47 rfl (lv_at hl 0 rfl) ?_
          refine sg_get (ci := 12) (v := .int v_20) (C := RX12) (T := TX12) (N := 55) hx hb hts (fun w h => List.mem_cons_of_mem _ (gx_12 w h)) hown hK hP 0 (by decide) rfl rfl 35 (by decide) (hts _ (List.mem_cons_of_mem _ mw_816)) (fun _ h9 => h9) (congrArg (fun z => some (Value.int z)) (show fp_14 0 35 = v_20 from ev_20.symm)) dX12_chairsOn_48 ?_
          refine lv_icmp_ge (tgt := 92) hx hb dX12_chairsOn_51 (by decide) (fun c => ?_) (fun c => ?_)
          · skip
            have c_23 : v_20.toInt ≤ 0 := (by have z := bn_le c; have k0 : (0 : Int32).toInt = 0 := (by decide); omega)
            exact hret _ _ _ _ fp_14 L Q dX12_chairsOn_92 hP hS ⟨hI, hF, rfl, rfl⟩
          · skip
            have c_24 : 0 < v_20.toInt := (by have z := bn_nle c; have k0 : (0 : Int32).toInt = 0 := (by decide); omega)
            exact blk_54 fp_14 _ _ _ (by have zz0_6 : (fp_14 0 6).toInt = v_15.toInt := (congrArg Int32.toInt (show fp_14 0 6 = v_15 from ev_15.symm)); omega) hI hF hP hS (lv_sub hl [0, 3] rfl)
      · skip
        exfalso; have c_19 : 0 < x1.toInt := (by have z := bn_nle c; have k0 : (0 : Int32).toInt = 0 := (by decide); omega); omega
  have loop_116 : ∀ (n_116 : Nat) (y5_116 : Int32) (fp_116 : sg_F) (H : Heap) (locs : List Loc) (ls : Array Slot), 1 - y5_116.toInt < (n_116 : Int) → 1 ≤ (fp_116 0 6).toInt ∧ (fp_116 0 6).toInt ≤ 8 → 0 ≤ y5_116.toInt ∧ y5_116.toInt ≤ 1 → sgI loM hiM fp_116 → sgK WkX12_chairsOn_0 f fp_116 → va_P D vwCl (sgw 26 h (eM ca h) fp_116 L Q) H → va_S (sgA 26 h s.heap.size) s.heap H locs → lv_has ls 7 [(0, .ref (h 0)), (1, .int 0), (2, .int x1), (3, .int x2), (4, .int x3), (5, .int y5_116)] → W p l e ({ frames := 10, cells := 0, slots := 0, locals := 255 }) s m ([.ref (h 0), .int 0, .int x1, .int x2, .int x3] : List Value).toArray below meth cd H locs 0 0 Qz (F0 m 116 ls []) := by
    intro n_116
    induction n_116 with
    | zero => intro y5_116 fp_116 H locs ls hm_116 hy0_116 hy1_116 hI hF hP hS hl; exact absurd hm_116 (by omega)
    | succ n_116 ih_116 =>
      intro y5_116 fp_116 H locs ls hm_116 hy0_116 hy1_116 hI hF hP hS hl
      obtain ⟨v_25, ev_25⟩ : ∃ z : Int32, z = fp_116 0 6 := ⟨_, rfl⟩
      have q_26 : 0 ≤ v_25.toInt ∧ v_25.toInt ≤ 8 := by rw [ev_25]; exact hI 0 6
      have q_27 : (fp_116 0 6).toInt = v_25.toInt := by rw [ev_25]
      refine lv_iload hx hb dX12_chairsOn_116 (lv_at hl 5 rfl) ?_
      refine lv_iload hx hb dX12_chairsOn_118 (lv_at hl 4 rfl) ?_
      refine lv_icmp_ge (tgt := 166) hx hb dX12_chairsOn_120 (by decide) (fun c => ?_) (fun c => ?_)
      · skip
        have c_28 : x3.toInt ≤ y5_116.toInt := (by have z := bn_le c; omega)
        exact hret _ _ _ _ fp_116 L Q dX12_chairsOn_166 hP hS ⟨hI, hF, rfl, rfl⟩
      · skip
        have c_29 : y5_116.toInt < x3.toInt := (by have z := bn_nle c; omega)
        refine lv_iload hx hb dX12_chairsOn_123 (lv_at hl 5 rfl) ?_
        refine lv_iload_n hx hb dX12_chairsOn_125 rfl (lv_at hl 2 rfl) ?_
        refine lv_icmp_gt (tgt := 166) hx hb dX12_chairsOn_126 (by decide) (fun c => ?_) (fun c => ?_)
        · skip
          have c_30 : x1.toInt < y5_116.toInt := (by have z := bn_lt c; omega)
          exact hret _ _ _ _ fp_116 L Q dX12_chairsOn_166 hP hS ⟨hI, hF, rfl, rfl⟩
        · skip
          have c_31 : y5_116.toInt ≤ x1.toInt := (by have z := bn_nlt c; omega)
          refine lv_aload_n hx hb dX12_chairsOn_129 rfl (lv_at hl 0 rfl) ?_
          refine sg_get (ci := 12) (v := .ref (h 15)) (C := RX12) (T := TX12) (N := 55) hx hb hts (fun w h => List.mem_cons_of_mem _ (gx_12 w h)) hown hK hP 0 (by decide) rfl rfl 33 (by decide) (hts _ (List.mem_cons_of_mem _ mw_834)) (fun _ h9 => h9) rfl dX12_chairsOn_130 ?_
          refine lv_iload_n hx hb dX12_chairsOn_133 rfl (lv_at hl 1 rfl) ?_
          refine lv_iload hx hb dX12_chairsOn_134 (lv_at hl 5 rfl) ?_
          refine sg_iast hx hb hh hA hK hP hS 15 (by decide) 0 (fun _ => rfl) rfl (i := 0) (x := y5_116) (vp_in_iff.mpr (by decide)) dX12_chairsOn_136 (fun f_32 H locs ef_32 hP hS => ?_)
          have hI : sgI loM hiM f_32 := by rw [ef_32]; exact sgI.put hI 15 (Int32.toNatClampNeg 0) (show 0 ≤ (y5_116 : Int32).toInt ∧ (y5_116 : Int32).toInt ≤ 7 from by omega)
          have hF : sgK WkX12_chairsOn_0 f f_32 := sgK.put hF ef_32 (by rfl)
          refine lv_aload_n hx hb dX12_chairsOn_137 rfl (lv_at hl 0 rfl) ?_
          refine lv_iload_n hx hb dX12_chairsOn_138 rfl (lv_at hl 1 rfl) ?_
          refine lv_iconst (v := 1) hx hb dX12_chairsOn_139 (by decide) ?_
          refine lv_iadd hx hb dX12_chairsOn_140 ?_
          refine W.eq (g2 := F0 m 141 ls [.int 1, .ref (h 0)]) (by rw [show (0 + 1 : Int32) = 1 from by decide]) ?_
          refine lv_iload hx hb dX12_chairsOn_141 (lv_at hl 5 rfl) ?_
          refine lv_iload_n hx hb dX12_chairsOn_143 rfl (lv_at hl 2 rfl) ?_
          refine lv_icmp_ne (tgt := 153) hx hb dX12_chairsOn_144 (by decide) (fun c => ?_) (fun c => ?_)
          · skip
            exfalso; have c_33 : y5_116.toInt ≠ x1.toInt := (by have z := bn_ne c; omega); omega
          · skip
            have c_34 : y5_116.toInt = x1.toInt := (by have z := Int32.toInt_inj.mpr c; omega)
            refine lv_iload_n hx hb dX12_chairsOn_147 rfl (lv_at hl 2 rfl) ?_
            refine lv_iconst (v := 1) hx hb dX12_chairsOn_148 (by decide) ?_
            refine lv_iadd hx hb dX12_chairsOn_149 ?_
            refine lv_topi (fun v_35 ev_35 => ?_)
            have q_36 : v_35.toInt = x1.toInt + 1 := by rw [ev_35]; have k1 : (1 : Int32).toInt = 1 := (by decide); exact (bn_addI (by omega) (by omega)).trans (by omega)
            refine lv_goto (tgt := 154) hx hb dX12_chairsOn_150 (by decide) ?_
            refine lv_iload_n hx hb dX12_chairsOn_154 rfl (lv_at hl 3 rfl) ?_
            refine lv_iload hx hb dX12_chairsOn_155 (lv_at hl 4 rfl) ?_
            have q_37 : (f_32 0 6).toInt = v_25.toInt := (congrArg Int32.toInt (show f_32 0 6 = v_25 from (by rw [ef_32, sg_up_n (by decide)]; exact ev_25.symm)))
            have q_38 : (f_32 0 6).toInt = v_25.toInt := (congrArg Int32.toInt (show f_32 0 6 = v_25 from (by rw [ef_32, sg_up_n (by decide)]; exact ev_25.symm)))
            refine sg_callv (va_runV (As := [.int 1, .int v_35, .int x2, .int x3]) (rest := []) ⟨hx, hb, hml, hown, hts⟩ (kX12_chairsOn_1 l D ca za h hh f_32 L Q hI v_35 x2 x3 (by omega) (by omega) (by omega) (by have k0 : (1 : Int32).toInt = 1 := (by decide); omega) H.size) (cwV 4 hts (gw_V (fun _ h => List.mem_cons_of_mem _ h) mw_860 mw_861 mw_862 mw_619 mw_859) rfl rfl rfl (by decide +kernel) ⟨Nat.le_of_ble_eq_true rfl, Nat.le_of_ble_eq_true rfl⟩) (sg_preV (ci := 12) (C := RX12) (T := TX12) (N := 55) hA hK hP hS hZ 0 (by decide) rfl rfl) rfl rfl hl.1 rfl (lv_room (Nat.le_of_ble_eq_true rfl)) dX12_chairsOn_157 ⟨Nat.le_refl _, Nat.le_refl _⟩) hA hS (fun f_39 L_40 Q_41 H locs hq hP hS => ?_)
            obtain ⟨hI, hk_f_39, eL9, eQ9⟩ := hq
            rw [eL9, eQ9] at hP; clear eL9 eQ9
            have hF : sgK WkX12_chairsOn_0 f f_39 := sgK.tr hF hk_f_39 (by decide)
            obtain ⟨v_42, ev_42⟩ : ∃ z : Int32, z = y5_116 + 1 := ⟨_, rfl⟩
            have q_43 : v_42.toInt = y5_116.toInt + 1 := by rw [ev_42]; exact (bn_addc y5_116 1 (by decide) (by omega) (by omega))
            refine lv_iinc (v := v_42) (lv' := [(5, .int v_42), (0, .ref (h 0)), (1, .int 0), (2, .int x1), (3, .int x2), (4, .int x3)]) hx hb dX12_chairsOn_160 hl (k := 5) rfl (by rw [ev_42]; rfl) (by decide) rfl (fun ls hl => ?_)
            refine lv_goto (tgt := 116) hx hb dX12_chairsOn_163 (by decide) ?_
            exact ih_116 v_42 f_39 _ _ _ (by omega) (by have zz0_6 : (f_39 0 6).toInt = v_25.toInt := (congrArg Int32.toInt (show f_39 0 6 = v_25 from ((hk_f_39 0 6 (by decide)).trans (by rw [ef_32, sg_up_n (by decide)]; exact ev_25.symm)))); omega) (by omega) hI hF hP hS (lv_sub hl [1, 2, 3, 4, 5, 0] rfl)
  refine lv_iload_n hx hb dX12_chairsOn_0 rfl (lv_at hl 1 rfl) ?_
  refine lv_aload_n hx hb dX12_chairsOn_1 rfl (lv_at hl 0 rfl) ?_
  refine sg_get (ci := 12) (v := .int v_1) (C := RX12) (T := TX12) (N := 55) hx hb hts (fun w h => List.mem_cons_of_mem _ (gx_12 w h)) hown hK hP 0 (by decide) rfl rfl 6 (by decide) (hts _ (List.mem_cons_of_mem _ mw_622)) (fun _ h9 => h9) (congrArg (fun z => some (Value.int z)) (show f 0 6 = v_1 from ev_1.symm)) dX12_chairsOn_2 ?_
  refine lv_icmp_ne (tgt := 93) hx hb dX12_chairsOn_5 (by decide) (fun c => ?_) (fun c => ?_)
  · skip
    have c_44 : 0 ≠ v_1.toInt := (by have z := bn_ne c; have k0 : (0 : Int32).toInt = 0 := (by decide); omega)
    refine lv_iload_n hx hb dX12_chairsOn_93 rfl (lv_at hl 3 rfl) ?_
    refine lv_iload_n hx hb dX12_chairsOn_94 rfl (lv_at hl 1 rfl) ?_
    refine sg_calli (va_runS (As := [.int x2, .int 0]) (rest := []) ⟨hx, hb, hml, hown, hts⟩ (kX12_isIn l D ca za h hh f L Q hI x2 0 (by omega) (by decide) H.size) (va_cwS 2 hts (gw_S (fun _ h => List.mem_cons_of_mem _ h) mw_832 mw_833 mw_619 mw_831) rfl rfl rfl (by decide +kernel) ⟨Nat.le_of_ble_eq_true rfl, Nat.le_of_ble_eq_true rfl⟩) (sg_preS hA hK hP hS hZ) rfl rfl hl.1 rfl (lv_room (Nat.le_of_ble_eq_true rfl)) dX12_chairsOn_95 ⟨Nat.le_refl _, Nat.le_refl _⟩) hA hS (fun r_49 f_46 L_47 Q_48 H locs hq hP hS => ?_)
    obtain ⟨⟨ef9, eL9, eQ9⟩, hq⟩ := hq
    rw [ef9, eL9, eQ9] at hP; clear ef9 eL9 eQ9
    refine lv_if_ne (tgt := 113) hx hb dX12_chairsOn_98 (by decide) (fun c => ?_) (fun c => ?_)
    · skip
      have c_50 : r_49.toInt ≠ 0 := (by have z := bn_ne c; have k1 : (0 : Int32).toInt = 0 := (by decide); omega)
      refine lv_iconst (v := 0) hx hb dX12_chairsOn_113 (by decide) ?_
      refine lv_istore (lv' := [(5, .int 0), (0, .ref (h 0)), (1, .int 0), (2, .int x1), (3, .int x2), (4, .int x3)]) hx hb dX12_chairsOn_114 hl (by decide) rfl (fun ls hl => ?_)
      exact loop_116 2 0 f _ _ _ (by have kc0 : (0 : Int32).toInt = 0 := (by decide); omega) (by have zz0_6 : (f 0 6).toInt = v_1.toInt := (congrArg Int32.toInt (show f 0 6 = v_1 from ev_1.symm)); omega) (by decide) hI hF hP hS (lv_sub hl [1, 2, 3, 4, 5, 0] rfl)
    · skip
      have c_51 : r_49.toInt = 0 := (by have z := Int32.toInt_inj.mpr c; have k1 : (0 : Int32).toInt = 0 := (by decide); omega)
      refine lv_aload_n hx hb dX12_chairsOn_101 rfl (lv_at hl 0 rfl) ?_
      refine lv_iload_n hx hb dX12_chairsOn_102 rfl (lv_at hl 1 rfl) ?_
      refine lv_iconst (v := 1) hx hb dX12_chairsOn_103 (by decide) ?_
      refine lv_iadd hx hb dX12_chairsOn_104 ?_
      refine W.eq (g2 := F0 m 105 ls [.int 1, .ref (h 0)]) (by rw [show (0 + 1 : Int32) = 1 from by decide]) ?_
      refine lv_iload_n hx hb dX12_chairsOn_105 rfl (lv_at hl 2 rfl) ?_
      refine lv_iload_n hx hb dX12_chairsOn_106 rfl (lv_at hl 3 rfl) ?_
      refine lv_iload hx hb dX12_chairsOn_107 (lv_at hl 4 rfl) ?_
      have q_52 : (f 0 6).toInt = v_1.toInt := (congrArg Int32.toInt (show f 0 6 = v_1 from ev_1.symm))
      have q_53 : (f 0 6).toInt = v_1.toInt := (congrArg Int32.toInt (show f 0 6 = v_1 from ev_1.symm))
      refine sg_callv (va_runV (As := [.int 1, .int x1, .int x2, .int x3]) (rest := []) ⟨hx, hb, hml, hown, hts⟩ (kX12_chairsOn_1 l D ca za h hh f L Q hI x1 x2 x3 (by omega) (by omega) (by omega) (by have k0 : (1 : Int32).toInt = 1 := (by decide); omega) H.size) (cwV 4 hts (gw_V (fun _ h => List.mem_cons_of_mem _ h) mw_860 mw_861 mw_862 mw_619 mw_859) rfl rfl rfl (by decide +kernel) ⟨Nat.le_of_ble_eq_true rfl, Nat.le_of_ble_eq_true rfl⟩) (sg_preV (ci := 12) (C := RX12) (T := TX12) (N := 55) hA hK hP hS hZ 0 (by decide) rfl rfl) rfl rfl hl.1 rfl (lv_room (Nat.le_of_ble_eq_true rfl)) dX12_chairsOn_109 ⟨Nat.le_refl _, Nat.le_refl _⟩) hA hS (fun f_54 L_55 Q_56 H locs hq hP hS => ?_)
      obtain ⟨hI, hk_f_54, eL9, eQ9⟩ := hq
      rw [eL9, eQ9] at hP; clear eL9 eQ9
      have hF : sgK WkX12_chairsOn_0 f f_54 := sgK.tr hF hk_f_54 (by decide)
      exact hret _ _ _ _ f_54 L Q dX12_chairsOn_112 hP hS ⟨hI, hF, rfl, rfl⟩
  · skip
    have c_45 : 0 = v_1.toInt := (by have z := Int32.toInt_inj.mpr c; have k0 : (0 : Int32).toInt = 0 := (by decide); omega)
    refine lv_iconst (v := 0) hx hb dX12_chairsOn_8 (by decide) ?_
    refine lv_istore (lv' := [(5, .int 0), (0, .ref (h 0)), (1, .int 0), (2, .int x1), (3, .int x2), (4, .int x3)]) hx hb dX12_chairsOn_9 hl (by decide) rfl (fun ls hl => ?_)
    refine lv_iconst (v := 0) hx hb dX12_chairsOn_11 (by decide) ?_
    refine lv_istore (lv' := [(6, .int 0), (5, .int 0), (0, .ref (h 0)), (1, .int 0), (2, .int x1), (3, .int x2), (4, .int x3)]) hx hb dX12_chairsOn_12 hl (by decide) rfl (fun ls hl => ?_)
    exact loop_14 1 f _ _ _ (by omega) (by have zz0_6 : (f 0 6).toInt = v_1.toInt := (congrArg Int32.toInt (show f 0 6 = v_1 from ev_1.symm)); omega) hI hF hP hS (lv_sub hl [2, 4, 5, 1, 0] rfl)

abbrev WkX12_chairs : List (Nat × Nat × Option Nat) := [(0, 0, some 12), (0, 0, some 13), (0, 0, some 14), (0, 0, some 15), (0, 0, some 16), (0, 0, some 35), (8, 8, none), (14, 14, none), (15, 15, none), (16, 16, none)]
set_option maxHeartbeats 4000000 in
set_option maxRecDepth 100000 in
theorem kX12_chairs (l : Launch) (D : va_G) (ca : Nat → ClassId) (za h : Nat → Nat) (hh : sgH 26 h) (f : sg_F) (L : sg_L) (Q : sg_Q) (hI : sgI loM hiM f) (x0 : Int32) (x1 : Int32) (x2 : Int32) (sz : Nat) : Met l yX12_chairs gwX12_chairs { frames := 45, cells := 0, slots := 0, locals := 1032 } (sgP D vwCl (tyX ca) 26 h (eM ca h) zcM za f L Q sz [.ref (h 0), .int x0, .int x1, .int x2]) (sgQi D vwCl 26 h (eM ca h) sz (fun r f1 L1 Q1 => ((sgI loM hiM f1 ∧ sgK WkX12_chairs f f1 ∧ L1 = L ∧ Q1 = Q) ∧ True))) 0 0 (sgA 26 h sz) := by
  refine sg_ofWi (cc := cX12_chairs) (maxL := 7) RX12 (by decide) rfl rfl (Nat.le_of_ble_eq_true rfl) ?_
  intro p e s m below meth cd Qz ls hx hb hml hown hts hK hZ hP hS hl hret
  have hA := sgY.self (n := 26) (h := h) (sz := s.heap.size)
  have hl : lv_has ls 7 [(0, .ref (h 0)), (1, .int x0), (2, .int x1), (3, .int x2)] := hl
  obtain ⟨H, hH⟩ : ∃ z : Heap, z = s.heap := ⟨_, rfl⟩
  obtain ⟨locs, hlo⟩ : ∃ z : List Loc, z = [] := ⟨_, rfl⟩
  have hP : va_P D vwCl (sgw 26 h (eM ca h) f L Q) H := by rw [hH]; exact hP
  have hS : va_S (sgA 26 h s.heap.size) s.heap H locs := by rw [hH, hlo]; exact hS
  suffices hgo : W p l e ({ frames := 45, cells := 0, slots := 0, locals := 1032 }) s m ([.ref (h 0), .int x0, .int x1, .int x2] : List Value).toArray below meth cd H locs 0 0 Qz (F0 m 0 ls []) by rw [hH, hlo] at hgo; exact hgo
  clear hH hlo
  have hF : sgK WkX12_chairs f f := sgK.rf
  have loop_96 : ∀ (n_96 : Nat) (y4_96 : Int32) (fp_96 : sg_F) (H : Heap) (locs : List Loc) (ls : Array Slot), 21 - y4_96.toInt < (n_96 : Int) → 0 ≤ x0.toInt ∧ x0.toInt ≤ 5 → 0 ≤ x1.toInt ∧ x1.toInt ≤ 29 → (-1) ≤ x2.toInt ∧ x2.toInt ≤ 7 → 0 ≤ y4_96.toInt ∧ y4_96.toInt ≤ 21 → sgI loM hiM fp_96 → sgK WkX12_chairs f fp_96 → va_P D vwCl (sgw 26 h (eM ca h) fp_96 L Q) H → va_S (sgA 26 h s.heap.size) s.heap H locs → lv_has ls 7 [(0, .ref (h 0)), (1, .int x0), (2, .int x1), (3, .int x2), (4, .int y4_96)] → W p l e ({ frames := 45, cells := 0, slots := 0, locals := 1032 }) s m ([.ref (h 0), .int x0, .int x1, .int x2] : List Value).toArray below meth cd H locs 0 0 Qz (F0 m 96 ls []) := by
    intro n_96
    induction n_96 with
    | zero => intro y4_96 fp_96 H locs ls hm_96 hy0_96 hy1_96 hy2_96 hy3_96 hI hF hP hS hl; exact absurd hm_96 (by omega)
    | succ n_96 ih_96 =>
      have blk_164 : ∀ (y4_164 : Int32) (fp_164 : sg_F) (H : Heap) (locs : List Loc) (ls : Array Slot), 21 - y4_164.toInt < ((n_96 + 1 : Nat) : Int) → 0 ≤ x0.toInt ∧ x0.toInt ≤ 5 → 0 ≤ x1.toInt ∧ x1.toInt ≤ 29 → (-1) ≤ x2.toInt ∧ x2.toInt ≤ 7 → 0 ≤ y4_164.toInt ∧ y4_164.toInt ≤ 20 → sgI loM hiM fp_164 → sgK WkX12_chairs f fp_164 → va_P D vwCl (sgw 26 h (eM ca h) fp_164 L Q) H → va_S (sgA 26 h s.heap.size) s.heap H locs → lv_has ls 7 [(0, .ref (h 0)), (1, .int x0), (2, .int x1), (3, .int x2), (4, .int y4_164)] → W p l e ({ frames := 45, cells := 0, slots := 0, locals := 1032 }) s m ([.ref (h 0), .int x0, .int x1, .int x2] : List Value).toArray below meth cd H locs 0 0 Qz (F0 m 164 ls []) := by
        intro y4_164 fp_164 H locs ls hm_96 hy0_164 hy1_164 hy2_164 hy3_164 hI hF hP hS hl
        obtain ⟨v_1, ev_1⟩ : ∃ z : Int32, z = y4_164 + 1 := ⟨_, rfl⟩
        have q_2 : v_1.toInt = y4_164.toInt + 1 := by rw [ev_1]; exact (bn_addc y4_164 1 (by decide) (by omega) (by omega))
        refine lv_iinc (v := v_1) (lv' := [(4, .int v_1), (0, .ref (h 0)), (1, .int x0), (2, .int x1), (3, .int x2)]) hx hb dX12_chairs_164 hl (k := 4) rfl (by rw [ev_1]; rfl) (by decide) rfl (fun ls hl => ?_)
        refine lv_goto (tgt := 96) hx hb dX12_chairs_167 (by decide) ?_
        exact ih_96 v_1 fp_164 _ _ _ (by omega) (by omega) (by omega) (by omega) (by omega) hI hF hP hS (lv_sub hl [1, 2, 3, 4, 0] rfl)
      have loop_118 : ∀ (n_118 : Nat) (y4_118 : Int32) (y5_118 : Int32) (y6_118 : Int32) (fp_118 : sg_F) (H : Heap) (locs : List Loc) (ls : Array Slot), 61 - y6_118.toInt < (n_118 : Int) → 21 - y4_118.toInt < ((n_96 + 1 : Nat) : Int) → 0 ≤ x0.toInt ∧ x0.toInt ≤ 5 → 0 ≤ x1.toInt ∧ x1.toInt ≤ 29 → (-1) ≤ x2.toInt ∧ x2.toInt ≤ 7 → 0 ≤ y4_118.toInt ∧ y4_118.toInt ≤ 20 → (-1) ≤ y5_118.toInt ∧ y5_118.toInt ≤ 7 → 0 ≤ y6_118.toInt ∧ y6_118.toInt ≤ 61 → sgI loM hiM fp_118 → sgK WkX12_chairs f fp_118 → va_P D vwCl (sgw 26 h (eM ca h) fp_118 L Q) H → va_S (sgA 26 h s.heap.size) s.heap H locs → lv_has ls 7 [(0, .ref (h 0)), (1, .int x0), (2, .int x1), (3, .int x2), (4, .int y4_118), (5, .int y5_118), (6, .int y6_118)] → W p l e ({ frames := 45, cells := 0, slots := 0, locals := 1032 }) s m ([.ref (h 0), .int x0, .int x1, .int x2] : List Value).toArray below meth cd H locs 0 0 Qz (F0 m 118 ls []) := by
        intro n_118
        induction n_118 with
        | zero => intro y4_118 y5_118 y6_118 fp_118 H locs ls hm_118 hm_96 hy0_118 hy1_118 hy2_118 hy3_118 hy4_118 hy5_118 hI hF hP hS hl; exact absurd hm_118 (by omega)
        | succ n_118 ih_118 =>
          intro y4_118 y5_118 y6_118 fp_118 H locs ls hm_118 hm_96 hy0_118 hy1_118 hy2_118 hy3_118 hy4_118 hy5_118 hI hF hP hS hl
          refine lv_iload hx hb dX12_chairs_118 (lv_at hl 6 rfl) ?_
          refine lv_bipush (v := 61) hx hb dX12_chairs_120 (by decide) ?_
          refine lv_icmp_ge (tgt := 164) hx hb dX12_chairs_122 (by decide) (fun c => ?_) (fun c => ?_)
          · skip
            have c_3 : 61 ≤ y6_118.toInt := (by have z := bn_le c; have k1 : (61 : Int32).toInt = 61 := (by decide); omega)
            exact blk_164 y4_118 fp_118 _ _ _ (by omega) (by omega) (by omega) (by omega) (by omega) hI hF hP hS (lv_sub hl [0, 1, 2, 3, 4] rfl)
          · skip
            have c_4 : y6_118.toInt < 61 := (by have z := bn_nle c; have k1 : (61 : Int32).toInt = 61 := (by decide); omega)
            refine lv_iload hx hb dX12_chairs_125 (lv_at hl 5 rfl) ?_
            refine lv_if_lt (tgt := 164) hx hb dX12_chairs_127 (by decide) (fun c => ?_) (fun c => ?_)
            · skip
              have c_5 : y5_118.toInt < 0 := (by have z := bn_lt c; have k1 : (0 : Int32).toInt = 0 := (by decide); omega)
              exact blk_164 y4_118 fp_118 _ _ _ (by omega) (by omega) (by omega) (by omega) (by omega) hI hF hP hS (lv_sub hl [0, 1, 2, 3, 4] rfl)
            · skip
              have c_6 : 0 ≤ y5_118.toInt := (by have z := bn_nlt c; have k1 : (0 : Int32).toInt = 0 := (by decide); omega)
              refine lv_aload_n hx hb dX12_chairs_130 rfl (lv_at hl 0 rfl) ?_
              refine sg_get (ci := 12) (v := .ref (h 14)) (C := RX12) (T := TX12) (N := 55) hx hb hts (fun w h => List.mem_cons_of_mem _ (gx_12 w h)) hown hK hP 0 (by decide) rfl rfl 32 (by decide) (hts _ (List.mem_cons_of_mem _ mw_693)) (fun _ h9 => h9) rfl dX12_chairs_131 ?_
              refine lv_bipush (v := 61) hx hb dX12_chairs_134 (by decide) ?_
              refine lv_iload hx hb dX12_chairs_136 (lv_at hl 5 rfl) ?_
              refine lv_imul hx hb dX12_chairs_138 ?_
              refine lv_topi (fun v_7 ev_7 => ?_)
              have q_8 : v_7.toInt = 61 * y5_118.toInt := by rw [ev_7]; exact bn_mulJ (by decide) (by omega) (by omega)
              refine lv_iload hx hb dX12_chairs_139 (lv_at hl 6 rfl) ?_
              refine lv_iadd hx hb dX12_chairs_141 ?_
              refine lv_topi (fun v_9 ev_9 => ?_)
              have q_10 : v_9.toInt = v_7.toInt + y6_118.toInt := by rw [ev_9]; exact (bn_addI (by omega) (by omega)).trans (by omega)
              refine lv_dup2_11 hx hb dX12_chairs_142 rfl rfl ?_
              refine sg_iald hx hb hK hP 14 (by decide) 0 rfl rfl (i := v_9) (vp_in_iff.mpr ⟨by omega, by omega⟩) dX12_chairs_143 ?_
              refine lv_topi (fun v_11 ev_11 => ?_)
              refine lv_aload_n hx hb dX12_chairs_144 rfl (lv_at hl 0 rfl) ?_
              refine lv_iload hx hb dX12_chairs_145 (lv_at hl 5 rfl) ?_
              refine lv_iload_n hx hb dX12_chairs_147 rfl (lv_at hl 2 rfl) ?_
              refine lv_bipush (v := 10) hx hb dX12_chairs_148 (by decide) ?_
              refine lv_idiv hx hb dX12_chairs_150 (by decide) ?_
              refine lv_topi (fun v_12 ev_12 => ?_)
              have q_13 : v_12.toInt = x1.toInt / 10 := by rw [ev_12]; exact bn_divI (by omega) (by decide) (by decide)
              refine lv_iload hx hb dX12_chairs_151 (lv_at hl 6 rfl) ?_
              refine sg_calli (va_runV (As := [.int y5_118, .int v_12, .int y6_118]) (rest := [.int v_11, .int v_9, .ref (h 14)]) ⟨hx, hb, hml, hown, hts⟩ (kX12_lossOf l D ca za h hh fp_118 L Q hI y5_118 v_12 y6_118 (by omega) (by omega) (by omega) H.size) (cwV 3 hts (gw_V (fun _ h => List.mem_cons_of_mem _ h) mw_729 mw_730 mw_731 mw_619 mw_728) rfl rfl rfl (by decide +kernel) ⟨Nat.le_of_ble_eq_true rfl, Nat.le_of_ble_eq_true rfl⟩) (sg_preV (ci := 12) (C := RX12) (T := TX12) (N := 55) hA hK hP hS hZ 0 (by decide) rfl rfl) rfl rfl hl.1 rfl (lv_room (Nat.le_of_ble_eq_true rfl)) dX12_chairs_153 ⟨Nat.le_refl _, Nat.le_refl _⟩) hA hS (fun r_17 f_14 L_15 Q_16 H locs hq hP hS => ?_)
              obtain ⟨⟨hI, hk_f_14, eL9, eQ9⟩, hq⟩ := hq
              rw [eL9, eQ9] at hP; clear eL9 eQ9
              have hF : sgK WkX12_chairs f f_14 := sgK.tr hF hk_f_14 (by decide)
              refine lv_iadd hx hb dX12_chairs_156 ?_
              refine lv_topi (fun v_18 ev_18 => ?_)
              refine sg_iast hx hb hh hA hK hP hS 14 (by decide) 0 (fun _ => rfl) rfl (i := v_9) (x := v_18) (vp_in_iff.mpr ⟨by omega, by omega⟩) dX12_chairs_157 (fun f_19 H locs ef_19 hP hS => ?_)
              have hI : sgI loM hiM f_19 := by rw [ef_19]; exact sgI.put hI 14 v_9.toNatClampNeg (bn_top _)
              have hF : sgK WkX12_chairs f f_19 := sgK.put hF ef_19 (by rfl)
              obtain ⟨v_20, ev_20⟩ : ∃ z : Int32, z = y6_118 + 1 := ⟨_, rfl⟩
              have q_21 : v_20.toInt = y6_118.toInt + 1 := by rw [ev_20]; exact (bn_addc y6_118 1 (by decide) (by omega) (by omega))
              refine lv_iinc (v := v_20) (lv' := [(6, .int v_20), (0, .ref (h 0)), (1, .int x0), (2, .int x1), (3, .int x2), (4, .int y4_118), (5, .int y5_118)]) hx hb dX12_chairs_158 hl (k := 6) rfl (by rw [ev_20]; rfl) (by decide) rfl (fun ls hl => ?_)
              refine lv_goto (tgt := 118) hx hb dX12_chairs_161 (by decide) ?_
              exact ih_118 y4_118 y5_118 v_20 f_19 _ _ _ (by omega) (by omega) (by omega) (by omega) (by omega) (by omega) (by omega) (by omega) hI hF hP hS (lv_sub hl [1, 2, 3, 4, 5, 6, 0] rfl)
      intro y4_96 fp_96 H locs ls hm_96 hy0_96 hy1_96 hy2_96 hy3_96 hI hF hP hS hl
      refine lv_iload hx hb dX12_chairs_96 (lv_at hl 4 rfl) ?_
      refine lv_aload_n hx hb dX12_chairs_98 rfl (lv_at hl 0 rfl) ?_
      refine lv_iload_n hx hb dX12_chairs_99 rfl (lv_at hl 1 rfl) ?_
      refine sg_calli (va_runV (As := [.int x0]) (rest := [.int y4_96]) ⟨hx, hb, hml, hown, hts⟩ (kX12_shiftsOf l D ca za h hh fp_96 L Q hI x0 (by omega) H.size) (cwV 1 hts (gw_V (fun _ h => List.mem_cons_of_mem _ h) mw_714 mw_715 mw_716 mw_619 mw_713) rfl rfl rfl (by decide +kernel) ⟨Nat.le_of_ble_eq_true rfl, Nat.le_of_ble_eq_true rfl⟩) (sg_preV (ci := 12) (C := RX12) (T := TX12) (N := 55) hA hK hP hS hZ 0 (by decide) rfl rfl) rfl rfl hl.1 rfl (lv_room (Nat.le_of_ble_eq_true rfl)) dX12_chairs_100 ⟨Nat.le_refl _, Nat.le_refl _⟩) hA hS (fun r_25 f_22 L_23 Q_24 H locs hq hP hS => ?_)
      obtain ⟨⟨ef9, eL9, eQ9⟩, hq⟩ := hq
      rw [ef9, eL9, eQ9] at hP; clear ef9 eL9 eQ9
      refine lv_icmp_ge (tgt := 170) hx hb dX12_chairs_103 (by decide) (fun c => ?_) (fun c => ?_)
      · skip
        have c_26 : r_25.toInt ≤ y4_96.toInt := (by have z := bn_le c; omega)
        refine lv_aload_n hx hb dX12_chairs_170 rfl (lv_at hl 0 rfl) ?_
        refine lv_iload_n hx hb dX12_chairs_171 rfl (lv_at hl 1 rfl) ?_
        refine sg_calli (va_runV (As := [.int x0]) (rest := []) ⟨hx, hb, hml, hown, hts⟩ (kX12_sitsSet l D ca za h hh fp_96 L Q hI x0 (by omega) H.size) (cwV 1 hts (gw_V (fun _ h => List.mem_cons_of_mem _ h) mw_813 mw_814 mw_815 mw_619 mw_812) rfl rfl rfl (by decide +kernel) ⟨Nat.le_of_ble_eq_true rfl, Nat.le_of_ble_eq_true rfl⟩) (sg_preV (ci := 12) (C := RX12) (T := TX12) (N := 55) hA hK hP hS hZ 0 (by decide) rfl rfl) rfl rfl hl.1 rfl (lv_room (Nat.le_of_ble_eq_true rfl)) dX12_chairs_172 ⟨Nat.le_refl _, Nat.le_refl _⟩) hA hS (fun r_31 f_28 L_29 Q_30 H locs hq hP hS => ?_)
        obtain ⟨⟨ef9, eL9, eQ9⟩, hq⟩ := hq
        rw [ef9, eL9, eQ9] at hP; clear ef9 eL9 eQ9
        refine lv_istore (lv' := [(4, .int r_31), (0, .ref (h 0)), (1, .int x0), (2, .int x1), (3, .int x2)]) hx hb dX12_chairs_175 hl (by decide) rfl (fun ls hl => ?_)
        refine lv_aload_n hx hb dX12_chairs_177 rfl (lv_at hl 1 rfl) ?_
        refine lv_iconst (v := (-1)) hx hb dX12_chairs_178 (by decide) ?_
        refine sg_put (ci := 12) (x := (-1)) (ty := .int) (C := RX12) (T := TX12) (N := 55) hx hb hts (fun w h => List.mem_cons_of_mem _ (gx_12 w h)) tyX12 tyX12_ok nmX12 hown hh hA hK hP hS 0 (by decide) rfl rfl 35 (by decide) (hts _ (List.mem_cons_of_mem _ mw_816)) (fun _ h9 => h9) rfl rfl (by decide +kernel) rfl rfl (Nat.le_of_ble_eq_true rfl) dX12_chairs_179 (fun f_32 H locs ef_32 hP hS => ?_)
        have hI : sgI loM hiM f_32 := by rw [ef_32]; exact sgI.put hI 0 35 (bn_top _)
        have hF : sgK WkX12_chairs f f_32 := sgK.put hF ef_32 (by rfl)
        refine lv_aload_n hx hb dX12_chairs_182 rfl (lv_at hl 1 rfl) ?_
        refine lv_iconst (v := 0) hx hb dX12_chairs_183 (by decide) ?_
        refine lv_iconst (v := 0) hx hb dX12_chairs_184 (by decide) ?_
        refine lv_iload hx hb dX12_chairs_185 (lv_at hl 0 rfl) ?_
        refine lv_iload_n hx hb dX12_chairs_187 rfl (lv_at hl 3 rfl) ?_
        refine lv_bipush (v := 10) hx hb dX12_chairs_188 (by decide) ?_
        refine lv_irem hx hb dX12_chairs_190 (by decide) ?_
        refine lv_topi (fun v_33 ev_33 => ?_)
        have q_34 : v_33.toInt = x1.toInt % 10 := by rw [ev_33]; exact bn_remI (by omega) (by decide) (by decide)
        obtain ⟨v_35, ev_35⟩ : ∃ z : Int32, z = f_32 0 6 := ⟨_, rfl⟩
        have q_36 : 0 ≤ v_35.toInt ∧ v_35.toInt ≤ 8 := by rw [ev_35]; exact hI 0 6
        have q_37 : (f_32 0 6).toInt = v_35.toInt := (congrArg Int32.toInt (show f_32 0 6 = v_35 from ev_35.symm))
        have q_38 : (f_32 0 6).toInt = v_35.toInt := (congrArg Int32.toInt (show f_32 0 6 = v_35 from ev_35.symm))
        refine sg_callv (va_runV (As := [.int 0, .int 0, .int r_31, .int v_33]) (rest := []) ⟨hx, hb, hml, hown, hts⟩ (kX12_chairsOn_0 l D ca za h hh f_32 L Q hI 0 r_31 v_33 (by decide) (by omega) (by omega) (by have k0 : (0 : Int32).toInt = 0 := (by decide); have k1 : (0 : Int32).toInt = 0 := (by decide); omega) H.size) (cwV 4 hts (gw_V (fun _ h => List.mem_cons_of_mem _ h) mw_860 mw_861 mw_862 mw_619 mw_859) rfl rfl rfl (by decide +kernel) ⟨Nat.le_of_ble_eq_true rfl, Nat.le_of_ble_eq_true rfl⟩) (sg_preV (ci := 12) (C := RX12) (T := TX12) (N := 55) hA hK hP hS hZ 0 (by decide) rfl rfl) rfl rfl hl.1 rfl (lv_room (Nat.le_of_ble_eq_true rfl)) dX12_chairs_191 ⟨Nat.le_refl _, Nat.le_refl _⟩) hA hS (fun f_39 L_40 Q_41 H locs hq hP hS => ?_)
        obtain ⟨hI, hk_f_39, eL9, eQ9⟩ := hq
        rw [eL9, eQ9] at hP; clear eL9 eQ9
        have hF : sgK WkX12_chairs f f_39 := sgK.tr hF hk_f_39 (by decide)
        refine lv_iload_n hx hb dX12_chairs_194 rfl (lv_at hl 4 rfl) ?_
        refine lv_if_ge (tgt := 205) hx hb dX12_chairs_195 (by decide) (fun c => ?_) (fun c => ?_)
        · skip
          have c_42 : 0 ≤ x2.toInt := (by have z := bn_le c; have k1 : (0 : Int32).toInt = 0 := (by decide); omega)
          refine lv_iload hx hb dX12_chairs_205 (lv_at hl 0 rfl) ?_
          refine lv_iload_n hx hb dX12_chairs_207 rfl (lv_at hl 4 rfl) ?_
          refine sg_calli (va_runS (As := [.int r_31, .int x2]) (rest := []) ⟨hx, hb, hml, hown, hts⟩ (kX12_isIn l D ca za h hh f_39 L Q hI r_31 x2 (by omega) (by omega) H.size) (va_cwS 2 hts (gw_S (fun _ h => List.mem_cons_of_mem _ h) mw_832 mw_833 mw_619 mw_831) rfl rfl rfl (by decide +kernel) ⟨Nat.le_of_ble_eq_true rfl, Nat.le_of_ble_eq_true rfl⟩) (sg_preS hA hK hP hS hZ) rfl rfl hl.1 rfl (lv_room (Nat.le_of_ble_eq_true rfl)) dX12_chairs_208 ⟨Nat.le_refl _, Nat.le_refl _⟩) hA hS (fun r_47 f_44 L_45 Q_46 H locs hq hP hS => ?_)
          obtain ⟨⟨ef9, eL9, eQ9⟩, hq⟩ := hq
          rw [ef9, eL9, eQ9] at hP; clear ef9 eL9 eQ9
          refine lv_if_eq (tgt := 223) hx hb dX12_chairs_211 (by decide) (fun c => ?_) (fun c => ?_)
          · skip
            have c_48 : r_47.toInt = 0 := (by have z := Int32.toInt_inj.mpr c; have k1 : (0 : Int32).toInt = 0 := (by decide); omega)
            refine lv_bipush (v := (-2)) hx hb dX12_chairs_223 (by decide) ?_
            have k99 : ((-2) : Int32).toInt = (-2) := (by decide)
            exact hret _ _ _ _ (-2) f_39 L Q dX12_chairs_225 hP hS ⟨⟨hI, hF, rfl, rfl⟩, trivial⟩
          · skip
            have c_49 : r_47.toInt ≠ 0 := (by have z := bn_ne c; have k1 : (0 : Int32).toInt = 0 := (by decide); omega)
            refine lv_aload_n hx hb dX12_chairs_214 rfl (lv_at hl 1 rfl) ?_
            refine sg_get (ci := 12) (v := .ref (h 16)) (C := RX12) (T := TX12) (N := 55) hx hb hts (fun w h => List.mem_cons_of_mem _ (gx_12 w h)) hown hK hP 0 (by decide) rfl rfl 34 (by decide) (hts _ (List.mem_cons_of_mem _ mw_863)) (fun _ h9 => h9) rfl dX12_chairs_215 ?_
            refine lv_iload_n hx hb dX12_chairs_218 rfl (lv_at hl 4 rfl) ?_
            refine sg_iald hx hb hK hP 16 (by decide) 0 rfl rfl (i := x2) (vp_in_iff.mpr ⟨by omega, by omega⟩) dX12_chairs_219 ?_
            refine lv_topi (fun v_50 ev_50 => ?_)
            have q_51 : 0 ≤ v_50.toInt ∧ v_50.toInt ≤ 7 := by rw [ev_50]; exact hI 16 _
            refine lv_goto (tgt := 225) hx hb dX12_chairs_220 (by decide) ?_
            exact hret _ _ _ _ (v_50) f_39 L Q dX12_chairs_225 hP hS ⟨⟨hI, hF, rfl, rfl⟩, trivial⟩
        · skip
          have c_43 : x2.toInt < 0 := (by have z := bn_nle c; have k1 : (0 : Int32).toInt = 0 := (by decide); omega)
          refine lv_aload_n hx hb dX12_chairs_198 rfl (lv_at hl 1 rfl) ?_
          refine sg_get (ci := 12) (v := .int (f_39 0 35)) (C := RX12) (T := TX12) (N := 55) hx hb hts (fun w h => List.mem_cons_of_mem _ (gx_12 w h)) hown hK hP 0 (by decide) rfl rfl 35 (by decide) (hts _ (List.mem_cons_of_mem _ mw_816)) (fun _ h9 => h9) rfl dX12_chairs_199 ?_
          refine lv_topi (fun v_52 ev_52 => ?_)
          refine lv_goto (tgt := 225) hx hb dX12_chairs_202 (by decide) ?_
          exact hret _ _ _ _ (v_52) f_39 L Q dX12_chairs_225 hP hS ⟨⟨hI, hF, rfl, rfl⟩, trivial⟩
      · skip
        have c_27 : y4_96.toInt < r_25.toInt := (by have z := bn_nle c; omega)
        refine lv_aload_n hx hb dX12_chairs_106 rfl (lv_at hl 0 rfl) ?_
        refine lv_iload_n hx hb dX12_chairs_107 rfl (lv_at hl 1 rfl) ?_
        refine lv_iload hx hb dX12_chairs_108 (lv_at hl 4 rfl) ?_
        refine sg_calli (va_runV (As := [.int x0, .int y4_96]) (rest := []) ⟨hx, hb, hml, hown, hts⟩ (kX12_whoSits l D ca za h hh fp_96 L Q hI x0 y4_96 (by omega) (by omega) H.size) (cwV 2 hts (gw_V (fun _ h => List.mem_cons_of_mem _ h) mw_725 mw_726 mw_727 mw_619 mw_724) rfl rfl rfl (by decide +kernel) ⟨Nat.le_of_ble_eq_true rfl, Nat.le_of_ble_eq_true rfl⟩) (sg_preV (ci := 12) (C := RX12) (T := TX12) (N := 55) hA hK hP hS hZ 0 (by decide) rfl rfl) rfl rfl hl.1 rfl (lv_room (Nat.le_of_ble_eq_true rfl)) dX12_chairs_110 ⟨Nat.le_refl _, Nat.le_refl _⟩) hA hS (fun r_56 f_53 L_54 Q_55 H locs hq hP hS => ?_)
        obtain ⟨⟨ef9, eL9, eQ9⟩, hq, u_57⟩ := hq
        rw [ef9, eL9, eQ9] at hP; clear ef9 eL9 eQ9
        refine lv_istore (lv' := [(5, .int r_56), (0, .ref (h 0)), (1, .int x0), (2, .int x1), (3, .int x2), (4, .int y4_96)]) hx hb dX12_chairs_113 hl (by decide) rfl (fun ls hl => ?_)
        refine lv_iconst (v := 0) hx hb dX12_chairs_115 (by decide) ?_
        refine lv_istore (lv' := [(6, .int 0), (5, .int r_56), (0, .ref (h 0)), (1, .int x0), (2, .int x1), (3, .int x2), (4, .int y4_96)]) hx hb dX12_chairs_116 hl (by decide) rfl (fun ls hl => ?_)
        exact loop_118 62 y4_96 r_56 0 fp_96 _ _ _ (by have kc2 : (0 : Int32).toInt = 0 := (by decide); omega) (by have kc2 : (0 : Int32).toInt = 0 := (by decide); omega) (by omega) (by omega) (by omega) (by omega) (by omega) (by decide) hI hF hP hS (lv_sub hl [2, 3, 4, 5, 6, 1, 0] rfl)
  have loop_71 : ∀ (n_71 : Nat) (y4_71 : Int32) (fp_71 : sg_F) (H : Heap) (locs : List Loc) (ls : Array Slot), 488 - y4_71.toInt < (n_71 : Int) → 0 ≤ x0.toInt ∧ x0.toInt ≤ 5 → 0 ≤ x1.toInt ∧ x1.toInt ≤ 29 → (-1) ≤ x2.toInt ∧ x2.toInt ≤ 7 → 0 ≤ y4_71.toInt ∧ y4_71.toInt ≤ 488 → sgI loM hiM fp_71 → sgK WkX12_chairs f fp_71 → va_P D vwCl (sgw 26 h (eM ca h) fp_71 L Q) H → va_S (sgA 26 h s.heap.size) s.heap H locs → lv_has ls 7 [(0, .ref (h 0)), (1, .int x0), (2, .int x1), (3, .int x2), (4, .int y4_71)] → W p l e ({ frames := 45, cells := 0, slots := 0, locals := 1032 }) s m ([.ref (h 0), .int x0, .int x1, .int x2] : List Value).toArray below meth cd H locs 0 0 Qz (F0 m 71 ls []) := by
    intro n_71
    induction n_71 with
    | zero => intro y4_71 fp_71 H locs ls hm_71 hy0_71 hy1_71 hy2_71 hy3_71 hI hF hP hS hl; exact absurd hm_71 (by omega)
    | succ n_71 ih_71 =>
      intro y4_71 fp_71 H locs ls hm_71 hy0_71 hy1_71 hy2_71 hy3_71 hI hF hP hS hl
      refine lv_iload hx hb dX12_chairs_71 (lv_at hl 4 rfl) ?_
      refine lv_sipush (v := 488) hx hb dX12_chairs_73 (by decide) ?_
      refine lv_icmp_ge (tgt := 93) hx hb dX12_chairs_76 (by decide) (fun c => ?_) (fun c => ?_)
      · skip
        have c_58 : 488 ≤ y4_71.toInt := (by have z := bn_le c; have k1 : (488 : Int32).toInt = 488 := (by decide); omega)
        refine lv_iconst (v := 0) hx hb dX12_chairs_93 (by decide) ?_
        refine lv_istore (lv' := [(4, .int 0), (0, .ref (h 0)), (1, .int x0), (2, .int x1), (3, .int x2)]) hx hb dX12_chairs_94 hl (by decide) rfl (fun ls hl => ?_)
        exact loop_96 22 0 fp_71 _ _ _ (by have kc0 : (0 : Int32).toInt = 0 := (by decide); omega) (by omega) (by omega) (by omega) (by decide) hI hF hP hS (lv_sub hl [1, 2, 3, 4, 0] rfl)
      · skip
        have c_59 : y4_71.toInt < 488 := (by have z := bn_nle c; have k1 : (488 : Int32).toInt = 488 := (by decide); omega)
        refine lv_aload_n hx hb dX12_chairs_79 rfl (lv_at hl 0 rfl) ?_
        refine sg_get (ci := 12) (v := .ref (h 14)) (C := RX12) (T := TX12) (N := 55) hx hb hts (fun w h => List.mem_cons_of_mem _ (gx_12 w h)) hown hK hP 0 (by decide) rfl rfl 32 (by decide) (hts _ (List.mem_cons_of_mem _ mw_693)) (fun _ h9 => h9) rfl dX12_chairs_80 ?_
        refine lv_iload hx hb dX12_chairs_83 (lv_at hl 4 rfl) ?_
        refine lv_iconst (v := 0) hx hb dX12_chairs_85 (by decide) ?_
        refine sg_iast hx hb hh hA hK hP hS 14 (by decide) 0 (fun _ => rfl) rfl (i := y4_71) (x := 0) (vp_in_iff.mpr ⟨by omega, by omega⟩) dX12_chairs_86 (fun f_60 H locs ef_60 hP hS => ?_)
        have hI : sgI loM hiM f_60 := by rw [ef_60]; exact sgI.put hI 14 y4_71.toNatClampNeg (bn_top _)
        have hF : sgK WkX12_chairs f f_60 := sgK.put hF ef_60 (by rfl)
        obtain ⟨v_61, ev_61⟩ : ∃ z : Int32, z = y4_71 + 1 := ⟨_, rfl⟩
        have q_62 : v_61.toInt = y4_71.toInt + 1 := by rw [ev_61]; exact (bn_addc y4_71 1 (by decide) (by omega) (by omega))
        refine lv_iinc (v := v_61) (lv' := [(4, .int v_61), (0, .ref (h 0)), (1, .int x0), (2, .int x1), (3, .int x2)]) hx hb dX12_chairs_87 hl (k := 4) rfl (by rw [ev_61]; rfl) (by decide) rfl (fun ls hl => ?_)
        refine lv_goto (tgt := 71) hx hb dX12_chairs_90 (by decide) ?_
        exact ih_71 v_61 f_60 _ _ _ (by omega) (by omega) (by omega) (by omega) (by omega) hI hF hP hS (lv_sub hl [1, 2, 3, 4, 0] rfl)
  have blk_54 : ∀ (fp_54 : sg_F) (H : Heap) (locs : List Loc) (ls : Array Slot), 0 ≤ x0.toInt ∧ x0.toInt ≤ 5 → 0 ≤ x1.toInt ∧ x1.toInt ≤ 29 → (-1) ≤ x2.toInt ∧ x2.toInt ≤ 7 → sgI loM hiM fp_54 → sgK WkX12_chairs f fp_54 → va_P D vwCl (sgw 26 h (eM ca h) fp_54 L Q) H → va_S (sgA 26 h s.heap.size) s.heap H locs → lv_has ls 7 [(0, .ref (h 0)), (1, .int x0), (2, .int x1), (3, .int x2)] → W p l e ({ frames := 45, cells := 0, slots := 0, locals := 1032 }) s m ([.ref (h 0), .int x0, .int x1, .int x2] : List Value).toArray below meth cd H locs 0 0 Qz (F0 m 54 ls []) := by
    intro fp_54 H locs ls hy0_54 hy1_54 hy2_54 hI hF hP hS hl
    refine lv_aload_n hx hb dX12_chairs_54 rfl (lv_at hl 0 rfl) ?_
    refine lv_iload_n hx hb dX12_chairs_55 rfl (lv_at hl 1 rfl) ?_
    refine sg_calli (va_runV (As := [.int x0]) (rest := []) ⟨hx, hb, hml, hown, hts⟩ (kX12_bytesIs l D ca za h hh fp_54 L Q hI x0 H.size) (cwV 1 hts (gw_V (fun _ h => List.mem_cons_of_mem _ h) mw_685 mw_686 mw_687 mw_619 mw_684) rfl rfl rfl (by decide +kernel) ⟨Nat.le_of_ble_eq_true rfl, Nat.le_of_ble_eq_true rfl⟩) (sg_preV (ci := 12) (C := RX12) (T := TX12) (N := 55) hA hK hP hS hZ 0 (by decide) rfl rfl) rfl rfl hl.1 rfl (lv_room (Nat.le_of_ble_eq_true rfl)) dX12_chairs_56 ⟨Nat.le_refl _, Nat.le_refl _⟩) hA hS (fun r_66 f_63 L_64 Q_65 H locs hq hP hS => ?_)
    obtain ⟨⟨ef9, eL9, eQ9⟩, hq⟩ := hq
    rw [ef9, eL9, eQ9] at hP; clear ef9 eL9 eQ9
    rcases hq with ⟨rfl, hq⟩ | hq | ⟨rfl, hq⟩
    · skip
      have q_67 := hq
      refine lv_if_ge (tgt := 68) hx hb dX12_chairs_59 (by decide) (fun c => ?_) (fun c => absurd c (by decide))
      refine lv_iconst (v := 0) hx hb dX12_chairs_68 (by decide) ?_
      refine lv_istore (lv' := [(4, .int 0), (0, .ref (h 0)), (1, .int x0), (2, .int x1), (3, .int x2)]) hx hb dX12_chairs_69 hl (by decide) rfl (fun ls hl => ?_)
      exact loop_71 489 0 fp_54 _ _ _ (by have kc0 : (0 : Int32).toInt = 0 := (by decide); omega) (by omega) (by omega) (by omega) (by decide) hI hF hP hS (lv_sub hl [1, 2, 3, 4, 0] rfl)
    · skip
      have q_68 := hq
      refine lv_if_ge (tgt := 68) hx hb dX12_chairs_59 (by decide) (fun c => ?_) (fun c => ?_)
      · skip
        exfalso; have c_69 : 0 ≤ r_66.toInt := (by have z := bn_le c; have k1 : (0 : Int32).toInt = 0 := (by decide); omega); omega
      · skip
        have c_70 : r_66.toInt < 0 := (by have z := bn_nle c; have k1 : (0 : Int32).toInt = 0 := (by decide); omega)
        refine lv_aload_n hx hb dX12_chairs_62 rfl (lv_at hl 0 rfl) ?_
        refine lv_iload_n hx hb dX12_chairs_63 rfl (lv_at hl 1 rfl) ?_
        refine sg_calli (va_runV (As := [.int x0]) (rest := []) ⟨hx, hb, hml, hown, hts⟩ (kX12_bytesIs l D ca za h hh fp_54 L Q hI x0 H.size) (cwV 1 hts (gw_V (fun _ h => List.mem_cons_of_mem _ h) mw_685 mw_686 mw_687 mw_619 mw_684) rfl rfl rfl (by decide +kernel) ⟨Nat.le_of_ble_eq_true rfl, Nat.le_of_ble_eq_true rfl⟩) (sg_preV (ci := 12) (C := RX12) (T := TX12) (N := 55) hA hK hP hS hZ 0 (by decide) rfl rfl) rfl rfl hl.1 rfl (lv_room (Nat.le_of_ble_eq_true rfl)) dX12_chairs_64 ⟨Nat.le_refl _, Nat.le_refl _⟩) hA hS (fun r_74 f_71 L_72 Q_73 H locs hq hP hS => ?_)
        obtain ⟨⟨ef9, eL9, eQ9⟩, hq⟩ := hq
        rw [ef9, eL9, eQ9] at hP; clear ef9 eL9 eQ9
        rcases hq with ⟨rfl, hq⟩ | hq | ⟨rfl, hq⟩
        · skip
          have q_75 := hq
          have k99 : (1 : Int32).toInt = 1 := (by decide)
          exact hret _ _ _ _ (1) fp_54 L Q dX12_chairs_67 hP hS ⟨⟨hI, hF, rfl, rfl⟩, trivial⟩
        · skip
          have q_76 := hq
          exact hret _ _ _ _ (r_74) fp_54 L Q dX12_chairs_67 hP hS ⟨⟨hI, hF, rfl, rfl⟩, trivial⟩
        · skip
          have q_77 := hq
          have k99 : ((-1) : Int32).toInt = (-1) := (by decide)
          exact hret _ _ _ _ (-1) fp_54 L Q dX12_chairs_67 hP hS ⟨⟨hI, hF, rfl, rfl⟩, trivial⟩
    · skip
      have q_78 := hq
      refine lv_if_ge (tgt := 68) hx hb dX12_chairs_59 (by decide) (fun c => absurd c (by decide)) (fun c => ?_)
      refine lv_aload_n hx hb dX12_chairs_62 rfl (lv_at hl 0 rfl) ?_
      refine lv_iload_n hx hb dX12_chairs_63 rfl (lv_at hl 1 rfl) ?_
      refine sg_calli (va_runV (As := [.int x0]) (rest := []) ⟨hx, hb, hml, hown, hts⟩ (kX12_bytesIs l D ca za h hh fp_54 L Q hI x0 H.size) (cwV 1 hts (gw_V (fun _ h => List.mem_cons_of_mem _ h) mw_685 mw_686 mw_687 mw_619 mw_684) rfl rfl rfl (by decide +kernel) ⟨Nat.le_of_ble_eq_true rfl, Nat.le_of_ble_eq_true rfl⟩) (sg_preV (ci := 12) (C := RX12) (T := TX12) (N := 55) hA hK hP hS hZ 0 (by decide) rfl rfl) rfl rfl hl.1 rfl (lv_room (Nat.le_of_ble_eq_true rfl)) dX12_chairs_64 ⟨Nat.le_refl _, Nat.le_refl _⟩) hA hS (fun r_82 f_79 L_80 Q_81 H locs hq hP hS => ?_)
      obtain ⟨⟨ef9, eL9, eQ9⟩, hq⟩ := hq
      rw [ef9, eL9, eQ9] at hP; clear ef9 eL9 eQ9
      rcases hq with ⟨rfl, hq⟩ | hq | ⟨rfl, hq⟩
      · skip
        have q_83 := hq
        have k99 : (1 : Int32).toInt = 1 := (by decide)
        exact hret _ _ _ _ (1) fp_54 L Q dX12_chairs_67 hP hS ⟨⟨hI, hF, rfl, rfl⟩, trivial⟩
      · skip
        have q_84 := hq
        exact hret _ _ _ _ (r_82) fp_54 L Q dX12_chairs_67 hP hS ⟨⟨hI, hF, rfl, rfl⟩, trivial⟩
      · skip
        have q_85 := hq
        have k99 : ((-1) : Int32).toInt = (-1) := (by decide)
        exact hret _ _ _ _ (-1) fp_54 L Q dX12_chairs_67 hP hS ⟨⟨hI, hF, rfl, rfl⟩, trivial⟩
  refine lv_aload_n hx hb dX12_chairs_0 rfl (lv_at hl 0 rfl) ?_
  refine lv_iload_n hx hb dX12_chairs_1 rfl (lv_at hl 1 rfl) ?_
  refine sg_calli (va_runV (As := [.int x0]) (rest := []) ⟨hx, hb, hml, hown, hts⟩ (kX12_bytesIs l D ca za h hh f L Q hI x0 H.size) (cwV 1 hts (gw_V (fun _ h => List.mem_cons_of_mem _ h) mw_685 mw_686 mw_687 mw_619 mw_684) rfl rfl rfl (by decide +kernel) ⟨Nat.le_of_ble_eq_true rfl, Nat.le_of_ble_eq_true rfl⟩) (sg_preV (ci := 12) (C := RX12) (T := TX12) (N := 55) hA hK hP hS hZ 0 (by decide) rfl rfl) rfl rfl hl.1 rfl (lv_room (Nat.le_of_ble_eq_true rfl)) dX12_chairs_2 ⟨Nat.le_refl _, Nat.le_refl _⟩) hA hS (fun r_89 f_86 L_87 Q_88 H locs hq hP hS => ?_)
  obtain ⟨⟨ef9, eL9, eQ9⟩, hq⟩ := hq
  rw [ef9, eL9, eQ9] at hP; clear ef9 eL9 eQ9
  rcases hq with ⟨rfl, hq⟩ | hq | ⟨rfl, hq⟩
  · skip
    have q_90 := hq
    refine lv_iconst (v := (-1)) hx hb dX12_chairs_5 (by decide) ?_
    refine lv_icmp_eq (tgt := 52) hx hb dX12_chairs_6 (by decide) (fun c => absurd c (by decide)) (fun c => ?_)
    refine lv_iload_n hx hb dX12_chairs_9 rfl (lv_at hl 2 rfl) ?_
    refine lv_if_lt (tgt := 52) hx hb dX12_chairs_10 (by decide) (fun c => ?_) (fun c => ?_)
    · skip
      have c_91 : x1.toInt < 0 := (by have z := bn_lt c; have k1 : (0 : Int32).toInt = 0 := (by decide); omega)
      refine lv_iconst (v := (-1)) hx hb dX12_chairs_52 (by decide) ?_
      have k99 : ((-1) : Int32).toInt = (-1) := (by decide)
      exact hret _ _ _ _ (-1) f L Q dX12_chairs_53 hP hS ⟨⟨hI, hF, rfl, rfl⟩, trivial⟩
    · skip
      have c_92 : 0 ≤ x1.toInt := (by have z := bn_nlt c; have k1 : (0 : Int32).toInt = 0 := (by decide); omega)
      refine lv_iload_n hx hb dX12_chairs_13 rfl (lv_at hl 2 rfl) ?_
      refine lv_bipush (v := 10) hx hb dX12_chairs_14 (by decide) ?_
      refine lv_idiv hx hb dX12_chairs_16 (by decide) ?_
      refine lv_topi (fun v_93 ev_93 => ?_)
      have q_94 : v_93.toInt = x1.toInt / 10 := by rw [ev_93]; exact bn_divI (by omega) (by decide) (by decide)
      refine sg_calli (va_runS (As := [.int v_93]) (rest := []) ⟨hx, hb, hml, hown, hts⟩ (kX12_isPart l D ca za h hh f L Q hI v_93 H.size) (va_cwS 1 hts (gw_S (fun _ h => List.mem_cons_of_mem _ h) mw_636 mw_637 mw_619 mw_635) rfl rfl rfl (by decide +kernel) ⟨Nat.le_of_ble_eq_true rfl, Nat.le_of_ble_eq_true rfl⟩) (sg_preS hA hK hP hS hZ) rfl rfl hl.1 rfl (lv_room (Nat.le_of_ble_eq_true rfl)) dX12_chairs_17 ⟨Nat.le_refl _, Nat.le_refl _⟩) hA hS (fun r_98 f_95 L_96 Q_97 H locs hq hP hS => ?_)
      obtain ⟨⟨ef9, eL9, eQ9⟩, hq⟩ := hq
      rw [ef9, eL9, eQ9] at hP; clear ef9 eL9 eQ9
      rcases hq with ⟨rfl, hq⟩ | ⟨rfl, hq⟩
      · skip
        have q_99 := hq
        refine lv_if_eq (tgt := 52) hx hb dX12_chairs_20 (by decide) (fun c => absurd c (by decide)) (fun c => ?_)
        refine lv_iload_n hx hb dX12_chairs_23 rfl (lv_at hl 2 rfl) ?_
        refine lv_bipush (v := 10) hx hb dX12_chairs_24 (by decide) ?_
        refine lv_irem hx hb dX12_chairs_26 (by decide) ?_
        refine lv_topi (fun v_100 ev_100 => ?_)
        have q_101 : v_100.toInt = x1.toInt % 10 := by rw [ev_100]; exact bn_remI (by omega) (by decide) (by decide)
        obtain ⟨w_102, ew_102⟩ : ∃ z : Int64, z = Int32.toInt64 v_100 := ⟨_, rfl⟩
        have q_103 : w_102.toInt = v_100.toInt := by rw [ew_102]; exact Int32.toInt_toInt64 _
        refine lv_i2l (v := w_102) hx hb dX12_chairs_27 ew_102.symm ?_
        refine lv_lconst (v := 1) hx hb dX12_chairs_28 (by decide) ?_
        refine lv_ldc2 (v := 3) hx hb hown (hts _ (List.mem_cons_of_mem _ mw_692)) dX12_chairs_29 ?_
        refine sg_calli (va_runS (As := [.long w_102, .long 1, .long 3]) (rest := []) ⟨hx, hb, hml, hown, hts⟩ (kX12_within l D ca za h hh f L Q hI w_102 1 3 H.size) (va_cwS 3 hts (gw_S (fun _ h => List.mem_cons_of_mem _ h) mw_631 mw_632 mw_619 mw_630) rfl rfl rfl (by decide +kernel) ⟨Nat.le_of_ble_eq_true rfl, Nat.le_of_ble_eq_true rfl⟩) (sg_preS hA hK hP hS hZ) rfl rfl hl.1 rfl (lv_room (Nat.le_of_ble_eq_true rfl)) dX12_chairs_32 ⟨Nat.le_refl _, Nat.le_refl _⟩) hA hS (fun r_107 f_104 L_105 Q_106 H locs hq hP hS => ?_)
        obtain ⟨⟨ef9, eL9, eQ9⟩, hq⟩ := hq
        rw [ef9, eL9, eQ9] at hP; clear ef9 eL9 eQ9
        have k_108 : (1 : Int64).toInt = 1 := by decide
        have k_109 : (3 : Int64).toInt = 3 := by decide
        rcases hq with ⟨rfl, hq⟩ | ⟨rfl, hq⟩
        · skip
          have q_110 := hq
          refine lv_if_eq (tgt := 52) hx hb dX12_chairs_35 (by decide) (fun c => absurd c (by decide)) (fun c => ?_)
          refine lv_iload_n hx hb dX12_chairs_38 rfl (lv_at hl 3 rfl) ?_
          refine lv_iconst (v := (-1)) hx hb dX12_chairs_39 (by decide) ?_
          refine lv_icmp_eq (tgt := 54) hx hb dX12_chairs_40 (by decide) (fun c => ?_) (fun c => ?_)
          · skip
            have c_111 : x2.toInt = (-1) := (by have z := Int32.toInt_inj.mpr c; have k1 : ((-1) : Int32).toInt = (-1) := (by decide); omega)
            exact blk_54 f _ _ _ (by omega) (by omega) (by omega) hI hF hP hS (lv_sub hl [0, 1, 2, 3] rfl)
          · skip
            have c_112 : x2.toInt ≠ (-1) := (by have z := bn_ne c; have k1 : ((-1) : Int32).toInt = (-1) := (by decide); omega)
            refine lv_aload_n hx hb dX12_chairs_43 rfl (lv_at hl 0 rfl) ?_
            refine lv_iload_n hx hb dX12_chairs_44 rfl (lv_at hl 3 rfl) ?_
            obtain ⟨w_113, ew_113⟩ : ∃ z : Int64, z = Int32.toInt64 x2 := ⟨_, rfl⟩
            have q_114 : w_113.toInt = x2.toInt := by rw [ew_113]; exact Int32.toInt_toInt64 _
            refine lv_i2l (v := w_113) hx hb dX12_chairs_45 ew_113.symm ?_
            obtain ⟨v_115, ev_115⟩ : ∃ z : Int32, z = f 0 6 := ⟨_, rfl⟩
            have q_116 : 0 ≤ v_115.toInt ∧ v_115.toInt ≤ 8 := by rw [ev_115]; exact hI 0 6
            have q_117 : (f 0 6).toInt = v_115.toInt := (congrArg Int32.toInt (show f 0 6 = v_115 from ev_115.symm))
            have q_118 : (f 0 6).toInt = v_115.toInt := (congrArg Int32.toInt (show f 0 6 = v_115 from ev_115.symm))
            refine sg_calli (va_runV (As := [.long w_113]) (rest := []) ⟨hx, hb, hml, hown, hts⟩ (kX12_isSitter l D ca za h hh f L Q hI w_113 H.size) (cwV 1 hts (gw_V (fun _ h => List.mem_cons_of_mem _ h) mw_663 mw_664 mw_665 mw_619 mw_662) rfl rfl rfl (by decide +kernel) ⟨Nat.le_of_ble_eq_true rfl, Nat.le_of_ble_eq_true rfl⟩) (sg_preV (ci := 12) (C := RX12) (T := TX12) (N := 55) hA hK hP hS hZ 0 (by decide) rfl rfl) rfl rfl hl.1 rfl (lv_room (Nat.le_of_ble_eq_true rfl)) dX12_chairs_46 ⟨Nat.le_refl _, Nat.le_refl _⟩) hA hS (fun r_122 f_119 L_120 Q_121 H locs hq hP hS => ?_)
            obtain ⟨⟨ef9, eL9, eQ9⟩, hq⟩ := hq
            rw [ef9, eL9, eQ9] at hP; clear ef9 eL9 eQ9
            rcases hq with ⟨rfl, hq⟩ | ⟨rfl, hq⟩
            · skip
              have q_123 := hq
              refine lv_if_ne (tgt := 54) hx hb dX12_chairs_49 (by decide) (fun c => ?_) (fun c => absurd c (by decide))
              exact blk_54 f _ _ _ (by omega) (by omega) (by omega) hI hF hP hS (lv_sub hl [0, 1, 2, 3] rfl)
            · skip
              have q_124 := hq
              refine lv_if_ne (tgt := 54) hx hb dX12_chairs_49 (by decide) (fun c => absurd c (by decide)) (fun c => ?_)
              refine lv_iconst (v := (-1)) hx hb dX12_chairs_52 (by decide) ?_
              have k99 : ((-1) : Int32).toInt = (-1) := (by decide)
              exact hret _ _ _ _ (-1) f L Q dX12_chairs_53 hP hS ⟨⟨hI, hF, rfl, rfl⟩, trivial⟩
        · skip
          have q_125 := hq
          refine lv_if_eq (tgt := 52) hx hb dX12_chairs_35 (by decide) (fun c => ?_) (fun c => absurd c (by decide))
          refine lv_iconst (v := (-1)) hx hb dX12_chairs_52 (by decide) ?_
          have k99 : ((-1) : Int32).toInt = (-1) := (by decide)
          exact hret _ _ _ _ (-1) f L Q dX12_chairs_53 hP hS ⟨⟨hI, hF, rfl, rfl⟩, trivial⟩
      · skip
        have q_126 := hq
        refine lv_if_eq (tgt := 52) hx hb dX12_chairs_20 (by decide) (fun c => ?_) (fun c => absurd c (by decide))
        refine lv_iconst (v := (-1)) hx hb dX12_chairs_52 (by decide) ?_
        have k99 : ((-1) : Int32).toInt = (-1) := (by decide)
        exact hret _ _ _ _ (-1) f L Q dX12_chairs_53 hP hS ⟨⟨hI, hF, rfl, rfl⟩, trivial⟩
  · skip
    have q_127 := hq
    refine lv_iconst (v := (-1)) hx hb dX12_chairs_5 (by decide) ?_
    refine lv_icmp_eq (tgt := 52) hx hb dX12_chairs_6 (by decide) (fun c => ?_) (fun c => ?_)
    · skip
      exfalso; have c_128 : r_89.toInt = (-1) := (by have z := Int32.toInt_inj.mpr c; have k1 : ((-1) : Int32).toInt = (-1) := (by decide); omega); omega
    · skip
      have c_129 : r_89.toInt ≠ (-1) := (by have z := bn_ne c; have k1 : ((-1) : Int32).toInt = (-1) := (by decide); omega)
      refine lv_iload_n hx hb dX12_chairs_9 rfl (lv_at hl 2 rfl) ?_
      refine lv_if_lt (tgt := 52) hx hb dX12_chairs_10 (by decide) (fun c => ?_) (fun c => ?_)
      · skip
        have c_130 : x1.toInt < 0 := (by have z := bn_lt c; have k1 : (0 : Int32).toInt = 0 := (by decide); omega)
        refine lv_iconst (v := (-1)) hx hb dX12_chairs_52 (by decide) ?_
        have k99 : ((-1) : Int32).toInt = (-1) := (by decide)
        exact hret _ _ _ _ (-1) f L Q dX12_chairs_53 hP hS ⟨⟨hI, hF, rfl, rfl⟩, trivial⟩
      · skip
        have c_131 : 0 ≤ x1.toInt := (by have z := bn_nlt c; have k1 : (0 : Int32).toInt = 0 := (by decide); omega)
        refine lv_iload_n hx hb dX12_chairs_13 rfl (lv_at hl 2 rfl) ?_
        refine lv_bipush (v := 10) hx hb dX12_chairs_14 (by decide) ?_
        refine lv_idiv hx hb dX12_chairs_16 (by decide) ?_
        refine lv_topi (fun v_132 ev_132 => ?_)
        have q_133 : v_132.toInt = x1.toInt / 10 := by rw [ev_132]; exact bn_divI (by omega) (by decide) (by decide)
        refine sg_calli (va_runS (As := [.int v_132]) (rest := []) ⟨hx, hb, hml, hown, hts⟩ (kX12_isPart l D ca za h hh f L Q hI v_132 H.size) (va_cwS 1 hts (gw_S (fun _ h => List.mem_cons_of_mem _ h) mw_636 mw_637 mw_619 mw_635) rfl rfl rfl (by decide +kernel) ⟨Nat.le_of_ble_eq_true rfl, Nat.le_of_ble_eq_true rfl⟩) (sg_preS hA hK hP hS hZ) rfl rfl hl.1 rfl (lv_room (Nat.le_of_ble_eq_true rfl)) dX12_chairs_17 ⟨Nat.le_refl _, Nat.le_refl _⟩) hA hS (fun r_137 f_134 L_135 Q_136 H locs hq hP hS => ?_)
        obtain ⟨⟨ef9, eL9, eQ9⟩, hq⟩ := hq
        rw [ef9, eL9, eQ9] at hP; clear ef9 eL9 eQ9
        rcases hq with ⟨rfl, hq⟩ | ⟨rfl, hq⟩
        · skip
          have q_138 := hq
          refine lv_if_eq (tgt := 52) hx hb dX12_chairs_20 (by decide) (fun c => absurd c (by decide)) (fun c => ?_)
          refine lv_iload_n hx hb dX12_chairs_23 rfl (lv_at hl 2 rfl) ?_
          refine lv_bipush (v := 10) hx hb dX12_chairs_24 (by decide) ?_
          refine lv_irem hx hb dX12_chairs_26 (by decide) ?_
          refine lv_topi (fun v_139 ev_139 => ?_)
          have q_140 : v_139.toInt = x1.toInt % 10 := by rw [ev_139]; exact bn_remI (by omega) (by decide) (by decide)
          obtain ⟨w_141, ew_141⟩ : ∃ z : Int64, z = Int32.toInt64 v_139 := ⟨_, rfl⟩
          have q_142 : w_141.toInt = v_139.toInt := by rw [ew_141]; exact Int32.toInt_toInt64 _
          refine lv_i2l (v := w_141) hx hb dX12_chairs_27 ew_141.symm ?_
          refine lv_lconst (v := 1) hx hb dX12_chairs_28 (by decide) ?_
          refine lv_ldc2 (v := 3) hx hb hown (hts _ (List.mem_cons_of_mem _ mw_692)) dX12_chairs_29 ?_
          refine sg_calli (va_runS (As := [.long w_141, .long 1, .long 3]) (rest := []) ⟨hx, hb, hml, hown, hts⟩ (kX12_within l D ca za h hh f L Q hI w_141 1 3 H.size) (va_cwS 3 hts (gw_S (fun _ h => List.mem_cons_of_mem _ h) mw_631 mw_632 mw_619 mw_630) rfl rfl rfl (by decide +kernel) ⟨Nat.le_of_ble_eq_true rfl, Nat.le_of_ble_eq_true rfl⟩) (sg_preS hA hK hP hS hZ) rfl rfl hl.1 rfl (lv_room (Nat.le_of_ble_eq_true rfl)) dX12_chairs_32 ⟨Nat.le_refl _, Nat.le_refl _⟩) hA hS (fun r_146 f_143 L_144 Q_145 H locs hq hP hS => ?_)
          obtain ⟨⟨ef9, eL9, eQ9⟩, hq⟩ := hq
          rw [ef9, eL9, eQ9] at hP; clear ef9 eL9 eQ9
          have k_147 : (1 : Int64).toInt = 1 := by decide
          have k_148 : (3 : Int64).toInt = 3 := by decide
          rcases hq with ⟨rfl, hq⟩ | ⟨rfl, hq⟩
          · skip
            have q_149 := hq
            refine lv_if_eq (tgt := 52) hx hb dX12_chairs_35 (by decide) (fun c => absurd c (by decide)) (fun c => ?_)
            refine lv_iload_n hx hb dX12_chairs_38 rfl (lv_at hl 3 rfl) ?_
            refine lv_iconst (v := (-1)) hx hb dX12_chairs_39 (by decide) ?_
            refine lv_icmp_eq (tgt := 54) hx hb dX12_chairs_40 (by decide) (fun c => ?_) (fun c => ?_)
            · skip
              have c_150 : x2.toInt = (-1) := (by have z := Int32.toInt_inj.mpr c; have k1 : ((-1) : Int32).toInt = (-1) := (by decide); omega)
              exact blk_54 f _ _ _ (by omega) (by omega) (by omega) hI hF hP hS (lv_sub hl [0, 1, 2, 3] rfl)
            · skip
              have c_151 : x2.toInt ≠ (-1) := (by have z := bn_ne c; have k1 : ((-1) : Int32).toInt = (-1) := (by decide); omega)
              refine lv_aload_n hx hb dX12_chairs_43 rfl (lv_at hl 0 rfl) ?_
              refine lv_iload_n hx hb dX12_chairs_44 rfl (lv_at hl 3 rfl) ?_
              obtain ⟨w_152, ew_152⟩ : ∃ z : Int64, z = Int32.toInt64 x2 := ⟨_, rfl⟩
              have q_153 : w_152.toInt = x2.toInt := by rw [ew_152]; exact Int32.toInt_toInt64 _
              refine lv_i2l (v := w_152) hx hb dX12_chairs_45 ew_152.symm ?_
              obtain ⟨v_154, ev_154⟩ : ∃ z : Int32, z = f 0 6 := ⟨_, rfl⟩
              have q_155 : 0 ≤ v_154.toInt ∧ v_154.toInt ≤ 8 := by rw [ev_154]; exact hI 0 6
              have q_156 : (f 0 6).toInt = v_154.toInt := (congrArg Int32.toInt (show f 0 6 = v_154 from ev_154.symm))
              have q_157 : (f 0 6).toInt = v_154.toInt := (congrArg Int32.toInt (show f 0 6 = v_154 from ev_154.symm))
              refine sg_calli (va_runV (As := [.long w_152]) (rest := []) ⟨hx, hb, hml, hown, hts⟩ (kX12_isSitter l D ca za h hh f L Q hI w_152 H.size) (cwV 1 hts (gw_V (fun _ h => List.mem_cons_of_mem _ h) mw_663 mw_664 mw_665 mw_619 mw_662) rfl rfl rfl (by decide +kernel) ⟨Nat.le_of_ble_eq_true rfl, Nat.le_of_ble_eq_true rfl⟩) (sg_preV (ci := 12) (C := RX12) (T := TX12) (N := 55) hA hK hP hS hZ 0 (by decide) rfl rfl) rfl rfl hl.1 rfl (lv_room (Nat.le_of_ble_eq_true rfl)) dX12_chairs_46 ⟨Nat.le_refl _, Nat.le_refl _⟩) hA hS (fun r_161 f_158 L_159 Q_160 H locs hq hP hS => ?_)
              obtain ⟨⟨ef9, eL9, eQ9⟩, hq⟩ := hq
              rw [ef9, eL9, eQ9] at hP; clear ef9 eL9 eQ9
              rcases hq with ⟨rfl, hq⟩ | ⟨rfl, hq⟩
              · skip
                have q_162 := hq
                refine lv_if_ne (tgt := 54) hx hb dX12_chairs_49 (by decide) (fun c => ?_) (fun c => absurd c (by decide))
                exact blk_54 f _ _ _ (by omega) (by omega) (by omega) hI hF hP hS (lv_sub hl [0, 1, 2, 3] rfl)
              · skip
                have q_163 := hq
                refine lv_if_ne (tgt := 54) hx hb dX12_chairs_49 (by decide) (fun c => absurd c (by decide)) (fun c => ?_)
                refine lv_iconst (v := (-1)) hx hb dX12_chairs_52 (by decide) ?_
                have k99 : ((-1) : Int32).toInt = (-1) := (by decide)
                exact hret _ _ _ _ (-1) f L Q dX12_chairs_53 hP hS ⟨⟨hI, hF, rfl, rfl⟩, trivial⟩
          · skip
            have q_164 := hq
            refine lv_if_eq (tgt := 52) hx hb dX12_chairs_35 (by decide) (fun c => ?_) (fun c => absurd c (by decide))
            refine lv_iconst (v := (-1)) hx hb dX12_chairs_52 (by decide) ?_
            have k99 : ((-1) : Int32).toInt = (-1) := (by decide)
            exact hret _ _ _ _ (-1) f L Q dX12_chairs_53 hP hS ⟨⟨hI, hF, rfl, rfl⟩, trivial⟩
        · skip
          have q_165 := hq
          refine lv_if_eq (tgt := 52) hx hb dX12_chairs_20 (by decide) (fun c => ?_) (fun c => absurd c (by decide))
          refine lv_iconst (v := (-1)) hx hb dX12_chairs_52 (by decide) ?_
          have k99 : ((-1) : Int32).toInt = (-1) := (by decide)
          exact hret _ _ _ _ (-1) f L Q dX12_chairs_53 hP hS ⟨⟨hI, hF, rfl, rfl⟩, trivial⟩
  · skip
    have q_166 := hq
    refine lv_iconst (v := (-1)) hx hb dX12_chairs_5 (by decide) ?_
    refine lv_icmp_eq (tgt := 52) hx hb dX12_chairs_6 (by decide) (fun c => ?_) (fun c => absurd c (by decide))
    refine lv_iconst (v := (-1)) hx hb dX12_chairs_52 (by decide) ?_
    have k99 : ((-1) : Int32).toInt = (-1) := (by decide)
    exact hret _ _ _ _ (-1) f L Q dX12_chairs_53 hP hS ⟨⟨hI, hF, rfl, rfl⟩, trivial⟩

set_option maxHeartbeats 4000000 in
set_option maxRecDepth 100000 in
theorem kX12_may1 (l : Launch) (D : va_G) (ca : Nat → ClassId) (za h : Nat → Nat) (hh : sgH 26 h) (f : sg_F) (L : sg_L) (Q : sg_Q) (hI : sgI loM hiM f) (x0 : Int32) (b0 : 0 ≤ x0.toInt ∧ x0.toInt ≤ 8) (sz : Nat) : Met l yX12_may1 gwX12_may1 { frames := 0, cells := 0, slots := 0, locals := 0 } (sgP D vwCl (tyX ca) 26 h (eM ca h) zcM za f L Q sz [.ref (h 0), .int x0]) (sgQi D vwCl 26 h (eM ca h) sz (fun r f1 L1 Q1 => ((f1 = f ∧ L1 = L ∧ Q1 = Q) ∧ (0 ≤ r.toInt ∧ r.toInt ≤ 1)))) 0 0 (sgA 26 h sz) := by
  refine sg_ofWz (cc := cX12_may1) (maxL := 2) RX12 (by decide) rfl rfl (Nat.le_of_ble_eq_true rfl) ?_
  intro p e s m below meth cd Qz ls hx hb hml hown hts hK hZ hP hS hl hret
  have hA := sgY.self (n := 26) (h := h) (sz := s.heap.size)
  have hl : lv_has ls 2 [(0, .ref (h 0)), (1, .int x0)] := hl
  obtain ⟨H, hH⟩ : ∃ z : Heap, z = s.heap := ⟨_, rfl⟩
  obtain ⟨locs, hlo⟩ : ∃ z : List Loc, z = [] := ⟨_, rfl⟩
  have hP : va_P D vwCl (sgw 26 h (eM ca h) f L Q) H := by rw [hH]; exact hP
  have hS : va_S (sgA 26 h s.heap.size) s.heap H locs := by rw [hH, hlo]; exact hS
  suffices hgo : W p l e ({ frames := 0, cells := 0, slots := 0, locals := 0 }) s m ([.ref (h 0), .int x0] : List Value).toArray below meth cd H locs 0 0 Qz (F0 m 0 ls []) by rw [hH, hlo] at hgo; exact hgo
  clear hH hlo
  refine lv_iload_n hx hb dX12_may1_0 rfl (lv_at hl 1 rfl) ?_
  refine lv_aload_n hx hb dX12_may1_1 rfl (lv_at hl 0 rfl) ?_
  refine sg_get (ci := 12) (v := .int (f 0 6)) (C := RX12) (T := TX12) (N := 55) hx hb hts (fun w h => List.mem_cons_of_mem _ (gx_12 w h)) hown hK hP 0 (by decide) rfl rfl 6 (by decide) (hts _ (List.mem_cons_of_mem _ mw_622)) (fun _ h9 => h9) rfl dX12_may1_2 ?_
  refine lv_topi (fun v_1 ev_1 => ?_)
  have q_2 : 0 ≤ v_1.toInt ∧ v_1.toInt ≤ 8 := by rw [ev_1]; exact hI 0 6
  refine lv_icmp_lt (tgt := 14) hx hb dX12_may1_5 (by decide) (fun c => ?_) (fun c => ?_)
  · skip
    have c_3 : x0.toInt < v_1.toInt := (by have z := bn_lt c; omega)
    refine lv_iconst (v := 1) hx hb dX12_may1_14 (by decide) ?_
    refine lv_goto (tgt := 19) hx hb dX12_may1_15 (by decide) ?_
    have k99 : (1 : Int32).toInt = 1 := (by decide)
    exact hret _ _ _ _ (1) f L Q dX12_may1_19 (by decide) hP hS ⟨⟨rfl, rfl, rfl⟩, (by decide)⟩
  · skip
    have c_4 : v_1.toInt ≤ x0.toInt := (by have z := bn_nlt c; omega)
    refine lv_iload_n hx hb dX12_may1_8 rfl (lv_at hl 1 rfl) ?_
    refine lv_bipush (v := 8) hx hb dX12_may1_9 (by decide) ?_
    refine lv_icmp_ne (tgt := 18) hx hb dX12_may1_11 (by decide) (fun c => ?_) (fun c => ?_)
    · skip
      have c_5 : x0.toInt ≠ 8 := (by have z := bn_ne c; have k1 : (8 : Int32).toInt = 8 := (by decide); omega)
      refine lv_iconst (v := 0) hx hb dX12_may1_18 (by decide) ?_
      have k99 : (0 : Int32).toInt = 0 := (by decide)
      exact hret _ _ _ _ (0) f L Q dX12_may1_19 (by decide) hP hS ⟨⟨rfl, rfl, rfl⟩, (by decide)⟩
    · skip
      have c_6 : x0.toInt = 8 := (by have z := Int32.toInt_inj.mpr c; have k1 : (8 : Int32).toInt = 8 := (by decide); omega)
      refine lv_iconst (v := 1) hx hb dX12_may1_14 (by decide) ?_
      refine lv_goto (tgt := 19) hx hb dX12_may1_15 (by decide) ?_
      have k99 : (1 : Int32).toInt = 1 := (by decide)
      exact hret _ _ _ _ (1) f L Q dX12_may1_19 (by decide) hP hS ⟨⟨rfl, rfl, rfl⟩, (by decide)⟩

set_option maxHeartbeats 4000000 in
set_option maxRecDepth 100000 in
theorem kX12_isSeen (l : Launch) (D : va_G) (ca : Nat → ClassId) (za h : Nat → Nat) (hh : sgH 26 h) (f : sg_F) (L : sg_L) (Q : sg_Q) (hI : sgI loM hiM f) (x0 : Int32) (x1 : Int32) (x2 : Int32) (b0 : 0 ≤ x0.toInt ∧ x0.toInt ≤ 5) (b1 : 0 ≤ x1.toInt ∧ x1.toInt ≤ 20) (b2 : 0 ≤ x2.toInt ∧ x2.toInt ≤ 60) (sz : Nat) : Met l yX12_isSeen gwX12_isSeen { frames := 0, cells := 0, slots := 0, locals := 0 } (sgP D vwCl (tyX ca) 26 h (eM ca h) zcM za f L Q sz [.ref (h 0), .int x0, .int x1, .int x2]) (sgQi D vwCl 26 h (eM ca h) sz (fun r f1 L1 Q1 => ((f1 = f ∧ L1 = L ∧ Q1 = Q) ∧ (0 ≤ r.toInt ∧ r.toInt ≤ 1)))) 0 0 (sgA 26 h sz) := by
  refine sg_ofWz (cc := cX12_isSeen) (maxL := 6) RX12 (by decide) rfl rfl (Nat.le_of_ble_eq_true rfl) ?_
  intro p e s m below meth cd Qz ls hx hb hml hown hts hK hZ hP hS hl hret
  have hA := sgY.self (n := 26) (h := h) (sz := s.heap.size)
  have hl : lv_has ls 6 [(0, .ref (h 0)), (1, .int x0), (2, .int x1), (3, .int x2)] := hl
  obtain ⟨H, hH⟩ : ∃ z : Heap, z = s.heap := ⟨_, rfl⟩
  obtain ⟨locs, hlo⟩ : ∃ z : List Loc, z = [] := ⟨_, rfl⟩
  have hP : va_P D vwCl (sgw 26 h (eM ca h) f L Q) H := by rw [hH]; exact hP
  have hS : va_S (sgA 26 h s.heap.size) s.heap H locs := by rw [hH, hlo]; exact hS
  suffices hgo : W p l e ({ frames := 0, cells := 0, slots := 0, locals := 0 }) s m ([.ref (h 0), .int x0, .int x1, .int x2] : List Value).toArray below meth cd H locs 0 0 Qz (F0 m 0 ls []) by rw [hH, hlo] at hgo; exact hgo
  clear hH hlo
  refine lv_aload_n hx hb dX12_isSeen_0 rfl (lv_at hl 0 rfl) ?_
  refine sg_get (ci := 12) (v := .ref (h 24)) (C := RX12) (T := TX12) (N := 55) hx hb hts (fun w h => List.mem_cons_of_mem _ (gx_12 w h)) hown hK hP 0 (by decide) rfl rfl 53 (by decide) (hts _ (List.mem_cons_of_mem _ mw_646)) (fun _ h9 => h9) rfl dX12_isSeen_1 ?_
  refine lv_bipush (v := 60) hx hb dX12_isSeen_4 (by decide) ?_
  refine lv_iload_n hx hb dX12_isSeen_6 rfl (lv_at hl 1 rfl) ?_
  refine lv_imul hx hb dX12_isSeen_7 ?_
  refine lv_topi (fun v_1 ev_1 => ?_)
  have q_2 : v_1.toInt = 60 * x0.toInt := by rw [ev_1]; exact bn_mulJ (by decide) (by omega) (by omega)
  refine lv_iload_n hx hb dX12_isSeen_8 rfl (lv_at hl 2 rfl) ?_
  refine lv_iadd hx hb dX12_isSeen_9 ?_
  refine lv_topi (fun v_3 ev_3 => ?_)
  have q_4 : v_3.toInt = v_1.toInt + x1.toInt := by rw [ev_3]; exact (bn_addI (by omega) (by omega)).trans (by omega)
  refine sg_lald hx hb hK hP 24 (by decide) 1 rfl rfl (i := v_3) (vp_in_iff.mpr ⟨by omega, by omega⟩) dX12_isSeen_10 ?_
  obtain ⟨w_5, ew_5⟩ : ∃ z : Int64, z = L 24 (Int32.toNatClampNeg v_3) := ⟨_, rfl⟩
  rw [← ew_5]
  refine lv_lstore (lv' := [(4, .long w_5), (0, .ref (h 0)), (1, .int x0), (2, .int x1), (3, .int x2)]) hx hb dX12_isSeen_11 hl (by decide) rfl (fun ls hl => ?_)
  refine lv_lload hx hb dX12_isSeen_13 (lv_at hl 0 rfl) ?_
  refine lv_ldc2 (v := (-1)) hx hb hown (hts _ (List.mem_cons_of_mem _ mw_782)) dX12_isSeen_15 ?_
  refine W.lcmp hx hb dX12_isSeen_18 ?_
  refine lv_topi (fun v_6 ev_6 => ?_)
  have q_7 : (v_6.toInt = -1 ∧ w_5.toInt < (-1)) ∨ (v_6.toInt = 0 ∧ w_5.toInt = (-1)) ∨ (v_6.toInt = 1 ∧ (-1) < w_5.toInt) := by rw [ev_6]; have k1 : ((-1) : Int64).toInt = (-1) := (by decide); have z := bn_lcmpI (w_5 : Int64) ((-1) : Int64); omega
  refine lv_if_eq (tgt := 30) hx hb dX12_isSeen_19 (by decide) (fun c => ?_) (fun c => ?_)
  · skip
    have c_8 : v_6.toInt = 0 := (by have z := Int32.toInt_inj.mpr c; have k1 : (0 : Int32).toInt = 0 := (by decide); omega)
    refine lv_iconst (v := 1) hx hb dX12_isSeen_30 (by decide) ?_
    refine lv_goto (tgt := 35) hx hb dX12_isSeen_31 (by decide) ?_
    have k99 : (1 : Int32).toInt = 1 := (by decide)
    exact hret _ _ _ _ (1) f L Q dX12_isSeen_35 (by decide) hP hS ⟨⟨rfl, rfl, rfl⟩, (by decide)⟩
  · skip
    have c_9 : v_6.toInt ≠ 0 := (by have z := bn_ne c; have k1 : (0 : Int32).toInt = 0 := (by decide); omega)
    refine lv_lload hx hb dX12_isSeen_22 (lv_at hl 0 rfl) ?_
    refine lv_iload_n hx hb dX12_isSeen_24 rfl (lv_at hl 4 rfl) ?_
    obtain ⟨w_10, ew_10⟩ : ∃ z : Int64, z = Int32.toInt64 x2 := ⟨_, rfl⟩
    have q_11 : w_10.toInt = x2.toInt := by rw [ew_10]; exact Int32.toInt_toInt64 _
    refine lv_i2l (v := w_10) hx hb dX12_isSeen_25 ew_10.symm ?_
    refine W.lcmp hx hb dX12_isSeen_26 ?_
    refine lv_topi (fun v_12 ev_12 => ?_)
    have q_13 : (v_12.toInt = -1 ∧ w_5.toInt < w_10.toInt) ∨ (v_12.toInt = 0 ∧ w_5.toInt = w_10.toInt) ∨ (v_12.toInt = 1 ∧ w_10.toInt < w_5.toInt) := by rw [ev_12]; exact bn_lcmpI (w_5 : Int64) (w_10 : Int64)
    refine lv_if_ne (tgt := 34) hx hb dX12_isSeen_27 (by decide) (fun c => ?_) (fun c => ?_)
    · skip
      have c_14 : v_12.toInt ≠ 0 := (by have z := bn_ne c; have k1 : (0 : Int32).toInt = 0 := (by decide); omega)
      refine lv_iconst (v := 0) hx hb dX12_isSeen_34 (by decide) ?_
      have k99 : (0 : Int32).toInt = 0 := (by decide)
      exact hret _ _ _ _ (0) f L Q dX12_isSeen_35 (by decide) hP hS ⟨⟨rfl, rfl, rfl⟩, (by decide)⟩
    · skip
      have c_15 : v_12.toInt = 0 := (by have z := Int32.toInt_inj.mpr c; have k1 : (0 : Int32).toInt = 0 := (by decide); omega)
      refine lv_iconst (v := 1) hx hb dX12_isSeen_30 (by decide) ?_
      refine lv_goto (tgt := 35) hx hb dX12_isSeen_31 (by decide) ?_
      have k99 : (1 : Int32).toInt = 1 := (by decide)
      exact hret _ _ _ _ (1) f L Q dX12_isSeen_35 (by decide) hP hS ⟨⟨rfl, rfl, rfl⟩, (by decide)⟩

set_option maxHeartbeats 4000000 in
set_option maxRecDepth 100000 in
theorem kX12_standsBy (l : Launch) (D : va_G) (ca : Nat → ClassId) (za h : Nat → Nat) (hh : sgH 26 h) (f : sg_F) (L : sg_L) (Q : sg_Q) (hI : sgI loM hiM f) (x0 : Int32) (x1 : Int32) (x2 : Int32) (b0 : 0 ≤ x0.toInt ∧ x0.toInt ≤ 2) (b1 : 0 ≤ x1.toInt ∧ x1.toInt ≤ 60) (b2 : 0 ≤ x2.toInt ∧ x2.toInt ≤ 8) (sz : Nat) : Met l yX12_standsBy gwX12_standsBy { frames := 1, cells := 0, slots := 0, locals := 23 } (sgP D vwCl (tyX ca) 26 h (eM ca h) zcM za f L Q sz [.ref (h 0), .int x0, .int x1, .int x2]) (sgQi D vwCl 26 h (eM ca h) sz (fun r f1 L1 Q1 => ((f1 = f ∧ L1 = L ∧ Q1 = Q) ∧ (0 ≤ r.toInt ∧ r.toInt ≤ 60)))) 0 0 (sgA 26 h sz) := by
  refine sg_ofWi (cc := cX12_standsBy) (maxL := 5) RX12 (by decide) rfl rfl (Nat.le_of_ble_eq_true rfl) ?_
  intro p e s m below meth cd Qz ls hx hb hml hown hts hK hZ hP hS hl hret
  have hA := sgY.self (n := 26) (h := h) (sz := s.heap.size)
  have hl : lv_has ls 5 [(0, .ref (h 0)), (1, .int x0), (2, .int x1), (3, .int x2)] := hl
  obtain ⟨H, hH⟩ : ∃ z : Heap, z = s.heap := ⟨_, rfl⟩
  obtain ⟨locs, hlo⟩ : ∃ z : List Loc, z = [] := ⟨_, rfl⟩
  have hP : va_P D vwCl (sgw 26 h (eM ca h) f L Q) H := by rw [hH]; exact hP
  have hS : va_S (sgA 26 h s.heap.size) s.heap H locs := by rw [hH, hlo]; exact hS
  suffices hgo : W p l e ({ frames := 1, cells := 0, slots := 0, locals := 23 }) s m ([.ref (h 0), .int x0, .int x1, .int x2] : List Value).toArray below meth cd H locs 0 0 Qz (F0 m 0 ls []) by rw [hH, hlo] at hgo; exact hgo
  clear hH hlo
  have blk_31 : ∀  (H : Heap) (locs : List Loc) (ls : Array Slot), va_P D vwCl (sgw 26 h (eM ca h) f L Q) H → va_S (sgA 26 h s.heap.size) s.heap H locs → lv_has ls 5 [(0, .ref (h 0)), (1, .int x0), (2, .int x1), (3, .int x2)] → W p l e ({ frames := 1, cells := 0, slots := 0, locals := 23 }) s m ([.ref (h 0), .int x0, .int x1, .int x2] : List Value).toArray below meth cd H locs 0 0 Qz (F0 m 31 ls []) := by
    intro H locs ls hP hS hl
    refine lv_iconst (v := 0) hx hb dX12_standsBy_31 (by decide) ?_
    refine lv_istore (lv' := [(4, .int 0), (0, .ref (h 0)), (1, .int x0), (2, .int x1), (3, .int x2)]) hx hb dX12_standsBy_32 hl (by decide) rfl (fun ls hl => ?_)
    refine lv_aload_n hx hb dX12_standsBy_34 rfl (lv_at hl 1 rfl) ?_
    refine lv_iload_n hx hb dX12_standsBy_35 rfl (lv_at hl 2 rfl) ?_
    refine lv_iload hx hb dX12_standsBy_36 (lv_at hl 0 rfl) ?_
    refine lv_if_eq (tgt := 50) hx hb dX12_standsBy_38 (by decide) (fun c => ?_) (fun c => absurd c (by decide))
    refine lv_iload_n hx hb dX12_standsBy_50 rfl (lv_at hl 3 rfl) ?_
    refine sg_calli (va_runV (As := [.int x0, .int x1]) (rest := []) ⟨hx, hb, hml, hown, hts⟩ (kX12_slipped l D ca za h hh f L Q hI x0 x1 (by omega) (by omega) H.size) (cwV 2 hts (gw_V (fun _ h => List.mem_cons_of_mem _ h) mw_649 mw_650 mw_651 mw_619 mw_648) rfl rfl rfl (by decide +kernel) ⟨Nat.le_of_ble_eq_true rfl, Nat.le_of_ble_eq_true rfl⟩) (sg_preV (ci := 12) (C := RX12) (T := TX12) (N := 55) hA hK hP hS hZ 0 (by decide) rfl rfl) rfl rfl hl.1 rfl (lv_room (Nat.le_of_ble_eq_true rfl)) dX12_standsBy_51 ⟨Nat.le_refl _, Nat.le_refl _⟩) hA hS (fun r_4 f_1 L_2 Q_3 H locs hq hP hS => ?_)
    obtain ⟨⟨ef9, eL9, eQ9⟩, hq⟩ := hq
    rw [ef9, eL9, eQ9] at hP; clear ef9 eL9 eQ9
    exact hret _ _ _ _ (r_4) f L Q dX12_standsBy_54 hP hS ⟨⟨rfl, rfl, rfl⟩, (by omega)⟩
  refine lv_iload_n hx hb dX12_standsBy_0 rfl (lv_at hl 3 rfl) ?_
  refine lv_bipush (v := 8) hx hb dX12_standsBy_1 (by decide) ?_
  refine lv_icmp_ge (tgt := 31) hx hb dX12_standsBy_3 (by decide) (fun c => ?_) (fun c => ?_)
  · skip
    have c_5 : 8 ≤ x2.toInt := (by have z := bn_le c; have k1 : (8 : Int32).toInt = 8 := (by decide); omega)
    exact blk_31  _ _ _ hP hS (lv_sub hl [0, 1, 2, 3] rfl)
  · skip
    have c_6 : x2.toInt < 8 := (by have z := bn_nle c; have k1 : (8 : Int32).toInt = 8 := (by decide); omega)
    refine lv_aload_n hx hb dX12_standsBy_6 rfl (lv_at hl 0 rfl) ?_
    refine lv_iload_n hx hb dX12_standsBy_7 rfl (lv_at hl 3 rfl) ?_
    refine lv_iload_n hx hb dX12_standsBy_8 rfl (lv_at hl 1 rfl) ?_
    refine sg_calli (va_runV (As := [.int x2, .int x0]) (rest := []) ⟨hx, hb, hml, hown, hts⟩ (kX12_numberOf l D ca za h hh f L Q hI x2 x0 (by omega) (by omega) H.size) (cwV 2 hts (gw_V (fun _ h => List.mem_cons_of_mem _ h) mw_720 mw_721 mw_722 mw_619 mw_719) rfl rfl rfl (by decide +kernel) ⟨Nat.le_of_ble_eq_true rfl, Nat.le_of_ble_eq_true rfl⟩) (sg_preV (ci := 12) (C := RX12) (T := TX12) (N := 55) hA hK hP hS hZ 0 (by decide) rfl rfl) rfl rfl hl.1 rfl (lv_room (Nat.le_of_ble_eq_true rfl)) dX12_standsBy_9 ⟨Nat.le_refl _, Nat.le_refl _⟩) hA hS (fun r_10 f_7 L_8 Q_9 H locs hq hP hS => ?_)
    obtain ⟨⟨ef9, eL9, eQ9⟩, hq⟩ := hq
    rw [ef9, eL9, eQ9] at hP; clear ef9 eL9 eQ9
    refine lv_iload_n hx hb dX12_standsBy_12 rfl (lv_at hl 2 rfl) ?_
    refine lv_isub hx hb dX12_standsBy_13 ?_
    refine lv_topi (fun v_11 ev_11 => ?_)
    have q_12 : v_11.toInt = r_10.toInt - x1.toInt := by rw [ev_11]; exact (bn_subI (by omega) (by omega)).trans (by omega)
    refine sg_calli (va_runS (As := [.int v_11]) (rest := []) ⟨hx, hb, hml, hown, hts⟩ (kX12_sizeOf l D ca za h hh f L Q hI v_11 (by omega) H.size) (va_cwS 1 hts (gw_S (fun _ h => List.mem_cons_of_mem _ h) mw_682 mw_683 mw_619 mw_681) rfl rfl rfl (by decide +kernel) ⟨Nat.le_of_ble_eq_true rfl, Nat.le_of_ble_eq_true rfl⟩) (sg_preS hA hK hP hS hZ) rfl rfl hl.1 rfl (lv_room (Nat.le_of_ble_eq_true rfl)) dX12_standsBy_14 ⟨Nat.le_refl _, Nat.le_refl _⟩) hA hS (fun r_16 f_13 L_14 Q_15 H locs hq hP hS => ?_)
    obtain ⟨⟨ef9, eL9, eQ9⟩, hq⟩ := hq
    rw [ef9, eL9, eQ9] at hP; clear ef9 eL9 eQ9
    refine lv_aload_n hx hb dX12_standsBy_17 rfl (lv_at hl 0 rfl) ?_
    refine lv_iload_n hx hb dX12_standsBy_18 rfl (lv_at hl 3 rfl) ?_
    refine lv_bipush (v := 6) hx hb dX12_standsBy_19 (by decide) ?_
    refine sg_calli (va_runV (As := [.int x2, .int 6]) (rest := [.int r_16]) ⟨hx, hb, hml, hown, hts⟩ (kX12_numberOf l D ca za h hh f L Q hI x2 6 (by omega) (by decide) H.size) (cwV 2 hts (gw_V (fun _ h => List.mem_cons_of_mem _ h) mw_720 mw_721 mw_722 mw_619 mw_719) rfl rfl rfl (by decide +kernel) ⟨Nat.le_of_ble_eq_true rfl, Nat.le_of_ble_eq_true rfl⟩) (sg_preV (ci := 12) (C := RX12) (T := TX12) (N := 55) hA hK hP hS hZ 0 (by decide) rfl rfl) rfl rfl hl.1 rfl (lv_room (Nat.le_of_ble_eq_true rfl)) dX12_standsBy_21 ⟨Nat.le_refl _, Nat.le_refl _⟩) hA hS (fun r_20 f_17 L_18 Q_19 H locs hq hP hS => ?_)
    obtain ⟨⟨ef9, eL9, eQ9⟩, hq⟩ := hq
    rw [ef9, eL9, eQ9] at hP; clear ef9 eL9 eQ9
    refine lv_icmp_le (tgt := 31) hx hb dX12_standsBy_24 (by decide) (fun c => ?_) (fun c => ?_)
    · skip
      have c_21 : r_16.toInt ≤ r_20.toInt := (by have z := bn_le c; omega)
      exact blk_31  _ _ _ hP hS (lv_sub hl [0, 1, 2, 3] rfl)
    · skip
      have c_22 : r_20.toInt < r_16.toInt := (by have z := bn_nle c; omega)
      refine lv_iconst (v := 1) hx hb dX12_standsBy_27 (by decide) ?_
      refine lv_goto (tgt := 32) hx hb dX12_standsBy_28 (by decide) ?_
      refine lv_istore (lv' := [(4, .int 1), (0, .ref (h 0)), (1, .int x0), (2, .int x1), (3, .int x2)]) hx hb dX12_standsBy_32 hl (by decide) rfl (fun ls hl => ?_)
      refine lv_aload_n hx hb dX12_standsBy_34 rfl (lv_at hl 1 rfl) ?_
      refine lv_iload_n hx hb dX12_standsBy_35 rfl (lv_at hl 2 rfl) ?_
      refine lv_iload hx hb dX12_standsBy_36 (lv_at hl 0 rfl) ?_
      refine lv_if_eq (tgt := 50) hx hb dX12_standsBy_38 (by decide) (fun c => absurd c (by decide)) (fun c => ?_)
      refine lv_aload_n hx hb dX12_standsBy_41 rfl (lv_at hl 1 rfl) ?_
      refine lv_iload_n hx hb dX12_standsBy_42 rfl (lv_at hl 4 rfl) ?_
      refine lv_iload_n hx hb dX12_standsBy_43 rfl (lv_at hl 2 rfl) ?_
      refine sg_calli (va_runV (As := [.int x2, .int x0]) (rest := [.int x0, .ref (h 0)]) ⟨hx, hb, hml, hown, hts⟩ (kX12_numberOf l D ca za h hh f L Q hI x2 x0 (by omega) (by omega) H.size) (cwV 2 hts (gw_V (fun _ h => List.mem_cons_of_mem _ h) mw_720 mw_721 mw_722 mw_619 mw_719) rfl rfl rfl (by decide +kernel) ⟨Nat.le_of_ble_eq_true rfl, Nat.le_of_ble_eq_true rfl⟩) (sg_preV (ci := 12) (C := RX12) (T := TX12) (N := 55) hA hK hP hS hZ 0 (by decide) rfl rfl) rfl rfl hl.1 rfl (lv_room (Nat.le_of_ble_eq_true rfl)) dX12_standsBy_44 ⟨Nat.le_refl _, Nat.le_refl _⟩) hA hS (fun r_26 f_23 L_24 Q_25 H locs hq hP hS => ?_)
      obtain ⟨⟨ef9, eL9, eQ9⟩, hq⟩ := hq
      rw [ef9, eL9, eQ9] at hP; clear ef9 eL9 eQ9
      refine lv_goto (tgt := 51) hx hb dX12_standsBy_47 (by decide) ?_
      refine sg_calli (va_runV (As := [.int x0, .int r_26]) (rest := []) ⟨hx, hb, hml, hown, hts⟩ (kX12_slipped l D ca za h hh f L Q hI x0 r_26 (by omega) (by omega) H.size) (cwV 2 hts (gw_V (fun _ h => List.mem_cons_of_mem _ h) mw_649 mw_650 mw_651 mw_619 mw_648) rfl rfl rfl (by decide +kernel) ⟨Nat.le_of_ble_eq_true rfl, Nat.le_of_ble_eq_true rfl⟩) (sg_preV (ci := 12) (C := RX12) (T := TX12) (N := 55) hA hK hP hS hZ 0 (by decide) rfl rfl) rfl rfl hl.1 rfl (lv_room (Nat.le_of_ble_eq_true rfl)) dX12_standsBy_51 ⟨Nat.le_refl _, Nat.le_refl _⟩) hA hS (fun r_30 f_27 L_28 Q_29 H locs hq hP hS => ?_)
      obtain ⟨⟨ef9, eL9, eQ9⟩, hq⟩ := hq
      rw [ef9, eL9, eQ9] at hP; clear ef9 eL9 eQ9
      exact hret _ _ _ _ (r_30) f L Q dX12_standsBy_54 hP hS ⟨⟨rfl, rfl, rfl⟩, (by omega)⟩

abbrev WkX12_who : List (Nat × Nat × Option Nat) := [(17, 17, none), (18, 18, none)]
set_option maxHeartbeats 4000000 in
set_option maxRecDepth 100000 in
theorem kX12_who (l : Launch) (D : va_G) (ca : Nat → ClassId) (za h : Nat → Nat) (hh : sgH 26 h) (f : sg_F) (L : sg_L) (Q : sg_Q) (hI : sgI loM hiM f) (x0 : Int32) (x1 : Int32) (x2 : Int32) (sz : Nat) : Met l yX12_who gwX12_who { frames := 3, cells := 0, slots := 0, locals := 66 } (sgP D vwCl (tyX ca) 26 h (eM ca h) zcM za f L Q sz [.ref (h 0), .int x0, .int x1, .int x2]) (sgQi D vwCl 26 h (eM ca h) sz (fun r f1 L1 Q1 => ((sgI loM hiM f1 ∧ sgK WkX12_who f f1 ∧ L1 = L ∧ Q1 = Q) ∧ True))) 0 0 (sgA 26 h sz) := by
  refine sg_ofWi (cc := cX12_who) (maxL := 10) RX12 (by decide) rfl rfl (Nat.le_of_ble_eq_true rfl) ?_
  intro p e s m below meth cd Qz ls hx hb hml hown hts hK hZ hP hS hl hret
  have hA := sgY.self (n := 26) (h := h) (sz := s.heap.size)
  have hl : lv_has ls 10 [(0, .ref (h 0)), (1, .int x0), (2, .int x1), (3, .int x2)] := hl
  obtain ⟨H, hH⟩ : ∃ z : Heap, z = s.heap := ⟨_, rfl⟩
  obtain ⟨locs, hlo⟩ : ∃ z : List Loc, z = [] := ⟨_, rfl⟩
  have hP : va_P D vwCl (sgw 26 h (eM ca h) f L Q) H := by rw [hH]; exact hP
  have hS : va_S (sgA 26 h s.heap.size) s.heap H locs := by rw [hH, hlo]; exact hS
  suffices hgo : W p l e ({ frames := 3, cells := 0, slots := 0, locals := 66 }) s m ([.ref (h 0), .int x0, .int x1, .int x2] : List Value).toArray below meth cd H locs 0 0 Qz (F0 m 0 ls []) by rw [hH, hlo] at hgo; exact hgo
  clear hH hlo
  have hF : sgK WkX12_who f f := sgK.rf
  have loop_409 : ∀ (n_409 : Nat) (y5_409 : Int32) (y6_409 : Int32) (fp_409 : sg_F) (H : Heap) (locs : List Loc) (ls : Array Slot), 61 - y6_409.toInt < (n_409 : Int) → 0 ≤ x0.toInt ∧ x0.toInt ≤ 5 → 0 ≤ x1.toInt ∧ x1.toInt ≤ 2 → 0 ≤ x2.toInt ∧ x2.toInt ≤ 11 → 0 ≤ y6_409.toInt ∧ y6_409.toInt ≤ 61 → sgI loM hiM fp_409 → sgK WkX12_who f fp_409 → va_P D vwCl (sgw 26 h (eM ca h) fp_409 L Q) H → va_S (sgA 26 h s.heap.size) s.heap H locs → lv_has ls 10 [(0, .ref (h 0)), (1, .int x0), (2, .int x1), (3, .int x2), (5, .int y5_409), (6, .int y6_409)] → W p l e ({ frames := 3, cells := 0, slots := 0, locals := 66 }) s m ([.ref (h 0), .int x0, .int x1, .int x2] : List Value).toArray below meth cd H locs 0 0 Qz (F0 m 409 ls []) := by
    intro n_409
    induction n_409 with
    | zero => intro y5_409 y6_409 fp_409 H locs ls hm_409 hy0_409 hy1_409 hy2_409 hy3_409 hI hF hP hS hl; exact absurd hm_409 (by omega)
    | succ n_409 ih_409 =>
      have loop_419 : ∀ (n_419 : Nat) (y5_419 : Int32) (y6_419 : Int32) (y7_419 : Int32) (fp_419 : sg_F) (H : Heap) (locs : List Loc) (ls : Array Slot), 9 - y7_419.toInt < (n_419 : Int) → 61 - y6_419.toInt < ((n_409 + 1 : Nat) : Int) → 0 ≤ x0.toInt ∧ x0.toInt ≤ 5 → 0 ≤ x1.toInt ∧ x1.toInt ≤ 2 → 0 ≤ x2.toInt ∧ x2.toInt ≤ 11 → 0 ≤ y6_419.toInt ∧ y6_419.toInt ≤ 60 → 0 ≤ y7_419.toInt ∧ y7_419.toInt ≤ 9 → sgI loM hiM fp_419 → sgK WkX12_who f fp_419 → va_P D vwCl (sgw 26 h (eM ca h) fp_419 L Q) H → va_S (sgA 26 h s.heap.size) s.heap H locs → lv_has ls 10 [(0, .ref (h 0)), (1, .int x0), (2, .int x1), (3, .int x2), (5, .int y5_419), (6, .int y6_419), (7, .int y7_419)] → W p l e ({ frames := 3, cells := 0, slots := 0, locals := 66 }) s m ([.ref (h 0), .int x0, .int x1, .int x2] : List Value).toArray below meth cd H locs 0 0 Qz (F0 m 419 ls []) := by
        intro n_419
        induction n_419 with
        | zero => intro y5_419 y6_419 y7_419 fp_419 H locs ls hm_419 hm_409 hy0_419 hy1_419 hy2_419 hy3_419 hy4_419 hI hF hP hS hl; exact absurd hm_419 (by omega)
        | succ n_419 ih_419 =>
          have blk_506 : ∀ (y5_506 : Int32) (y6_506 : Int32) (y7_506 : Int32) (fp_506 : sg_F) (H : Heap) (locs : List Loc) (ls : Array Slot), 61 - y6_506.toInt < ((n_409 + 1 : Nat) : Int) → 9 - y7_506.toInt < ((n_419 + 1 : Nat) : Int) → 0 ≤ x0.toInt ∧ x0.toInt ≤ 5 → 0 ≤ x1.toInt ∧ x1.toInt ≤ 2 → 0 ≤ x2.toInt ∧ x2.toInt ≤ 11 → 0 ≤ y6_506.toInt ∧ y6_506.toInt ≤ 60 → 0 ≤ y7_506.toInt ∧ y7_506.toInt ≤ 8 → sgI loM hiM fp_506 → sgK WkX12_who f fp_506 → va_P D vwCl (sgw 26 h (eM ca h) fp_506 L Q) H → va_S (sgA 26 h s.heap.size) s.heap H locs → lv_has ls 10 [(0, .ref (h 0)), (1, .int x0), (2, .int x1), (3, .int x2), (5, .int y5_506), (6, .int y6_506), (7, .int y7_506)] → W p l e ({ frames := 3, cells := 0, slots := 0, locals := 66 }) s m ([.ref (h 0), .int x0, .int x1, .int x2] : List Value).toArray below meth cd H locs 0 0 Qz (F0 m 506 ls []) := by
            intro y5_506 y6_506 y7_506 fp_506 H locs ls hm_409 hm_419 hy0_506 hy1_506 hy2_506 hy3_506 hy4_506 hI hF hP hS hl
            refine lv_iconst (v := 0) hx hb dX12_who_506 (by decide) ?_
            refine lv_istore (lv' := [(9, .int 0), (0, .ref (h 0)), (1, .int x0), (2, .int x1), (3, .int x2), (5, .int y5_506), (6, .int y6_506), (7, .int y7_506)]) hx hb dX12_who_507 hl (by decide) rfl (fun ls hl => ?_)
            refine lv_iload hx hb dX12_who_509 (lv_at hl 5 rfl) ?_
            refine lv_iload hx hb dX12_who_511 (lv_at hl 0 rfl) ?_
            refine lv_if_eq (tgt := 523) hx hb dX12_who_513 (by decide) (fun c => ?_) (fun c => absurd c (by decide))
            refine lv_iconst (v := 0) hx hb dX12_who_523 (by decide) ?_
            refine lv_ior hx hb dX12_who_524 ?_
            refine lv_topi (fun v_1 ev_1 => ?_)
            refine lv_istore (lv' := [(5, .int v_1), (9, .int 0), (0, .ref (h 0)), (1, .int x0), (2, .int x1), (3, .int x2), (6, .int y6_506), (7, .int y7_506)]) hx hb dX12_who_525 hl (by decide) rfl (fun ls hl => ?_)
            obtain ⟨v_2, ev_2⟩ : ∃ z : Int32, z = y7_506 + 1 := ⟨_, rfl⟩
            have q_3 : v_2.toInt = y7_506.toInt + 1 := by rw [ev_2]; exact (bn_addc y7_506 1 (by decide) (by omega) (by omega))
            refine lv_iinc (v := v_2) (lv' := [(7, .int v_2), (5, .int v_1), (9, .int 0), (0, .ref (h 0)), (1, .int x0), (2, .int x1), (3, .int x2), (6, .int y6_506)]) hx hb dX12_who_527 hl (k := 7) rfl (by rw [ev_2]; rfl) (by decide) rfl (fun ls hl => ?_)
            refine lv_goto (tgt := 419) hx hb dX12_who_530 (by decide) ?_
            exact ih_419 v_1 y6_506 v_2 fp_506 _ _ _ (by omega) (by omega) (by omega) (by omega) (by omega) (by omega) (by omega) hI hF hP hS (lv_sub hl [3, 4, 5, 6, 1, 7, 0] rfl)
          intro y5_419 y6_419 y7_419 fp_419 H locs ls hm_419 hm_409 hy0_419 hy1_419 hy2_419 hy3_419 hy4_419 hI hF hP hS hl
          refine lv_iload hx hb dX12_who_419 (lv_at hl 6 rfl) ?_
          refine lv_bipush (v := 8) hx hb dX12_who_421 (by decide) ?_
          refine lv_icmp_gt (tgt := 533) hx hb dX12_who_423 (by decide) (fun c => ?_) (fun c => ?_)
          · skip
            have c_4 : 8 < y7_419.toInt := (by have z := bn_lt c; have k1 : (8 : Int32).toInt = 8 := (by decide); omega)
            obtain ⟨v_6, ev_6⟩ : ∃ z : Int32, z = y6_419 + 1 := ⟨_, rfl⟩
            have q_7 : v_6.toInt = y6_419.toInt + 1 := by rw [ev_6]; exact (bn_addc y6_419 1 (by decide) (by omega) (by omega))
            refine lv_iinc (v := v_6) (lv' := [(6, .int v_6), (0, .ref (h 0)), (1, .int x0), (2, .int x1), (3, .int x2), (5, .int y5_419), (7, .int y7_419)]) hx hb dX12_who_533 hl (k := 5) rfl (by rw [ev_6]; rfl) (by decide) rfl (fun ls hl => ?_)
            refine lv_goto (tgt := 409) hx hb dX12_who_536 (by decide) ?_
            exact ih_409 y5_419 v_6 fp_419 _ _ _ (by omega) (by omega) (by omega) (by omega) (by omega) hI hF hP hS (lv_sub hl [1, 2, 3, 4, 5, 0] rfl)
          · skip
            have c_5 : y7_419.toInt ≤ 8 := (by have z := bn_nlt c; have k1 : (8 : Int32).toInt = 8 := (by decide); omega)
            refine lv_aload_n hx hb dX12_who_426 rfl (lv_at hl 0 rfl) ?_
            refine lv_iload hx hb dX12_who_427 (lv_at hl 6 rfl) ?_
            refine sg_calli (va_runV (As := [.int y7_419]) (rest := []) ⟨hx, hb, hml, hown, hts⟩ (kX12_may1 l D ca za h hh fp_419 L Q hI y7_419 (by omega) H.size) (cwV 1 hts (gw_V (fun _ h => List.mem_cons_of_mem _ h) mw_757 mw_758 mw_759 mw_619 mw_756) rfl rfl rfl (by decide +kernel) ⟨Nat.le_of_ble_eq_true rfl, Nat.le_of_ble_eq_true rfl⟩) (sg_preV (ci := 12) (C := RX12) (T := TX12) (N := 55) hA hK hP hS hZ 0 (by decide) rfl rfl) rfl rfl hl.1 rfl (lv_room (Nat.le_of_ble_eq_true rfl)) dX12_who_429 ⟨Nat.le_refl _, Nat.le_refl _⟩) hA hS (fun r_11 f_8 L_9 Q_10 H locs hq hP hS => ?_)
            obtain ⟨⟨ef9, eL9, eQ9⟩, hq⟩ := hq
            rw [ef9, eL9, eQ9] at hP; clear ef9 eL9 eQ9
            refine lv_if_eq (tgt := 447) hx hb dX12_who_432 (by decide) (fun c => ?_) (fun c => ?_)
            · skip
              have c_12 : r_11.toInt = 0 := (by have z := Int32.toInt_inj.mpr c; have k1 : (0 : Int32).toInt = 0 := (by decide); omega)
              refine lv_iconst (v := 0) hx hb dX12_who_447 (by decide) ?_
              refine lv_istore (lv' := [(8, .int 0), (0, .ref (h 0)), (1, .int x0), (2, .int x1), (3, .int x2), (5, .int y5_419), (6, .int y6_419), (7, .int y7_419)]) hx hb dX12_who_448 hl (by decide) rfl (fun ls hl => ?_)
              refine lv_aload_n hx hb dX12_who_450 rfl (lv_at hl 1 rfl) ?_
              refine lv_iload hx hb dX12_who_451 (lv_at hl 7 rfl) ?_
              refine sg_calli (va_runV (As := [.int y7_419]) (rest := []) ⟨hx, hb, hml, hown, hts⟩ (kX12_may1 l D ca za h hh fp_419 L Q hI y7_419 (by omega) H.size) (cwV 1 hts (gw_V (fun _ h => List.mem_cons_of_mem _ h) mw_757 mw_758 mw_759 mw_619 mw_756) rfl rfl rfl (by decide +kernel) ⟨Nat.le_of_ble_eq_true rfl, Nat.le_of_ble_eq_true rfl⟩) (sg_preV (ci := 12) (C := RX12) (T := TX12) (N := 55) hA hK hP hS hZ 0 (by decide) rfl rfl) rfl rfl hl.1 rfl (lv_room (Nat.le_of_ble_eq_true rfl)) dX12_who_453 ⟨Nat.le_refl _, Nat.le_refl _⟩) hA hS (fun r_17 f_14 L_15 Q_16 H locs hq hP hS => ?_)
              obtain ⟨⟨ef9, eL9, eQ9⟩, hq⟩ := hq
              rw [ef9, eL9, eQ9] at hP; clear ef9 eL9 eQ9
              refine lv_if_eq (tgt := 506) hx hb dX12_who_456 (by decide) (fun c => ?_) (fun c => ?_)
              · skip
                have c_18 : r_17.toInt = 0 := (by have z := Int32.toInt_inj.mpr c; have k1 : (0 : Int32).toInt = 0 := (by decide); omega)
                exact blk_506 y5_419 y6_419 y7_419 fp_419 _ _ _ (by omega) (by omega) (by omega) (by omega) (by omega) (by omega) (by omega) hI hF hP hS (lv_sub hl [1, 2, 3, 4, 5, 6, 7] rfl)
              · skip
                have c_19 : r_17.toInt ≠ 0 := (by have z := bn_ne c; have k1 : (0 : Int32).toInt = 0 := (by decide); omega)
                refine lv_aload_n hx hb dX12_who_459 rfl (lv_at hl 1 rfl) ?_
                refine sg_get (ci := 12) (v := .ref (h 17)) (C := RX12) (T := TX12) (N := 55) hx hb hts (fun w h => List.mem_cons_of_mem _ (gx_12 w h)) hown hK hP 0 (by decide) rfl rfl 36 (by decide) (hts _ (List.mem_cons_of_mem _ mw_690)) (fun _ h9 => h9) rfl dX12_who_460 ?_
                refine lv_bipush (v := 61) hx hb dX12_who_463 (by decide) ?_
                refine lv_iload_n hx hb dX12_who_465 rfl (lv_at hl 4 rfl) ?_
                refine lv_imul hx hb dX12_who_466 ?_
                refine lv_topi (fun v_20 ev_20 => ?_)
                have q_21 : v_20.toInt = 61 * x2.toInt := by rw [ev_20]; exact bn_mulJ (by decide) (by omega) (by omega)
                refine lv_iload hx hb dX12_who_467 (lv_at hl 6 rfl) ?_
                refine lv_iadd hx hb dX12_who_469 ?_
                refine lv_topi (fun v_22 ev_22 => ?_)
                have q_23 : v_22.toInt = v_20.toInt + y6_419.toInt := by rw [ev_22]; exact (bn_addI (by omega) (by omega)).trans (by omega)
                refine sg_zald hx hb hK hP 17 (by decide) 2 rfl rfl (i := v_22) (vp_in_iff.mpr ⟨by omega, by omega⟩) dX12_who_470 ?_
                refine lv_topi (fun v_24 ev_24 => ?_)
                have q_25 : 0 ≤ v_24.toInt ∧ v_24.toInt ≤ 1 := by rw [ev_24]; exact hI 17 _
                refine lv_if_eq (tgt := 506) hx hb dX12_who_471 (by decide) (fun c => ?_) (fun c => ?_)
                · skip
                  have c_26 : v_24.toInt = 0 := (by have z := Int32.toInt_inj.mpr c; have k1 : (0 : Int32).toInt = 0 := (by decide); omega)
                  exact blk_506 y5_419 y6_419 y7_419 fp_419 _ _ _ (by omega) (by omega) (by omega) (by omega) (by omega) (by omega) (by omega) hI hF hP hS (lv_sub hl [1, 2, 3, 4, 5, 6, 7] rfl)
                · skip
                  have c_27 : v_24.toInt ≠ 0 := (by have z := bn_ne c; have k1 : (0 : Int32).toInt = 0 := (by decide); omega)
                  refine lv_aload_n hx hb dX12_who_474 rfl (lv_at hl 1 rfl) ?_
                  refine lv_iload_n hx hb dX12_who_475 rfl (lv_at hl 2 rfl) ?_
                  refine lv_iload_n hx hb dX12_who_476 rfl (lv_at hl 4 rfl) ?_
                  refine lv_iload hx hb dX12_who_477 (lv_at hl 0 rfl) ?_
                  refine sg_calli (va_runV (As := [.int x0, .int x2, .int 0]) (rest := []) ⟨hx, hb, hml, hown, hts⟩ (kX12_isSeen l D ca za h hh fp_419 L Q hI x0 x2 0 (by omega) (by omega) (by decide) H.size) (cwV 3 hts (gw_V (fun _ h => List.mem_cons_of_mem _ h) mw_805 mw_806 mw_807 mw_619 mw_804) rfl rfl rfl (by decide +kernel) ⟨Nat.le_of_ble_eq_true rfl, Nat.le_of_ble_eq_true rfl⟩) (sg_preV (ci := 12) (C := RX12) (T := TX12) (N := 55) hA hK hP hS hZ 0 (by decide) rfl rfl) rfl rfl hl.1 rfl (lv_room (Nat.le_of_ble_eq_true rfl)) dX12_who_479 ⟨Nat.le_refl _, Nat.le_refl _⟩) hA hS (fun r_31 f_28 L_29 Q_30 H locs hq hP hS => ?_)
                  obtain ⟨⟨ef9, eL9, eQ9⟩, hq⟩ := hq
                  rw [ef9, eL9, eQ9] at hP; clear ef9 eL9 eQ9
                  refine lv_if_eq (tgt := 506) hx hb dX12_who_482 (by decide) (fun c => ?_) (fun c => ?_)
                  · skip
                    have c_32 : r_31.toInt = 0 := (by have z := Int32.toInt_inj.mpr c; have k1 : (0 : Int32).toInt = 0 := (by decide); omega)
                    exact blk_506 y5_419 y6_419 y7_419 fp_419 _ _ _ (by omega) (by omega) (by omega) (by omega) (by omega) (by omega) (by omega) hI hF hP hS (lv_sub hl [1, 2, 3, 4, 5, 6, 7] rfl)
                  · skip
                    have c_33 : r_31.toInt ≠ 0 := (by have z := bn_ne c; have k1 : (0 : Int32).toInt = 0 := (by decide); omega)
                    refine lv_aload_n hx hb dX12_who_485 rfl (lv_at hl 1 rfl) ?_
                    refine sg_get (ci := 12) (v := .ref (h 18)) (C := RX12) (T := TX12) (N := 55) hx hb hts (fun w h => List.mem_cons_of_mem _ (gx_12 w h)) hown hK hP 0 (by decide) rfl rfl 37 (by decide) (hts _ (List.mem_cons_of_mem _ mw_691)) (fun _ h9 => h9) rfl dX12_who_486 ?_
                    refine lv_bipush (v := 61) hx hb dX12_who_489 (by decide) ?_
                    refine lv_iload_n hx hb dX12_who_491 rfl (lv_at hl 4 rfl) ?_
                    refine lv_iconst (v := 1) hx hb dX12_who_492 (by decide) ?_
                    refine lv_iadd hx hb dX12_who_493 ?_
                    refine lv_topi (fun v_34 ev_34 => ?_)
                    have q_35 : v_34.toInt = x2.toInt + 1 := by rw [ev_34]; have k1 : (1 : Int32).toInt = 1 := (by decide); exact (bn_addI (by omega) (by omega)).trans (by omega)
                    refine lv_imul hx hb dX12_who_494 ?_
                    refine lv_topi (fun v_36 ev_36 => ?_)
                    have q_37 : v_36.toInt = 61 * v_34.toInt := by rw [ev_36]; exact bn_mulJ (by decide) (by omega) (by omega)
                    refine lv_iload hx hb dX12_who_495 (lv_at hl 0 rfl) ?_
                    refine lv_iadd hx hb dX12_who_497 ?_
                    refine W.eq (g2 := F0 m 498 ls [.int v_36, .ref (h 18)]) (by rw [Int32.add_zero]) ?_
                    refine sg_zald hx hb hK hP 18 (by decide) 2 rfl rfl (i := v_36) (vp_in_iff.mpr ⟨by omega, by omega⟩) dX12_who_498 ?_
                    refine lv_topi (fun v_38 ev_38 => ?_)
                    have q_39 : 0 ≤ v_38.toInt ∧ v_38.toInt ≤ 1 := by rw [ev_38]; exact hI 18 _
                    refine lv_if_eq (tgt := 506) hx hb dX12_who_499 (by decide) (fun c => ?_) (fun c => ?_)
                    · skip
                      have c_40 : v_38.toInt = 0 := (by have z := Int32.toInt_inj.mpr c; have k1 : (0 : Int32).toInt = 0 := (by decide); omega)
                      exact blk_506 y5_419 y6_419 y7_419 fp_419 _ _ _ (by omega) (by omega) (by omega) (by omega) (by omega) (by omega) (by omega) hI hF hP hS (lv_sub hl [1, 2, 3, 4, 5, 6, 7] rfl)
                    · skip
                      have c_41 : v_38.toInt ≠ 0 := (by have z := bn_ne c; have k1 : (0 : Int32).toInt = 0 := (by decide); omega)
                      refine lv_iconst (v := 1) hx hb dX12_who_502 (by decide) ?_
                      refine lv_goto (tgt := 507) hx hb dX12_who_503 (by decide) ?_
                      refine lv_istore (lv' := [(9, .int 1), (8, .int 0), (0, .ref (h 0)), (1, .int x0), (2, .int x1), (3, .int x2), (5, .int y5_419), (6, .int y6_419), (7, .int y7_419)]) hx hb dX12_who_507 hl (by decide) rfl (fun ls hl => ?_)
                      refine lv_iload hx hb dX12_who_509 (lv_at hl 6 rfl) ?_
                      refine lv_iload hx hb dX12_who_511 (lv_at hl 0 rfl) ?_
                      refine lv_if_eq (tgt := 523) hx hb dX12_who_513 (by decide) (fun c => absurd c (by decide)) (fun c => ?_)
                      refine lv_iconst (v := 1) hx hb dX12_who_516 (by decide) ?_
                      refine lv_iload hx hb dX12_who_517 (lv_at hl 8 rfl) ?_
                      refine lv_ishl hx hb dX12_who_519 ?_
                      refine lv_topi (fun v_42 ev_42 => ?_)
                      have q_43 : 1 ≤ v_42.toInt ∧ v_42.toInt ≤ 256 := by rw [ev_42]; have z := bn_shl1 (y := y7_419) (by omega) (by omega); omega
                      refine lv_goto (tgt := 524) hx hb dX12_who_520 (by decide) ?_
                      refine lv_ior hx hb dX12_who_524 ?_
                      refine lv_topi (fun v_44 ev_44 => ?_)
                      refine lv_istore (lv' := [(5, .int v_44), (9, .int 1), (8, .int 0), (0, .ref (h 0)), (1, .int x0), (2, .int x1), (3, .int x2), (6, .int y6_419), (7, .int y7_419)]) hx hb dX12_who_525 hl (by decide) rfl (fun ls hl => ?_)
                      obtain ⟨v_45, ev_45⟩ : ∃ z : Int32, z = y7_419 + 1 := ⟨_, rfl⟩
                      have q_46 : v_45.toInt = y7_419.toInt + 1 := by rw [ev_45]; exact (bn_addc y7_419 1 (by decide) (by omega) (by omega))
                      refine lv_iinc (v := v_45) (lv' := [(7, .int v_45), (5, .int v_44), (9, .int 1), (8, .int 0), (0, .ref (h 0)), (1, .int x0), (2, .int x1), (3, .int x2), (6, .int y6_419)]) hx hb dX12_who_527 hl (k := 8) rfl (by rw [ev_45]; rfl) (by decide) rfl (fun ls hl => ?_)
                      refine lv_goto (tgt := 419) hx hb dX12_who_530 (by decide) ?_
                      exact ih_419 v_44 y6_419 v_45 fp_419 _ _ _ (by omega) (by omega) (by omega) (by omega) (by omega) (by omega) (by omega) hI hF hP hS (lv_sub hl [4, 5, 6, 7, 1, 8, 0] rfl)
            · skip
              have c_13 : r_11.toInt ≠ 0 := (by have z := bn_ne c; have k1 : (0 : Int32).toInt = 0 := (by decide); omega)
              refine lv_aload_n hx hb dX12_who_435 rfl (lv_at hl 0 rfl) ?_
              refine lv_iload_n hx hb dX12_who_436 rfl (lv_at hl 2 rfl) ?_
              refine lv_iload hx hb dX12_who_437 (lv_at hl 5 rfl) ?_
              refine lv_iload hx hb dX12_who_439 (lv_at hl 6 rfl) ?_
              refine sg_calli (va_runV (As := [.int x1, .int y6_419, .int y7_419]) (rest := []) ⟨hx, hb, hml, hown, hts⟩ (kX12_standsBy l D ca za h hh fp_419 L Q hI x1 y6_419 y7_419 (by omega) (by omega) (by omega) H.size) (cwV 3 hts (gw_V (fun _ h => List.mem_cons_of_mem _ h) mw_809 mw_810 mw_811 mw_619 mw_808) rfl rfl rfl (by decide +kernel) ⟨Nat.le_of_ble_eq_true rfl, Nat.le_of_ble_eq_true rfl⟩) (sg_preV (ci := 12) (C := RX12) (T := TX12) (N := 55) hA hK hP hS hZ 0 (by decide) rfl rfl) rfl rfl hl.1 rfl (lv_room (Nat.le_of_ble_eq_true rfl)) dX12_who_441 ⟨Nat.le_refl _, Nat.le_refl _⟩) hA hS (fun r_50 f_47 L_48 Q_49 H locs hq hP hS => ?_)
              obtain ⟨⟨ef9, eL9, eQ9⟩, hq⟩ := hq
              rw [ef9, eL9, eQ9] at hP; clear ef9 eL9 eQ9
              refine lv_goto (tgt := 448) hx hb dX12_who_444 (by decide) ?_
              refine lv_istore (lv' := [(8, .int r_50), (0, .ref (h 0)), (1, .int x0), (2, .int x1), (3, .int x2), (5, .int y5_419), (6, .int y6_419), (7, .int y7_419)]) hx hb dX12_who_448 hl (by decide) rfl (fun ls hl => ?_)
              refine lv_aload_n hx hb dX12_who_450 rfl (lv_at hl 1 rfl) ?_
              refine lv_iload hx hb dX12_who_451 (lv_at hl 7 rfl) ?_
              refine sg_calli (va_runV (As := [.int y7_419]) (rest := []) ⟨hx, hb, hml, hown, hts⟩ (kX12_may1 l D ca za h hh fp_419 L Q hI y7_419 (by omega) H.size) (cwV 1 hts (gw_V (fun _ h => List.mem_cons_of_mem _ h) mw_757 mw_758 mw_759 mw_619 mw_756) rfl rfl rfl (by decide +kernel) ⟨Nat.le_of_ble_eq_true rfl, Nat.le_of_ble_eq_true rfl⟩) (sg_preV (ci := 12) (C := RX12) (T := TX12) (N := 55) hA hK hP hS hZ 0 (by decide) rfl rfl) rfl rfl hl.1 rfl (lv_room (Nat.le_of_ble_eq_true rfl)) dX12_who_453 ⟨Nat.le_refl _, Nat.le_refl _⟩) hA hS (fun r_54 f_51 L_52 Q_53 H locs hq hP hS => ?_)
              obtain ⟨⟨ef9, eL9, eQ9⟩, hq⟩ := hq
              rw [ef9, eL9, eQ9] at hP; clear ef9 eL9 eQ9
              refine lv_if_eq (tgt := 506) hx hb dX12_who_456 (by decide) (fun c => ?_) (fun c => ?_)
              · skip
                have c_55 : r_54.toInt = 0 := (by have z := Int32.toInt_inj.mpr c; have k1 : (0 : Int32).toInt = 0 := (by decide); omega)
                exact blk_506 y5_419 y6_419 y7_419 fp_419 _ _ _ (by omega) (by omega) (by omega) (by omega) (by omega) (by omega) (by omega) hI hF hP hS (lv_sub hl [1, 2, 3, 4, 5, 6, 7] rfl)
              · skip
                have c_56 : r_54.toInt ≠ 0 := (by have z := bn_ne c; have k1 : (0 : Int32).toInt = 0 := (by decide); omega)
                refine lv_aload_n hx hb dX12_who_459 rfl (lv_at hl 1 rfl) ?_
                refine sg_get (ci := 12) (v := .ref (h 17)) (C := RX12) (T := TX12) (N := 55) hx hb hts (fun w h => List.mem_cons_of_mem _ (gx_12 w h)) hown hK hP 0 (by decide) rfl rfl 36 (by decide) (hts _ (List.mem_cons_of_mem _ mw_690)) (fun _ h9 => h9) rfl dX12_who_460 ?_
                refine lv_bipush (v := 61) hx hb dX12_who_463 (by decide) ?_
                refine lv_iload_n hx hb dX12_who_465 rfl (lv_at hl 4 rfl) ?_
                refine lv_imul hx hb dX12_who_466 ?_
                refine lv_topi (fun v_57 ev_57 => ?_)
                have q_58 : v_57.toInt = 61 * x2.toInt := by rw [ev_57]; exact bn_mulJ (by decide) (by omega) (by omega)
                refine lv_iload hx hb dX12_who_467 (lv_at hl 6 rfl) ?_
                refine lv_iadd hx hb dX12_who_469 ?_
                refine lv_topi (fun v_59 ev_59 => ?_)
                have q_60 : v_59.toInt = v_57.toInt + y6_419.toInt := by rw [ev_59]; exact (bn_addI (by omega) (by omega)).trans (by omega)
                refine sg_zald hx hb hK hP 17 (by decide) 2 rfl rfl (i := v_59) (vp_in_iff.mpr ⟨by omega, by omega⟩) dX12_who_470 ?_
                refine lv_topi (fun v_61 ev_61 => ?_)
                have q_62 : 0 ≤ v_61.toInt ∧ v_61.toInt ≤ 1 := by rw [ev_61]; exact hI 17 _
                refine lv_if_eq (tgt := 506) hx hb dX12_who_471 (by decide) (fun c => ?_) (fun c => ?_)
                · skip
                  have c_63 : v_61.toInt = 0 := (by have z := Int32.toInt_inj.mpr c; have k1 : (0 : Int32).toInt = 0 := (by decide); omega)
                  exact blk_506 y5_419 y6_419 y7_419 fp_419 _ _ _ (by omega) (by omega) (by omega) (by omega) (by omega) (by omega) (by omega) hI hF hP hS (lv_sub hl [1, 2, 3, 4, 5, 6, 7] rfl)
                · skip
                  have c_64 : v_61.toInt ≠ 0 := (by have z := bn_ne c; have k1 : (0 : Int32).toInt = 0 := (by decide); omega)
                  refine lv_aload_n hx hb dX12_who_474 rfl (lv_at hl 1 rfl) ?_
                  refine lv_iload_n hx hb dX12_who_475 rfl (lv_at hl 2 rfl) ?_
                  refine lv_iload_n hx hb dX12_who_476 rfl (lv_at hl 4 rfl) ?_
                  refine lv_iload hx hb dX12_who_477 (lv_at hl 0 rfl) ?_
                  refine sg_calli (va_runV (As := [.int x0, .int x2, .int r_50]) (rest := []) ⟨hx, hb, hml, hown, hts⟩ (kX12_isSeen l D ca za h hh fp_419 L Q hI x0 x2 r_50 (by omega) (by omega) (by omega) H.size) (cwV 3 hts (gw_V (fun _ h => List.mem_cons_of_mem _ h) mw_805 mw_806 mw_807 mw_619 mw_804) rfl rfl rfl (by decide +kernel) ⟨Nat.le_of_ble_eq_true rfl, Nat.le_of_ble_eq_true rfl⟩) (sg_preV (ci := 12) (C := RX12) (T := TX12) (N := 55) hA hK hP hS hZ 0 (by decide) rfl rfl) rfl rfl hl.1 rfl (lv_room (Nat.le_of_ble_eq_true rfl)) dX12_who_479 ⟨Nat.le_refl _, Nat.le_refl _⟩) hA hS (fun r_68 f_65 L_66 Q_67 H locs hq hP hS => ?_)
                  obtain ⟨⟨ef9, eL9, eQ9⟩, hq⟩ := hq
                  rw [ef9, eL9, eQ9] at hP; clear ef9 eL9 eQ9
                  refine lv_if_eq (tgt := 506) hx hb dX12_who_482 (by decide) (fun c => ?_) (fun c => ?_)
                  · skip
                    have c_69 : r_68.toInt = 0 := (by have z := Int32.toInt_inj.mpr c; have k1 : (0 : Int32).toInt = 0 := (by decide); omega)
                    exact blk_506 y5_419 y6_419 y7_419 fp_419 _ _ _ (by omega) (by omega) (by omega) (by omega) (by omega) (by omega) (by omega) hI hF hP hS (lv_sub hl [1, 2, 3, 4, 5, 6, 7] rfl)
                  · skip
                    have c_70 : r_68.toInt ≠ 0 := (by have z := bn_ne c; have k1 : (0 : Int32).toInt = 0 := (by decide); omega)
                    refine lv_aload_n hx hb dX12_who_485 rfl (lv_at hl 1 rfl) ?_
                    refine sg_get (ci := 12) (v := .ref (h 18)) (C := RX12) (T := TX12) (N := 55) hx hb hts (fun w h => List.mem_cons_of_mem _ (gx_12 w h)) hown hK hP 0 (by decide) rfl rfl 37 (by decide) (hts _ (List.mem_cons_of_mem _ mw_691)) (fun _ h9 => h9) rfl dX12_who_486 ?_
                    refine lv_bipush (v := 61) hx hb dX12_who_489 (by decide) ?_
                    refine lv_iload_n hx hb dX12_who_491 rfl (lv_at hl 4 rfl) ?_
                    refine lv_iconst (v := 1) hx hb dX12_who_492 (by decide) ?_
                    refine lv_iadd hx hb dX12_who_493 ?_
                    refine lv_topi (fun v_71 ev_71 => ?_)
                    have q_72 : v_71.toInt = x2.toInt + 1 := by rw [ev_71]; have k1 : (1 : Int32).toInt = 1 := (by decide); exact (bn_addI (by omega) (by omega)).trans (by omega)
                    refine lv_imul hx hb dX12_who_494 ?_
                    refine lv_topi (fun v_73 ev_73 => ?_)
                    have q_74 : v_73.toInt = 61 * v_71.toInt := by rw [ev_73]; exact bn_mulJ (by decide) (by omega) (by omega)
                    refine lv_iload hx hb dX12_who_495 (lv_at hl 0 rfl) ?_
                    refine lv_iadd hx hb dX12_who_497 ?_
                    refine lv_topi (fun v_75 ev_75 => ?_)
                    have q_76 : v_75.toInt = v_73.toInt + r_50.toInt := by rw [ev_75]; exact (bn_addI (by omega) (by omega)).trans (by omega)
                    refine sg_zald hx hb hK hP 18 (by decide) 2 rfl rfl (i := v_75) (vp_in_iff.mpr ⟨by omega, by omega⟩) dX12_who_498 ?_
                    refine lv_topi (fun v_77 ev_77 => ?_)
                    have q_78 : 0 ≤ v_77.toInt ∧ v_77.toInt ≤ 1 := by rw [ev_77]; exact hI 18 _
                    refine lv_if_eq (tgt := 506) hx hb dX12_who_499 (by decide) (fun c => ?_) (fun c => ?_)
                    · skip
                      have c_79 : v_77.toInt = 0 := (by have z := Int32.toInt_inj.mpr c; have k1 : (0 : Int32).toInt = 0 := (by decide); omega)
                      exact blk_506 y5_419 y6_419 y7_419 fp_419 _ _ _ (by omega) (by omega) (by omega) (by omega) (by omega) (by omega) (by omega) hI hF hP hS (lv_sub hl [1, 2, 3, 4, 5, 6, 7] rfl)
                    · skip
                      have c_80 : v_77.toInt ≠ 0 := (by have z := bn_ne c; have k1 : (0 : Int32).toInt = 0 := (by decide); omega)
                      refine lv_iconst (v := 1) hx hb dX12_who_502 (by decide) ?_
                      refine lv_goto (tgt := 507) hx hb dX12_who_503 (by decide) ?_
                      refine lv_istore (lv' := [(9, .int 1), (8, .int r_50), (0, .ref (h 0)), (1, .int x0), (2, .int x1), (3, .int x2), (5, .int y5_419), (6, .int y6_419), (7, .int y7_419)]) hx hb dX12_who_507 hl (by decide) rfl (fun ls hl => ?_)
                      refine lv_iload hx hb dX12_who_509 (lv_at hl 6 rfl) ?_
                      refine lv_iload hx hb dX12_who_511 (lv_at hl 0 rfl) ?_
                      refine lv_if_eq (tgt := 523) hx hb dX12_who_513 (by decide) (fun c => absurd c (by decide)) (fun c => ?_)
                      refine lv_iconst (v := 1) hx hb dX12_who_516 (by decide) ?_
                      refine lv_iload hx hb dX12_who_517 (lv_at hl 8 rfl) ?_
                      refine lv_ishl hx hb dX12_who_519 ?_
                      refine lv_topi (fun v_81 ev_81 => ?_)
                      have q_82 : 1 ≤ v_81.toInt ∧ v_81.toInt ≤ 256 := by rw [ev_81]; have z := bn_shl1 (y := y7_419) (by omega) (by omega); omega
                      refine lv_goto (tgt := 524) hx hb dX12_who_520 (by decide) ?_
                      refine lv_ior hx hb dX12_who_524 ?_
                      refine lv_topi (fun v_83 ev_83 => ?_)
                      refine lv_istore (lv' := [(5, .int v_83), (9, .int 1), (8, .int r_50), (0, .ref (h 0)), (1, .int x0), (2, .int x1), (3, .int x2), (6, .int y6_419), (7, .int y7_419)]) hx hb dX12_who_525 hl (by decide) rfl (fun ls hl => ?_)
                      obtain ⟨v_84, ev_84⟩ : ∃ z : Int32, z = y7_419 + 1 := ⟨_, rfl⟩
                      have q_85 : v_84.toInt = y7_419.toInt + 1 := by rw [ev_84]; exact (bn_addc y7_419 1 (by decide) (by omega) (by omega))
                      refine lv_iinc (v := v_84) (lv' := [(7, .int v_84), (5, .int v_83), (9, .int 1), (8, .int r_50), (0, .ref (h 0)), (1, .int x0), (2, .int x1), (3, .int x2), (6, .int y6_419)]) hx hb dX12_who_527 hl (k := 8) rfl (by rw [ev_84]; rfl) (by decide) rfl (fun ls hl => ?_)
                      refine lv_goto (tgt := 419) hx hb dX12_who_530 (by decide) ?_
                      exact ih_419 v_83 y6_419 v_84 fp_419 _ _ _ (by omega) (by omega) (by omega) (by omega) (by omega) (by omega) (by omega) hI hF hP hS (lv_sub hl [4, 5, 6, 7, 1, 8, 0] rfl)
      intro y5_409 y6_409 fp_409 H locs ls hm_409 hy0_409 hy1_409 hy2_409 hy3_409 hI hF hP hS hl
      refine lv_iload hx hb dX12_who_409 (lv_at hl 5 rfl) ?_
      refine lv_bipush (v := 61) hx hb dX12_who_411 (by decide) ?_
      refine lv_icmp_ge (tgt := 539) hx hb dX12_who_413 (by decide) (fun c => ?_) (fun c => ?_)
      · skip
        have c_86 : 61 ≤ y6_409.toInt := (by have z := bn_le c; have k1 : (61 : Int32).toInt = 61 := (by decide); omega)
        refine lv_iload hx hb dX12_who_539 (lv_at hl 4 rfl) ?_
        exact hret _ _ _ _ (y5_409) fp_409 L Q dX12_who_541 hP hS ⟨⟨hI, hF, rfl, rfl⟩, trivial⟩
      · skip
        have c_87 : y6_409.toInt < 61 := (by have z := bn_nle c; have k1 : (61 : Int32).toInt = 61 := (by decide); omega)
        refine lv_iconst (v := 0) hx hb dX12_who_416 (by decide) ?_
        refine lv_istore (lv' := [(7, .int 0), (0, .ref (h 0)), (1, .int x0), (2, .int x1), (3, .int x2), (5, .int y5_409), (6, .int y6_409)]) hx hb dX12_who_417 hl (by decide) rfl (fun ls hl => ?_)
        exact loop_419 10 y5_409 y6_409 0 fp_409 _ _ _ (by have kc2 : (0 : Int32).toInt = 0 := (by decide); omega) (by have kc2 : (0 : Int32).toInt = 0 := (by decide); omega) (by omega) (by omega) (by omega) (by omega) (by decide) hI hF hP hS (lv_sub hl [1, 2, 3, 4, 5, 6, 0] rfl)
  have loop_276 : ∀ (n_276 : Nat) (y5_276 : Int32) (fp_276 : sg_F) (H : Heap) (locs : List Loc) (ls : Array Slot), y5_276.toInt - (-1) < (n_276 : Int) → 0 ≤ x0.toInt ∧ x0.toInt ≤ 5 → 0 ≤ x1.toInt ∧ x1.toInt ≤ 2 → 0 ≤ x2.toInt ∧ x2.toInt ≤ 11 → (-1) ≤ y5_276.toInt ∧ y5_276.toInt ≤ 11 → sgI loM hiM fp_276 → sgK WkX12_who f fp_276 → va_P D vwCl (sgw 26 h (eM ca h) fp_276 L Q) H → va_S (sgA 26 h s.heap.size) s.heap H locs → lv_has ls 10 [(0, .ref (h 0)), (1, .int x0), (2, .int x1), (3, .int x2), (5, .int y5_276)] → W p l e ({ frames := 3, cells := 0, slots := 0, locals := 66 }) s m ([.ref (h 0), .int x0, .int x1, .int x2] : List Value).toArray below meth cd H locs 0 0 Qz (F0 m 276 ls []) := by
    intro n_276
    induction n_276 with
    | zero => intro y5_276 fp_276 H locs ls hm_276 hy0_276 hy1_276 hy2_276 hy3_276 hI hF hP hS hl; exact absurd hm_276 (by omega)
    | succ n_276 ih_276 =>
      have loop_284 : ∀ (n_284 : Nat) (y5_284 : Int32) (y6_284 : Int32) (fp_284 : sg_F) (H : Heap) (locs : List Loc) (ls : Array Slot), 61 - y6_284.toInt < (n_284 : Int) → y5_284.toInt - (-1) < ((n_276 + 1 : Nat) : Int) → 0 ≤ x0.toInt ∧ x0.toInt ≤ 5 → 0 ≤ x1.toInt ∧ x1.toInt ≤ 2 → 0 ≤ x2.toInt ∧ x2.toInt ≤ 11 → 0 ≤ y5_284.toInt ∧ y5_284.toInt ≤ 11 → 0 ≤ y6_284.toInt ∧ y6_284.toInt ≤ 61 → sgI loM hiM fp_284 → sgK WkX12_who f fp_284 → va_P D vwCl (sgw 26 h (eM ca h) fp_284 L Q) H → va_S (sgA 26 h s.heap.size) s.heap H locs → lv_has ls 10 [(0, .ref (h 0)), (1, .int x0), (2, .int x1), (3, .int x2), (5, .int y5_284), (6, .int y6_284)] → W p l e ({ frames := 3, cells := 0, slots := 0, locals := 66 }) s m ([.ref (h 0), .int x0, .int x1, .int x2] : List Value).toArray below meth cd H locs 0 0 Qz (F0 m 284 ls []) := by
        intro n_284
        induction n_284 with
        | zero => intro y5_284 y6_284 fp_284 H locs ls hm_284 hm_276 hy0_284 hy1_284 hy2_284 hy3_284 hy4_284 hI hF hP hS hl; exact absurd hm_284 (by omega)
        | succ n_284 ih_284 =>
          have loop_294 : ∀ (n_294 : Nat) (y5_294 : Int32) (y6_294 : Int32) (y7_294 : Int32) (fp_294 : sg_F) (H : Heap) (locs : List Loc) (ls : Array Slot), 9 - y7_294.toInt < (n_294 : Int) → y5_294.toInt - (-1) < ((n_276 + 1 : Nat) : Int) → 61 - y6_294.toInt < ((n_284 + 1 : Nat) : Int) → 0 ≤ x0.toInt ∧ x0.toInt ≤ 5 → 0 ≤ x1.toInt ∧ x1.toInt ≤ 2 → 0 ≤ x2.toInt ∧ x2.toInt ≤ 11 → 0 ≤ y5_294.toInt ∧ y5_294.toInt ≤ 11 → 0 ≤ y6_294.toInt ∧ y6_294.toInt ≤ 60 → 0 ≤ y7_294.toInt ∧ y7_294.toInt ≤ 9 → sgI loM hiM fp_294 → sgK WkX12_who f fp_294 → va_P D vwCl (sgw 26 h (eM ca h) fp_294 L Q) H → va_S (sgA 26 h s.heap.size) s.heap H locs → lv_has ls 10 [(0, .ref (h 0)), (1, .int x0), (2, .int x1), (3, .int x2), (5, .int y5_294), (6, .int y6_294), (7, .int y7_294)] → W p l e ({ frames := 3, cells := 0, slots := 0, locals := 66 }) s m ([.ref (h 0), .int x0, .int x1, .int x2] : List Value).toArray below meth cd H locs 0 0 Qz (F0 m 294 ls []) := by
            intro n_294
            induction n_294 with
            | zero => intro y5_294 y6_294 y7_294 fp_294 H locs ls hm_294 hm_276 hm_284 hy0_294 hy1_294 hy2_294 hy3_294 hy4_294 hy5_294 hI hF hP hS hl; exact absurd hm_294 (by omega)
            | succ n_294 ih_294 =>
              intro y5_294 y6_294 y7_294 fp_294 H locs ls hm_294 hm_276 hm_284 hy0_294 hy1_294 hy2_294 hy3_294 hy4_294 hy5_294 hI hF hP hS hl
              refine lv_iload hx hb dX12_who_294 (lv_at hl 6 rfl) ?_
              refine lv_bipush (v := 8) hx hb dX12_who_296 (by decide) ?_
              refine lv_icmp_gt (tgt := 391) hx hb dX12_who_298 (by decide) (fun c => ?_) (fun c => ?_)
              · skip
                have c_88 : 8 < y7_294.toInt := (by have z := bn_lt c; have k1 : (8 : Int32).toInt = 8 := (by decide); omega)
                obtain ⟨v_90, ev_90⟩ : ∃ z : Int32, z = y6_294 + 1 := ⟨_, rfl⟩
                have q_91 : v_90.toInt = y6_294.toInt + 1 := by rw [ev_90]; exact (bn_addc y6_294 1 (by decide) (by omega) (by omega))
                refine lv_iinc (v := v_90) (lv' := [(6, .int v_90), (0, .ref (h 0)), (1, .int x0), (2, .int x1), (3, .int x2), (5, .int y5_294), (7, .int y7_294)]) hx hb dX12_who_391 hl (k := 5) rfl (by rw [ev_90]; rfl) (by decide) rfl (fun ls hl => ?_)
                refine lv_goto (tgt := 284) hx hb dX12_who_394 (by decide) ?_
                exact ih_284 y5_294 v_90 fp_294 _ _ _ (by omega) (by omega) (by omega) (by omega) (by omega) (by omega) (by omega) hI hF hP hS (lv_sub hl [1, 2, 3, 4, 5, 0] rfl)
              · skip
                have c_89 : y7_294.toInt ≤ 8 := (by have z := bn_nlt c; have k1 : (8 : Int32).toInt = 8 := (by decide); omega)
                refine lv_aload_n hx hb dX12_who_301 rfl (lv_at hl 0 rfl) ?_
                refine lv_iload hx hb dX12_who_302 (lv_at hl 6 rfl) ?_
                refine sg_calli (va_runV (As := [.int y7_294]) (rest := []) ⟨hx, hb, hml, hown, hts⟩ (kX12_may1 l D ca za h hh fp_294 L Q hI y7_294 (by omega) H.size) (cwV 1 hts (gw_V (fun _ h => List.mem_cons_of_mem _ h) mw_757 mw_758 mw_759 mw_619 mw_756) rfl rfl rfl (by decide +kernel) ⟨Nat.le_of_ble_eq_true rfl, Nat.le_of_ble_eq_true rfl⟩) (sg_preV (ci := 12) (C := RX12) (T := TX12) (N := 55) hA hK hP hS hZ 0 (by decide) rfl rfl) rfl rfl hl.1 rfl (lv_room (Nat.le_of_ble_eq_true rfl)) dX12_who_304 ⟨Nat.le_refl _, Nat.le_refl _⟩) hA hS (fun r_95 f_92 L_93 Q_94 H locs hq hP hS => ?_)
                obtain ⟨⟨ef9, eL9, eQ9⟩, hq⟩ := hq
                rw [ef9, eL9, eQ9] at hP; clear ef9 eL9 eQ9
                refine lv_if_eq (tgt := 322) hx hb dX12_who_307 (by decide) (fun c => ?_) (fun c => ?_)
                · skip
                  have c_96 : r_95.toInt = 0 := (by have z := Int32.toInt_inj.mpr c; have k1 : (0 : Int32).toInt = 0 := (by decide); omega)
                  refine lv_iconst (v := 0) hx hb dX12_who_322 (by decide) ?_
                  refine lv_istore (lv' := [(8, .int 0), (0, .ref (h 0)), (1, .int x0), (2, .int x1), (3, .int x2), (5, .int y5_294), (6, .int y6_294), (7, .int y7_294)]) hx hb dX12_who_323 hl (by decide) rfl (fun ls hl => ?_)
                  refine lv_aload_n hx hb dX12_who_325 rfl (lv_at hl 1 rfl) ?_
                  refine sg_get (ci := 12) (v := .ref (h 18)) (C := RX12) (T := TX12) (N := 55) hx hb hts (fun w h => List.mem_cons_of_mem _ (gx_12 w h)) hown hK hP 0 (by decide) rfl rfl 37 (by decide) (hts _ (List.mem_cons_of_mem _ mw_691)) (fun _ h9 => h9) rfl dX12_who_326 ?_
                  refine lv_bipush (v := 61) hx hb dX12_who_329 (by decide) ?_
                  refine lv_iload hx hb dX12_who_331 (lv_at hl 5 rfl) ?_
                  refine lv_imul hx hb dX12_who_333 ?_
                  refine lv_topi (fun v_98 ev_98 => ?_)
                  have q_99 : v_98.toInt = 61 * y5_294.toInt := by rw [ev_98]; exact bn_mulJ (by decide) (by omega) (by omega)
                  refine lv_iload hx hb dX12_who_334 (lv_at hl 6 rfl) ?_
                  refine lv_iadd hx hb dX12_who_336 ?_
                  refine lv_topi (fun v_100 ev_100 => ?_)
                  have q_101 : v_100.toInt = v_98.toInt + y6_294.toInt := by rw [ev_100]; exact (bn_addI (by omega) (by omega)).trans (by omega)
                  refine lv_dup2_11 hx hb dX12_who_337 rfl rfl ?_
                  refine sg_zald hx hb hK hP 18 (by decide) 2 rfl rfl (i := v_100) (vp_in_iff.mpr ⟨by omega, by omega⟩) dX12_who_338 ?_
                  refine lv_topi (fun v_102 ev_102 => ?_)
                  have q_103 : 0 ≤ v_102.toInt ∧ v_102.toInt ≤ 1 := by rw [ev_102]; exact hI 18 _
                  refine lv_aload_n hx hb dX12_who_339 rfl (lv_at hl 1 rfl) ?_
                  refine lv_iload hx hb dX12_who_340 (lv_at hl 7 rfl) ?_
                  refine sg_calli (va_runV (As := [.int y7_294]) (rest := [.int v_102, .int v_100, .ref (h 18)]) ⟨hx, hb, hml, hown, hts⟩ (kX12_may1 l D ca za h hh fp_294 L Q hI y7_294 (by omega) H.size) (cwV 1 hts (gw_V (fun _ h => List.mem_cons_of_mem _ h) mw_757 mw_758 mw_759 mw_619 mw_756) rfl rfl rfl (by decide +kernel) ⟨Nat.le_of_ble_eq_true rfl, Nat.le_of_ble_eq_true rfl⟩) (sg_preV (ci := 12) (C := RX12) (T := TX12) (N := 55) hA hK hP hS hZ 0 (by decide) rfl rfl) rfl rfl hl.1 rfl (lv_room (Nat.le_of_ble_eq_true rfl)) dX12_who_342 ⟨Nat.le_refl _, Nat.le_refl _⟩) hA hS (fun r_107 f_104 L_105 Q_106 H locs hq hP hS => ?_)
                  obtain ⟨⟨ef9, eL9, eQ9⟩, hq⟩ := hq
                  rw [ef9, eL9, eQ9] at hP; clear ef9 eL9 eQ9
                  refine lv_if_eq (tgt := 382) hx hb dX12_who_345 (by decide) (fun c => ?_) (fun c => ?_)
                  · skip
                    have c_108 : r_107.toInt = 0 := (by have z := Int32.toInt_inj.mpr c; have k1 : (0 : Int32).toInt = 0 := (by decide); omega)
                    refine lv_iconst (v := 0) hx hb dX12_who_382 (by decide) ?_
                    refine lv_ior hx hb dX12_who_383 ?_
                    refine lv_topi (fun v_110 ev_110 => ?_)
                    have q_111 : 0 ≤ v_110.toInt ∧ v_110.toInt ≤ 1 := by rw [ev_110]; have k1 : (0 : Int32).toInt = 0 := (by decide); exact bn_or1 (x := v_102) (y := 0) (by omega) (by omega) (by omega) (by omega)
                    refine sg_zast hx hb hh hA hK hP hS 18 (by decide) 2 (fun _ => rfl) rfl (i := v_100) (x := v_110) (vp_in_iff.mpr ⟨by omega, by omega⟩) (bn_nar (by omega) (by omega)) dX12_who_384 (fun f_112 H locs ef_112 hP hS => ?_)
                    have hI : sgI loM hiM f_112 := by rw [ef_112]; exact sgI.put hI 18 v_100.toNatClampNeg (show 0 ≤ (v_110 : Int32).toInt ∧ (v_110 : Int32).toInt ≤ 1 from by omega)
                    have hF : sgK WkX12_who f f_112 := sgK.put hF ef_112 (by rfl)
                    obtain ⟨v_113, ev_113⟩ : ∃ z : Int32, z = y7_294 + 1 := ⟨_, rfl⟩
                    have q_114 : v_113.toInt = y7_294.toInt + 1 := by rw [ev_113]; exact (bn_addc y7_294 1 (by decide) (by omega) (by omega))
                    refine lv_iinc (v := v_113) (lv' := [(7, .int v_113), (8, .int 0), (0, .ref (h 0)), (1, .int x0), (2, .int x1), (3, .int x2), (5, .int y5_294), (6, .int y6_294)]) hx hb dX12_who_385 hl (k := 7) rfl (by rw [ev_113]; rfl) (by decide) rfl (fun ls hl => ?_)
                    refine lv_goto (tgt := 294) hx hb dX12_who_388 (by decide) ?_
                    exact ih_294 y5_294 y6_294 v_113 f_112 _ _ _ (by omega) (by omega) (by omega) (by omega) (by omega) (by omega) (by omega) (by omega) (by omega) hI hF hP hS (lv_sub hl [2, 3, 4, 5, 6, 7, 0] rfl)
                  · skip
                    have c_109 : r_107.toInt ≠ 0 := (by have z := bn_ne c; have k1 : (0 : Int32).toInt = 0 := (by decide); omega)
                    refine lv_aload_n hx hb dX12_who_348 rfl (lv_at hl 1 rfl) ?_
                    refine lv_iload_n hx hb dX12_who_349 rfl (lv_at hl 2 rfl) ?_
                    refine lv_iload hx hb dX12_who_350 (lv_at hl 5 rfl) ?_
                    refine lv_iload hx hb dX12_who_352 (lv_at hl 0 rfl) ?_
                    refine sg_calli (va_runV (As := [.int x0, .int y5_294, .int 0]) (rest := [.int v_102, .int v_100, .ref (h 18)]) ⟨hx, hb, hml, hown, hts⟩ (kX12_isSeen l D ca za h hh fp_294 L Q hI x0 y5_294 0 (by omega) (by omega) (by decide) H.size) (cwV 3 hts (gw_V (fun _ h => List.mem_cons_of_mem _ h) mw_805 mw_806 mw_807 mw_619 mw_804) rfl rfl rfl (by decide +kernel) ⟨Nat.le_of_ble_eq_true rfl, Nat.le_of_ble_eq_true rfl⟩) (sg_preV (ci := 12) (C := RX12) (T := TX12) (N := 55) hA hK hP hS hZ 0 (by decide) rfl rfl) rfl rfl hl.1 rfl (lv_room (Nat.le_of_ble_eq_true rfl)) dX12_who_354 ⟨Nat.le_refl _, Nat.le_refl _⟩) hA hS (fun r_118 f_115 L_116 Q_117 H locs hq hP hS => ?_)
                    obtain ⟨⟨ef9, eL9, eQ9⟩, hq⟩ := hq
                    rw [ef9, eL9, eQ9] at hP; clear ef9 eL9 eQ9
                    refine lv_if_eq (tgt := 382) hx hb dX12_who_357 (by decide) (fun c => ?_) (fun c => ?_)
                    · skip
                      have c_119 : r_118.toInt = 0 := (by have z := Int32.toInt_inj.mpr c; have k1 : (0 : Int32).toInt = 0 := (by decide); omega)
                      refine lv_iconst (v := 0) hx hb dX12_who_382 (by decide) ?_
                      refine lv_ior hx hb dX12_who_383 ?_
                      refine lv_topi (fun v_121 ev_121 => ?_)
                      have q_122 : 0 ≤ v_121.toInt ∧ v_121.toInt ≤ 1 := by rw [ev_121]; have k1 : (0 : Int32).toInt = 0 := (by decide); exact bn_or1 (x := v_102) (y := 0) (by omega) (by omega) (by omega) (by omega)
                      refine sg_zast hx hb hh hA hK hP hS 18 (by decide) 2 (fun _ => rfl) rfl (i := v_100) (x := v_121) (vp_in_iff.mpr ⟨by omega, by omega⟩) (bn_nar (by omega) (by omega)) dX12_who_384 (fun f_123 H locs ef_123 hP hS => ?_)
                      have hI : sgI loM hiM f_123 := by rw [ef_123]; exact sgI.put hI 18 v_100.toNatClampNeg (show 0 ≤ (v_121 : Int32).toInt ∧ (v_121 : Int32).toInt ≤ 1 from by omega)
                      have hF : sgK WkX12_who f f_123 := sgK.put hF ef_123 (by rfl)
                      obtain ⟨v_124, ev_124⟩ : ∃ z : Int32, z = y7_294 + 1 := ⟨_, rfl⟩
                      have q_125 : v_124.toInt = y7_294.toInt + 1 := by rw [ev_124]; exact (bn_addc y7_294 1 (by decide) (by omega) (by omega))
                      refine lv_iinc (v := v_124) (lv' := [(7, .int v_124), (8, .int 0), (0, .ref (h 0)), (1, .int x0), (2, .int x1), (3, .int x2), (5, .int y5_294), (6, .int y6_294)]) hx hb dX12_who_385 hl (k := 7) rfl (by rw [ev_124]; rfl) (by decide) rfl (fun ls hl => ?_)
                      refine lv_goto (tgt := 294) hx hb dX12_who_388 (by decide) ?_
                      exact ih_294 y5_294 y6_294 v_124 f_123 _ _ _ (by omega) (by omega) (by omega) (by omega) (by omega) (by omega) (by omega) (by omega) (by omega) hI hF hP hS (lv_sub hl [2, 3, 4, 5, 6, 7, 0] rfl)
                    · skip
                      have c_120 : r_118.toInt ≠ 0 := (by have z := bn_ne c; have k1 : (0 : Int32).toInt = 0 := (by decide); omega)
                      refine lv_aload_n hx hb dX12_who_360 rfl (lv_at hl 1 rfl) ?_
                      refine sg_get (ci := 12) (v := .ref (h 18)) (C := RX12) (T := TX12) (N := 55) hx hb hts (fun w h => List.mem_cons_of_mem _ (gx_12 w h)) hown hK hP 0 (by decide) rfl rfl 37 (by decide) (hts _ (List.mem_cons_of_mem _ mw_691)) (fun _ h9 => h9) rfl dX12_who_361 ?_
                      refine lv_bipush (v := 61) hx hb dX12_who_364 (by decide) ?_
                      refine lv_iload hx hb dX12_who_366 (lv_at hl 5 rfl) ?_
                      refine lv_iconst (v := 1) hx hb dX12_who_368 (by decide) ?_
                      refine lv_iadd hx hb dX12_who_369 ?_
                      refine lv_topi (fun v_126 ev_126 => ?_)
                      have q_127 : v_126.toInt = y5_294.toInt + 1 := by rw [ev_126]; have k1 : (1 : Int32).toInt = 1 := (by decide); exact (bn_addI (by omega) (by omega)).trans (by omega)
                      refine lv_imul hx hb dX12_who_370 ?_
                      refine lv_topi (fun v_128 ev_128 => ?_)
                      have q_129 : v_128.toInt = 61 * v_126.toInt := by rw [ev_128]; exact bn_mulJ (by decide) (by omega) (by omega)
                      refine lv_iload hx hb dX12_who_371 (lv_at hl 0 rfl) ?_
                      refine lv_iadd hx hb dX12_who_373 ?_
                      refine W.eq (g2 := F0 m 374 ls [.int v_128, .ref (h 18), .int v_102, .int v_100, .ref (h 18)]) (by rw [Int32.add_zero]) ?_
                      refine sg_zald hx hb hK hP 18 (by decide) 2 rfl rfl (i := v_128) (vp_in_iff.mpr ⟨by omega, by omega⟩) dX12_who_374 ?_
                      refine lv_topi (fun v_130 ev_130 => ?_)
                      have q_131 : 0 ≤ v_130.toInt ∧ v_130.toInt ≤ 1 := by rw [ev_130]; exact hI 18 _
                      refine lv_if_eq (tgt := 382) hx hb dX12_who_375 (by decide) (fun c => ?_) (fun c => ?_)
                      · skip
                        have c_132 : v_130.toInt = 0 := (by have z := Int32.toInt_inj.mpr c; have k1 : (0 : Int32).toInt = 0 := (by decide); omega)
                        refine lv_iconst (v := 0) hx hb dX12_who_382 (by decide) ?_
                        refine lv_ior hx hb dX12_who_383 ?_
                        refine lv_topi (fun v_134 ev_134 => ?_)
                        have q_135 : 0 ≤ v_134.toInt ∧ v_134.toInt ≤ 1 := by rw [ev_134]; have k1 : (0 : Int32).toInt = 0 := (by decide); exact bn_or1 (x := v_102) (y := 0) (by omega) (by omega) (by omega) (by omega)
                        refine sg_zast hx hb hh hA hK hP hS 18 (by decide) 2 (fun _ => rfl) rfl (i := v_100) (x := v_134) (vp_in_iff.mpr ⟨by omega, by omega⟩) (bn_nar (by omega) (by omega)) dX12_who_384 (fun f_136 H locs ef_136 hP hS => ?_)
                        have hI : sgI loM hiM f_136 := by rw [ef_136]; exact sgI.put hI 18 v_100.toNatClampNeg (show 0 ≤ (v_134 : Int32).toInt ∧ (v_134 : Int32).toInt ≤ 1 from by omega)
                        have hF : sgK WkX12_who f f_136 := sgK.put hF ef_136 (by rfl)
                        obtain ⟨v_137, ev_137⟩ : ∃ z : Int32, z = y7_294 + 1 := ⟨_, rfl⟩
                        have q_138 : v_137.toInt = y7_294.toInt + 1 := by rw [ev_137]; exact (bn_addc y7_294 1 (by decide) (by omega) (by omega))
                        refine lv_iinc (v := v_137) (lv' := [(7, .int v_137), (8, .int 0), (0, .ref (h 0)), (1, .int x0), (2, .int x1), (3, .int x2), (5, .int y5_294), (6, .int y6_294)]) hx hb dX12_who_385 hl (k := 7) rfl (by rw [ev_137]; rfl) (by decide) rfl (fun ls hl => ?_)
                        refine lv_goto (tgt := 294) hx hb dX12_who_388 (by decide) ?_
                        exact ih_294 y5_294 y6_294 v_137 f_136 _ _ _ (by omega) (by omega) (by omega) (by omega) (by omega) (by omega) (by omega) (by omega) (by omega) hI hF hP hS (lv_sub hl [2, 3, 4, 5, 6, 7, 0] rfl)
                      · skip
                        have c_133 : v_130.toInt ≠ 0 := (by have z := bn_ne c; have k1 : (0 : Int32).toInt = 0 := (by decide); omega)
                        refine lv_iconst (v := 1) hx hb dX12_who_378 (by decide) ?_
                        refine lv_goto (tgt := 383) hx hb dX12_who_379 (by decide) ?_
                        refine lv_ior hx hb dX12_who_383 ?_
                        refine lv_topi (fun v_139 ev_139 => ?_)
                        have q_140 : 0 ≤ v_139.toInt ∧ v_139.toInt ≤ 1 := by rw [ev_139]; have k1 : (1 : Int32).toInt = 1 := (by decide); exact bn_or1 (x := v_102) (y := 1) (by omega) (by omega) (by omega) (by omega)
                        refine sg_zast hx hb hh hA hK hP hS 18 (by decide) 2 (fun _ => rfl) rfl (i := v_100) (x := v_139) (vp_in_iff.mpr ⟨by omega, by omega⟩) (bn_nar (by omega) (by omega)) dX12_who_384 (fun f_141 H locs ef_141 hP hS => ?_)
                        have hI : sgI loM hiM f_141 := by rw [ef_141]; exact sgI.put hI 18 v_100.toNatClampNeg (show 0 ≤ (v_139 : Int32).toInt ∧ (v_139 : Int32).toInt ≤ 1 from by omega)
                        have hF : sgK WkX12_who f f_141 := sgK.put hF ef_141 (by rfl)
                        obtain ⟨v_142, ev_142⟩ : ∃ z : Int32, z = y7_294 + 1 := ⟨_, rfl⟩
                        have q_143 : v_142.toInt = y7_294.toInt + 1 := by rw [ev_142]; exact (bn_addc y7_294 1 (by decide) (by omega) (by omega))
                        refine lv_iinc (v := v_142) (lv' := [(7, .int v_142), (8, .int 0), (0, .ref (h 0)), (1, .int x0), (2, .int x1), (3, .int x2), (5, .int y5_294), (6, .int y6_294)]) hx hb dX12_who_385 hl (k := 7) rfl (by rw [ev_142]; rfl) (by decide) rfl (fun ls hl => ?_)
                        refine lv_goto (tgt := 294) hx hb dX12_who_388 (by decide) ?_
                        exact ih_294 y5_294 y6_294 v_142 f_141 _ _ _ (by omega) (by omega) (by omega) (by omega) (by omega) (by omega) (by omega) (by omega) (by omega) hI hF hP hS (lv_sub hl [2, 3, 4, 5, 6, 7, 0] rfl)
                · skip
                  have c_97 : r_95.toInt ≠ 0 := (by have z := bn_ne c; have k1 : (0 : Int32).toInt = 0 := (by decide); omega)
                  refine lv_aload_n hx hb dX12_who_310 rfl (lv_at hl 0 rfl) ?_
                  refine lv_iload_n hx hb dX12_who_311 rfl (lv_at hl 2 rfl) ?_
                  refine lv_iload hx hb dX12_who_312 (lv_at hl 5 rfl) ?_
                  refine lv_iload hx hb dX12_who_314 (lv_at hl 6 rfl) ?_
                  refine sg_calli (va_runV (As := [.int x1, .int y6_294, .int y7_294]) (rest := []) ⟨hx, hb, hml, hown, hts⟩ (kX12_standsBy l D ca za h hh fp_294 L Q hI x1 y6_294 y7_294 (by omega) (by omega) (by omega) H.size) (cwV 3 hts (gw_V (fun _ h => List.mem_cons_of_mem _ h) mw_809 mw_810 mw_811 mw_619 mw_808) rfl rfl rfl (by decide +kernel) ⟨Nat.le_of_ble_eq_true rfl, Nat.le_of_ble_eq_true rfl⟩) (sg_preV (ci := 12) (C := RX12) (T := TX12) (N := 55) hA hK hP hS hZ 0 (by decide) rfl rfl) rfl rfl hl.1 rfl (lv_room (Nat.le_of_ble_eq_true rfl)) dX12_who_316 ⟨Nat.le_refl _, Nat.le_refl _⟩) hA hS (fun r_147 f_144 L_145 Q_146 H locs hq hP hS => ?_)
                  obtain ⟨⟨ef9, eL9, eQ9⟩, hq⟩ := hq
                  rw [ef9, eL9, eQ9] at hP; clear ef9 eL9 eQ9
                  refine lv_goto (tgt := 323) hx hb dX12_who_319 (by decide) ?_
                  refine lv_istore (lv' := [(8, .int r_147), (0, .ref (h 0)), (1, .int x0), (2, .int x1), (3, .int x2), (5, .int y5_294), (6, .int y6_294), (7, .int y7_294)]) hx hb dX12_who_323 hl (by decide) rfl (fun ls hl => ?_)
                  refine lv_aload_n hx hb dX12_who_325 rfl (lv_at hl 1 rfl) ?_
                  refine sg_get (ci := 12) (v := .ref (h 18)) (C := RX12) (T := TX12) (N := 55) hx hb hts (fun w h => List.mem_cons_of_mem _ (gx_12 w h)) hown hK hP 0 (by decide) rfl rfl 37 (by decide) (hts _ (List.mem_cons_of_mem _ mw_691)) (fun _ h9 => h9) rfl dX12_who_326 ?_
                  refine lv_bipush (v := 61) hx hb dX12_who_329 (by decide) ?_
                  refine lv_iload hx hb dX12_who_331 (lv_at hl 5 rfl) ?_
                  refine lv_imul hx hb dX12_who_333 ?_
                  refine lv_topi (fun v_148 ev_148 => ?_)
                  have q_149 : v_148.toInt = 61 * y5_294.toInt := by rw [ev_148]; exact bn_mulJ (by decide) (by omega) (by omega)
                  refine lv_iload hx hb dX12_who_334 (lv_at hl 6 rfl) ?_
                  refine lv_iadd hx hb dX12_who_336 ?_
                  refine lv_topi (fun v_150 ev_150 => ?_)
                  have q_151 : v_150.toInt = v_148.toInt + y6_294.toInt := by rw [ev_150]; exact (bn_addI (by omega) (by omega)).trans (by omega)
                  refine lv_dup2_11 hx hb dX12_who_337 rfl rfl ?_
                  refine sg_zald hx hb hK hP 18 (by decide) 2 rfl rfl (i := v_150) (vp_in_iff.mpr ⟨by omega, by omega⟩) dX12_who_338 ?_
                  refine lv_topi (fun v_152 ev_152 => ?_)
                  have q_153 : 0 ≤ v_152.toInt ∧ v_152.toInt ≤ 1 := by rw [ev_152]; exact hI 18 _
                  refine lv_aload_n hx hb dX12_who_339 rfl (lv_at hl 1 rfl) ?_
                  refine lv_iload hx hb dX12_who_340 (lv_at hl 7 rfl) ?_
                  refine sg_calli (va_runV (As := [.int y7_294]) (rest := [.int v_152, .int v_150, .ref (h 18)]) ⟨hx, hb, hml, hown, hts⟩ (kX12_may1 l D ca za h hh fp_294 L Q hI y7_294 (by omega) H.size) (cwV 1 hts (gw_V (fun _ h => List.mem_cons_of_mem _ h) mw_757 mw_758 mw_759 mw_619 mw_756) rfl rfl rfl (by decide +kernel) ⟨Nat.le_of_ble_eq_true rfl, Nat.le_of_ble_eq_true rfl⟩) (sg_preV (ci := 12) (C := RX12) (T := TX12) (N := 55) hA hK hP hS hZ 0 (by decide) rfl rfl) rfl rfl hl.1 rfl (lv_room (Nat.le_of_ble_eq_true rfl)) dX12_who_342 ⟨Nat.le_refl _, Nat.le_refl _⟩) hA hS (fun r_157 f_154 L_155 Q_156 H locs hq hP hS => ?_)
                  obtain ⟨⟨ef9, eL9, eQ9⟩, hq⟩ := hq
                  rw [ef9, eL9, eQ9] at hP; clear ef9 eL9 eQ9
                  refine lv_if_eq (tgt := 382) hx hb dX12_who_345 (by decide) (fun c => ?_) (fun c => ?_)
                  · skip
                    have c_158 : r_157.toInt = 0 := (by have z := Int32.toInt_inj.mpr c; have k1 : (0 : Int32).toInt = 0 := (by decide); omega)
                    refine lv_iconst (v := 0) hx hb dX12_who_382 (by decide) ?_
                    refine lv_ior hx hb dX12_who_383 ?_
                    refine lv_topi (fun v_160 ev_160 => ?_)
                    have q_161 : 0 ≤ v_160.toInt ∧ v_160.toInt ≤ 1 := by rw [ev_160]; have k1 : (0 : Int32).toInt = 0 := (by decide); exact bn_or1 (x := v_152) (y := 0) (by omega) (by omega) (by omega) (by omega)
                    refine sg_zast hx hb hh hA hK hP hS 18 (by decide) 2 (fun _ => rfl) rfl (i := v_150) (x := v_160) (vp_in_iff.mpr ⟨by omega, by omega⟩) (bn_nar (by omega) (by omega)) dX12_who_384 (fun f_162 H locs ef_162 hP hS => ?_)
                    have hI : sgI loM hiM f_162 := by rw [ef_162]; exact sgI.put hI 18 v_150.toNatClampNeg (show 0 ≤ (v_160 : Int32).toInt ∧ (v_160 : Int32).toInt ≤ 1 from by omega)
                    have hF : sgK WkX12_who f f_162 := sgK.put hF ef_162 (by rfl)
                    obtain ⟨v_163, ev_163⟩ : ∃ z : Int32, z = y7_294 + 1 := ⟨_, rfl⟩
                    have q_164 : v_163.toInt = y7_294.toInt + 1 := by rw [ev_163]; exact (bn_addc y7_294 1 (by decide) (by omega) (by omega))
                    refine lv_iinc (v := v_163) (lv' := [(7, .int v_163), (8, .int r_147), (0, .ref (h 0)), (1, .int x0), (2, .int x1), (3, .int x2), (5, .int y5_294), (6, .int y6_294)]) hx hb dX12_who_385 hl (k := 7) rfl (by rw [ev_163]; rfl) (by decide) rfl (fun ls hl => ?_)
                    refine lv_goto (tgt := 294) hx hb dX12_who_388 (by decide) ?_
                    exact ih_294 y5_294 y6_294 v_163 f_162 _ _ _ (by omega) (by omega) (by omega) (by omega) (by omega) (by omega) (by omega) (by omega) (by omega) hI hF hP hS (lv_sub hl [2, 3, 4, 5, 6, 7, 0] rfl)
                  · skip
                    have c_159 : r_157.toInt ≠ 0 := (by have z := bn_ne c; have k1 : (0 : Int32).toInt = 0 := (by decide); omega)
                    refine lv_aload_n hx hb dX12_who_348 rfl (lv_at hl 1 rfl) ?_
                    refine lv_iload_n hx hb dX12_who_349 rfl (lv_at hl 2 rfl) ?_
                    refine lv_iload hx hb dX12_who_350 (lv_at hl 5 rfl) ?_
                    refine lv_iload hx hb dX12_who_352 (lv_at hl 0 rfl) ?_
                    refine sg_calli (va_runV (As := [.int x0, .int y5_294, .int r_147]) (rest := [.int v_152, .int v_150, .ref (h 18)]) ⟨hx, hb, hml, hown, hts⟩ (kX12_isSeen l D ca za h hh fp_294 L Q hI x0 y5_294 r_147 (by omega) (by omega) (by omega) H.size) (cwV 3 hts (gw_V (fun _ h => List.mem_cons_of_mem _ h) mw_805 mw_806 mw_807 mw_619 mw_804) rfl rfl rfl (by decide +kernel) ⟨Nat.le_of_ble_eq_true rfl, Nat.le_of_ble_eq_true rfl⟩) (sg_preV (ci := 12) (C := RX12) (T := TX12) (N := 55) hA hK hP hS hZ 0 (by decide) rfl rfl) rfl rfl hl.1 rfl (lv_room (Nat.le_of_ble_eq_true rfl)) dX12_who_354 ⟨Nat.le_refl _, Nat.le_refl _⟩) hA hS (fun r_168 f_165 L_166 Q_167 H locs hq hP hS => ?_)
                    obtain ⟨⟨ef9, eL9, eQ9⟩, hq⟩ := hq
                    rw [ef9, eL9, eQ9] at hP; clear ef9 eL9 eQ9
                    refine lv_if_eq (tgt := 382) hx hb dX12_who_357 (by decide) (fun c => ?_) (fun c => ?_)
                    · skip
                      have c_169 : r_168.toInt = 0 := (by have z := Int32.toInt_inj.mpr c; have k1 : (0 : Int32).toInt = 0 := (by decide); omega)
                      refine lv_iconst (v := 0) hx hb dX12_who_382 (by decide) ?_
                      refine lv_ior hx hb dX12_who_383 ?_
                      refine lv_topi (fun v_171 ev_171 => ?_)
                      have q_172 : 0 ≤ v_171.toInt ∧ v_171.toInt ≤ 1 := by rw [ev_171]; have k1 : (0 : Int32).toInt = 0 := (by decide); exact bn_or1 (x := v_152) (y := 0) (by omega) (by omega) (by omega) (by omega)
                      refine sg_zast hx hb hh hA hK hP hS 18 (by decide) 2 (fun _ => rfl) rfl (i := v_150) (x := v_171) (vp_in_iff.mpr ⟨by omega, by omega⟩) (bn_nar (by omega) (by omega)) dX12_who_384 (fun f_173 H locs ef_173 hP hS => ?_)
                      have hI : sgI loM hiM f_173 := by rw [ef_173]; exact sgI.put hI 18 v_150.toNatClampNeg (show 0 ≤ (v_171 : Int32).toInt ∧ (v_171 : Int32).toInt ≤ 1 from by omega)
                      have hF : sgK WkX12_who f f_173 := sgK.put hF ef_173 (by rfl)
                      obtain ⟨v_174, ev_174⟩ : ∃ z : Int32, z = y7_294 + 1 := ⟨_, rfl⟩
                      have q_175 : v_174.toInt = y7_294.toInt + 1 := by rw [ev_174]; exact (bn_addc y7_294 1 (by decide) (by omega) (by omega))
                      refine lv_iinc (v := v_174) (lv' := [(7, .int v_174), (8, .int r_147), (0, .ref (h 0)), (1, .int x0), (2, .int x1), (3, .int x2), (5, .int y5_294), (6, .int y6_294)]) hx hb dX12_who_385 hl (k := 7) rfl (by rw [ev_174]; rfl) (by decide) rfl (fun ls hl => ?_)
                      refine lv_goto (tgt := 294) hx hb dX12_who_388 (by decide) ?_
                      exact ih_294 y5_294 y6_294 v_174 f_173 _ _ _ (by omega) (by omega) (by omega) (by omega) (by omega) (by omega) (by omega) (by omega) (by omega) hI hF hP hS (lv_sub hl [2, 3, 4, 5, 6, 7, 0] rfl)
                    · skip
                      have c_170 : r_168.toInt ≠ 0 := (by have z := bn_ne c; have k1 : (0 : Int32).toInt = 0 := (by decide); omega)
                      refine lv_aload_n hx hb dX12_who_360 rfl (lv_at hl 1 rfl) ?_
                      refine sg_get (ci := 12) (v := .ref (h 18)) (C := RX12) (T := TX12) (N := 55) hx hb hts (fun w h => List.mem_cons_of_mem _ (gx_12 w h)) hown hK hP 0 (by decide) rfl rfl 37 (by decide) (hts _ (List.mem_cons_of_mem _ mw_691)) (fun _ h9 => h9) rfl dX12_who_361 ?_
                      refine lv_bipush (v := 61) hx hb dX12_who_364 (by decide) ?_
                      refine lv_iload hx hb dX12_who_366 (lv_at hl 5 rfl) ?_
                      refine lv_iconst (v := 1) hx hb dX12_who_368 (by decide) ?_
                      refine lv_iadd hx hb dX12_who_369 ?_
                      refine lv_topi (fun v_176 ev_176 => ?_)
                      have q_177 : v_176.toInt = y5_294.toInt + 1 := by rw [ev_176]; have k1 : (1 : Int32).toInt = 1 := (by decide); exact (bn_addI (by omega) (by omega)).trans (by omega)
                      refine lv_imul hx hb dX12_who_370 ?_
                      refine lv_topi (fun v_178 ev_178 => ?_)
                      have q_179 : v_178.toInt = 61 * v_176.toInt := by rw [ev_178]; exact bn_mulJ (by decide) (by omega) (by omega)
                      refine lv_iload hx hb dX12_who_371 (lv_at hl 0 rfl) ?_
                      refine lv_iadd hx hb dX12_who_373 ?_
                      refine lv_topi (fun v_180 ev_180 => ?_)
                      have q_181 : v_180.toInt = v_178.toInt + r_147.toInt := by rw [ev_180]; exact (bn_addI (by omega) (by omega)).trans (by omega)
                      refine sg_zald hx hb hK hP 18 (by decide) 2 rfl rfl (i := v_180) (vp_in_iff.mpr ⟨by omega, by omega⟩) dX12_who_374 ?_
                      refine lv_topi (fun v_182 ev_182 => ?_)
                      have q_183 : 0 ≤ v_182.toInt ∧ v_182.toInt ≤ 1 := by rw [ev_182]; exact hI 18 _
                      refine lv_if_eq (tgt := 382) hx hb dX12_who_375 (by decide) (fun c => ?_) (fun c => ?_)
                      · skip
                        have c_184 : v_182.toInt = 0 := (by have z := Int32.toInt_inj.mpr c; have k1 : (0 : Int32).toInt = 0 := (by decide); omega)
                        refine lv_iconst (v := 0) hx hb dX12_who_382 (by decide) ?_
                        refine lv_ior hx hb dX12_who_383 ?_
                        refine lv_topi (fun v_186 ev_186 => ?_)
                        have q_187 : 0 ≤ v_186.toInt ∧ v_186.toInt ≤ 1 := by rw [ev_186]; have k1 : (0 : Int32).toInt = 0 := (by decide); exact bn_or1 (x := v_152) (y := 0) (by omega) (by omega) (by omega) (by omega)
                        refine sg_zast hx hb hh hA hK hP hS 18 (by decide) 2 (fun _ => rfl) rfl (i := v_150) (x := v_186) (vp_in_iff.mpr ⟨by omega, by omega⟩) (bn_nar (by omega) (by omega)) dX12_who_384 (fun f_188 H locs ef_188 hP hS => ?_)
                        have hI : sgI loM hiM f_188 := by rw [ef_188]; exact sgI.put hI 18 v_150.toNatClampNeg (show 0 ≤ (v_186 : Int32).toInt ∧ (v_186 : Int32).toInt ≤ 1 from by omega)
                        have hF : sgK WkX12_who f f_188 := sgK.put hF ef_188 (by rfl)
                        obtain ⟨v_189, ev_189⟩ : ∃ z : Int32, z = y7_294 + 1 := ⟨_, rfl⟩
                        have q_190 : v_189.toInt = y7_294.toInt + 1 := by rw [ev_189]; exact (bn_addc y7_294 1 (by decide) (by omega) (by omega))
                        refine lv_iinc (v := v_189) (lv' := [(7, .int v_189), (8, .int r_147), (0, .ref (h 0)), (1, .int x0), (2, .int x1), (3, .int x2), (5, .int y5_294), (6, .int y6_294)]) hx hb dX12_who_385 hl (k := 7) rfl (by rw [ev_189]; rfl) (by decide) rfl (fun ls hl => ?_)
                        refine lv_goto (tgt := 294) hx hb dX12_who_388 (by decide) ?_
                        exact ih_294 y5_294 y6_294 v_189 f_188 _ _ _ (by omega) (by omega) (by omega) (by omega) (by omega) (by omega) (by omega) (by omega) (by omega) hI hF hP hS (lv_sub hl [2, 3, 4, 5, 6, 7, 0] rfl)
                      · skip
                        have c_185 : v_182.toInt ≠ 0 := (by have z := bn_ne c; have k1 : (0 : Int32).toInt = 0 := (by decide); omega)
                        refine lv_iconst (v := 1) hx hb dX12_who_378 (by decide) ?_
                        refine lv_goto (tgt := 383) hx hb dX12_who_379 (by decide) ?_
                        refine lv_ior hx hb dX12_who_383 ?_
                        refine lv_topi (fun v_191 ev_191 => ?_)
                        have q_192 : 0 ≤ v_191.toInt ∧ v_191.toInt ≤ 1 := by rw [ev_191]; have k1 : (1 : Int32).toInt = 1 := (by decide); exact bn_or1 (x := v_152) (y := 1) (by omega) (by omega) (by omega) (by omega)
                        refine sg_zast hx hb hh hA hK hP hS 18 (by decide) 2 (fun _ => rfl) rfl (i := v_150) (x := v_191) (vp_in_iff.mpr ⟨by omega, by omega⟩) (bn_nar (by omega) (by omega)) dX12_who_384 (fun f_193 H locs ef_193 hP hS => ?_)
                        have hI : sgI loM hiM f_193 := by rw [ef_193]; exact sgI.put hI 18 v_150.toNatClampNeg (show 0 ≤ (v_191 : Int32).toInt ∧ (v_191 : Int32).toInt ≤ 1 from by omega)
                        have hF : sgK WkX12_who f f_193 := sgK.put hF ef_193 (by rfl)
                        obtain ⟨v_194, ev_194⟩ : ∃ z : Int32, z = y7_294 + 1 := ⟨_, rfl⟩
                        have q_195 : v_194.toInt = y7_294.toInt + 1 := by rw [ev_194]; exact (bn_addc y7_294 1 (by decide) (by omega) (by omega))
                        refine lv_iinc (v := v_194) (lv' := [(7, .int v_194), (8, .int r_147), (0, .ref (h 0)), (1, .int x0), (2, .int x1), (3, .int x2), (5, .int y5_294), (6, .int y6_294)]) hx hb dX12_who_385 hl (k := 7) rfl (by rw [ev_194]; rfl) (by decide) rfl (fun ls hl => ?_)
                        refine lv_goto (tgt := 294) hx hb dX12_who_388 (by decide) ?_
                        exact ih_294 y5_294 y6_294 v_194 f_193 _ _ _ (by omega) (by omega) (by omega) (by omega) (by omega) (by omega) (by omega) (by omega) (by omega) hI hF hP hS (lv_sub hl [2, 3, 4, 5, 6, 7, 0] rfl)
          intro y5_284 y6_284 fp_284 H locs ls hm_284 hm_276 hy0_284 hy1_284 hy2_284 hy3_284 hy4_284 hI hF hP hS hl
          refine lv_iload hx hb dX12_who_284 (lv_at hl 5 rfl) ?_
          refine lv_bipush (v := 61) hx hb dX12_who_286 (by decide) ?_
          refine lv_icmp_ge (tgt := 397) hx hb dX12_who_288 (by decide) (fun c => ?_) (fun c => ?_)
          · skip
            have c_196 : 61 ≤ y6_284.toInt := (by have z := bn_le c; have k1 : (61 : Int32).toInt = 61 := (by decide); omega)
            obtain ⟨v_198, ev_198⟩ : ∃ z : Int32, z = y5_284 + (-1) := ⟨_, rfl⟩
            have q_199 : v_198.toInt = y5_284.toInt + (-1) := by rw [ev_198]; exact (bn_addc y5_284 (-1) (by decide) (by omega) (by omega))
            refine lv_iinc (v := v_198) (lv' := [(5, .int v_198), (0, .ref (h 0)), (1, .int x0), (2, .int x1), (3, .int x2), (6, .int y6_284)]) hx hb dX12_who_397 hl (k := 4) rfl (by rw [ev_198]; rfl) (by decide) rfl (fun ls hl => ?_)
            refine lv_goto (tgt := 276) hx hb dX12_who_400 (by decide) ?_
            exact ih_276 v_198 fp_284 _ _ _ (by omega) (by omega) (by omega) (by omega) (by omega) hI hF hP hS (lv_sub hl [1, 2, 3, 4, 0] rfl)
          · skip
            have c_197 : y6_284.toInt < 61 := (by have z := bn_nle c; have k1 : (61 : Int32).toInt = 61 := (by decide); omega)
            refine lv_iconst (v := 0) hx hb dX12_who_291 (by decide) ?_
            refine lv_istore (lv' := [(7, .int 0), (0, .ref (h 0)), (1, .int x0), (2, .int x1), (3, .int x2), (5, .int y5_284), (6, .int y6_284)]) hx hb dX12_who_292 hl (by decide) rfl (fun ls hl => ?_)
            exact loop_294 10 y5_284 y6_284 0 fp_284 _ _ _ (by have kc2 : (0 : Int32).toInt = 0 := (by decide); omega) (by have kc2 : (0 : Int32).toInt = 0 := (by decide); omega) (by have kc2 : (0 : Int32).toInt = 0 := (by decide); omega) (by omega) (by omega) (by omega) (by omega) (by omega) (by decide) hI hF hP hS (lv_sub hl [1, 2, 3, 4, 5, 6, 0] rfl)
      intro y5_276 fp_276 H locs ls hm_276 hy0_276 hy1_276 hy2_276 hy3_276 hI hF hP hS hl
      refine lv_iload hx hb dX12_who_276 (lv_at hl 4 rfl) ?_
      refine lv_if_lt (tgt := 403) hx hb dX12_who_278 (by decide) (fun c => ?_) (fun c => ?_)
      · skip
        have c_200 : y5_276.toInt < 0 := (by have z := bn_lt c; have k1 : (0 : Int32).toInt = 0 := (by decide); omega)
        refine lv_iconst (v := 0) hx hb dX12_who_403 (by decide) ?_
        refine lv_istore (lv' := [(5, .int 0), (0, .ref (h 0)), (1, .int x0), (2, .int x1), (3, .int x2)]) hx hb dX12_who_404 hl (by decide) rfl (fun ls hl => ?_)
        refine lv_iconst (v := 0) hx hb dX12_who_406 (by decide) ?_
        refine lv_istore (lv' := [(6, .int 0), (5, .int 0), (0, .ref (h 0)), (1, .int x0), (2, .int x1), (3, .int x2)]) hx hb dX12_who_407 hl (by decide) rfl (fun ls hl => ?_)
        exact loop_409 62 0 0 fp_276 _ _ _ (by have kc0 : (0 : Int32).toInt = 0 := (by decide); have kc1 : (0 : Int32).toInt = 0 := (by decide); omega) (by omega) (by omega) (by omega) (by decide) hI hF hP hS (lv_sub hl [2, 3, 4, 5, 1, 0] rfl)
      · skip
        have c_201 : 0 ≤ y5_276.toInt := (by have z := bn_nlt c; have k1 : (0 : Int32).toInt = 0 := (by decide); omega)
        refine lv_iconst (v := 0) hx hb dX12_who_281 (by decide) ?_
        refine lv_istore (lv' := [(6, .int 0), (0, .ref (h 0)), (1, .int x0), (2, .int x1), (3, .int x2), (5, .int y5_276)]) hx hb dX12_who_282 hl (by decide) rfl (fun ls hl => ?_)
        exact loop_284 62 y5_276 0 fp_276 _ _ _ (by have kc1 : (0 : Int32).toInt = 0 := (by decide); omega) (by have kc1 : (0 : Int32).toInt = 0 := (by decide); omega) (by omega) (by omega) (by omega) (by omega) (by decide) hI hF hP hS (lv_sub hl [1, 2, 3, 4, 5, 0] rfl)
  have loop_141 : ∀ (n_141 : Nat) (y4_141 : Int32) (y5_141 : Int32) (fp_141 : sg_F) (H : Heap) (locs : List Loc) (ls : Array Slot), 12 - y5_141.toInt < (n_141 : Int) → 0 ≤ x0.toInt ∧ x0.toInt ≤ 5 → 0 ≤ x1.toInt ∧ x1.toInt ≤ 2 → 0 ≤ x2.toInt ∧ x2.toInt ≤ 11 → 1 ≤ y4_141.toInt ∧ y4_141.toInt ≤ 12 → 0 ≤ y5_141.toInt ∧ y5_141.toInt ≤ 12 → sgI loM hiM fp_141 → sgK WkX12_who f fp_141 → va_P D vwCl (sgw 26 h (eM ca h) fp_141 L Q) H → va_S (sgA 26 h s.heap.size) s.heap H locs → lv_has ls 10 [(0, .ref (h 0)), (1, .int x0), (2, .int x1), (3, .int x2), (4, .int y4_141), (5, .int y5_141)] → W p l e ({ frames := 3, cells := 0, slots := 0, locals := 66 }) s m ([.ref (h 0), .int x0, .int x1, .int x2] : List Value).toArray below meth cd H locs 0 0 Qz (F0 m 141 ls []) := by
    intro n_141
    induction n_141 with
    | zero => intro y4_141 y5_141 fp_141 H locs ls hm_141 hy0_141 hy1_141 hy2_141 hy3_141 hy4_141 hI hF hP hS hl; exact absurd hm_141 (by omega)
    | succ n_141 ih_141 =>
      have loop_151 : ∀ (n_151 : Nat) (y4_151 : Int32) (y5_151 : Int32) (y6_151 : Int32) (fp_151 : sg_F) (H : Heap) (locs : List Loc) (ls : Array Slot), 61 - y6_151.toInt < (n_151 : Int) → 12 - y5_151.toInt < ((n_141 + 1 : Nat) : Int) → 0 ≤ x0.toInt ∧ x0.toInt ≤ 5 → 0 ≤ x1.toInt ∧ x1.toInt ≤ 2 → 0 ≤ x2.toInt ∧ x2.toInt ≤ 11 → 1 ≤ y4_151.toInt ∧ y4_151.toInt ≤ 12 → 0 ≤ y5_151.toInt ∧ y5_151.toInt ≤ 11 → 0 ≤ y6_151.toInt ∧ y6_151.toInt ≤ 61 → sgI loM hiM fp_151 → sgK WkX12_who f fp_151 → va_P D vwCl (sgw 26 h (eM ca h) fp_151 L Q) H → va_S (sgA 26 h s.heap.size) s.heap H locs → lv_has ls 10 [(0, .ref (h 0)), (1, .int x0), (2, .int x1), (3, .int x2), (4, .int y4_151), (5, .int y5_151), (6, .int y6_151)] → W p l e ({ frames := 3, cells := 0, slots := 0, locals := 66 }) s m ([.ref (h 0), .int x0, .int x1, .int x2] : List Value).toArray below meth cd H locs 0 0 Qz (F0 m 151 ls []) := by
        intro n_151
        induction n_151 with
        | zero => intro y4_151 y5_151 y6_151 fp_151 H locs ls hm_151 hm_141 hy0_151 hy1_151 hy2_151 hy3_151 hy4_151 hy5_151 hI hF hP hS hl; exact absurd hm_151 (by omega)
        | succ n_151 ih_151 =>
          have blk_258 : ∀ (y4_258 : Int32) (y5_258 : Int32) (y6_258 : Int32) (fp_258 : sg_F) (H : Heap) (locs : List Loc) (ls : Array Slot), 12 - y5_258.toInt < ((n_141 + 1 : Nat) : Int) → 61 - y6_258.toInt < ((n_151 + 1 : Nat) : Int) → 0 ≤ x0.toInt ∧ x0.toInt ≤ 5 → 0 ≤ x1.toInt ∧ x1.toInt ≤ 2 → 0 ≤ x2.toInt ∧ x2.toInt ≤ 11 → 1 ≤ y4_258.toInt ∧ y4_258.toInt ≤ 12 → 0 ≤ y5_258.toInt ∧ y5_258.toInt ≤ 11 → 0 ≤ y6_258.toInt ∧ y6_258.toInt ≤ 60 → sgI loM hiM fp_258 → sgK WkX12_who f fp_258 → va_P D vwCl (sgw 26 h (eM ca h) fp_258 L Q) H → va_S (sgA 26 h s.heap.size) s.heap H locs → lv_has ls 10 [(0, .ref (h 0)), (1, .int x0), (2, .int x1), (3, .int x2), (4, .int y4_258), (5, .int y5_258), (6, .int y6_258)] → W p l e ({ frames := 3, cells := 0, slots := 0, locals := 66 }) s m ([.ref (h 0), .int x0, .int x1, .int x2] : List Value).toArray below meth cd H locs 0 0 Qz (F0 m 258 ls []) := by
            intro y4_258 y5_258 y6_258 fp_258 H locs ls hm_141 hm_151 hy0_258 hy1_258 hy2_258 hy3_258 hy4_258 hy5_258 hI hF hP hS hl
            obtain ⟨v_202, ev_202⟩ : ∃ z : Int32, z = y6_258 + 1 := ⟨_, rfl⟩
            have q_203 : v_202.toInt = y6_258.toInt + 1 := by rw [ev_202]; exact (bn_addc y6_258 1 (by decide) (by omega) (by omega))
            refine lv_iinc (v := v_202) (lv' := [(6, .int v_202), (0, .ref (h 0)), (1, .int x0), (2, .int x1), (3, .int x2), (4, .int y4_258), (5, .int y5_258)]) hx hb dX12_who_258 hl (k := 6) rfl (by rw [ev_202]; rfl) (by decide) rfl (fun ls hl => ?_)
            refine lv_goto (tgt := 151) hx hb dX12_who_261 (by decide) ?_
            exact ih_151 y4_258 y5_258 v_202 fp_258 _ _ _ (by omega) (by omega) (by omega) (by omega) (by omega) (by omega) (by omega) (by omega) hI hF hP hS (lv_sub hl [1, 2, 3, 4, 5, 6, 0] rfl)
          have loop_161 : ∀ (n_161 : Nat) (y4_161 : Int32) (y5_161 : Int32) (y6_161 : Int32) (y7_161 : Int32) (fp_161 : sg_F) (H : Heap) (locs : List Loc) (ls : Array Slot), 9 - y7_161.toInt < (n_161 : Int) → 12 - y5_161.toInt < ((n_141 + 1 : Nat) : Int) → 61 - y6_161.toInt < ((n_151 + 1 : Nat) : Int) → 0 ≤ x0.toInt ∧ x0.toInt ≤ 5 → 0 ≤ x1.toInt ∧ x1.toInt ≤ 2 → 0 ≤ x2.toInt ∧ x2.toInt ≤ 11 → 1 ≤ y4_161.toInt ∧ y4_161.toInt ≤ 12 → 0 ≤ y5_161.toInt ∧ y5_161.toInt ≤ 11 → 0 ≤ y6_161.toInt ∧ y6_161.toInt ≤ 60 → 0 ≤ y7_161.toInt ∧ y7_161.toInt ≤ 9 → sgI loM hiM fp_161 → sgK WkX12_who f fp_161 → va_P D vwCl (sgw 26 h (eM ca h) fp_161 L Q) H → va_S (sgA 26 h s.heap.size) s.heap H locs → lv_has ls 10 [(0, .ref (h 0)), (1, .int x0), (2, .int x1), (3, .int x2), (4, .int y4_161), (5, .int y5_161), (6, .int y6_161), (7, .int y7_161)] → W p l e ({ frames := 3, cells := 0, slots := 0, locals := 66 }) s m ([.ref (h 0), .int x0, .int x1, .int x2] : List Value).toArray below meth cd H locs 0 0 Qz (F0 m 161 ls []) := by
            intro n_161
            induction n_161 with
            | zero => intro y4_161 y5_161 y6_161 y7_161 fp_161 H locs ls hm_161 hm_141 hm_151 hy0_161 hy1_161 hy2_161 hy3_161 hy4_161 hy5_161 hy6_161 hI hF hP hS hl; exact absurd hm_161 (by omega)
            | succ n_161 ih_161 =>
              intro y4_161 y5_161 y6_161 y7_161 fp_161 H locs ls hm_161 hm_141 hm_151 hy0_161 hy1_161 hy2_161 hy3_161 hy4_161 hy5_161 hy6_161 hI hF hP hS hl
              refine lv_iload hx hb dX12_who_161 (lv_at hl 7 rfl) ?_
              refine lv_bipush (v := 8) hx hb dX12_who_163 (by decide) ?_
              refine lv_icmp_gt (tgt := 258) hx hb dX12_who_165 (by decide) (fun c => ?_) (fun c => ?_)
              · skip
                have c_204 : 8 < y7_161.toInt := (by have z := bn_lt c; have k1 : (8 : Int32).toInt = 8 := (by decide); omega)
                exact blk_258 y4_161 y5_161 y6_161 fp_161 _ _ _ (by omega) (by omega) (by omega) (by omega) (by omega) (by omega) (by omega) (by omega) hI hF hP hS (lv_sub hl [0, 1, 2, 3, 4, 5, 6] rfl)
              · skip
                have c_205 : y7_161.toInt ≤ 8 := (by have z := bn_nlt c; have k1 : (8 : Int32).toInt = 8 := (by decide); omega)
                refine lv_aload_n hx hb dX12_who_168 rfl (lv_at hl 0 rfl) ?_
                refine sg_get (ci := 12) (v := .ref (h 17)) (C := RX12) (T := TX12) (N := 55) hx hb hts (fun w h => List.mem_cons_of_mem _ (gx_12 w h)) hown hK hP 0 (by decide) rfl rfl 36 (by decide) (hts _ (List.mem_cons_of_mem _ mw_690)) (fun _ h9 => h9) rfl dX12_who_169 ?_
                refine lv_bipush (v := 61) hx hb dX12_who_172 (by decide) ?_
                refine lv_iload hx hb dX12_who_174 (lv_at hl 5 rfl) ?_
                refine lv_imul hx hb dX12_who_176 ?_
                refine lv_topi (fun v_206 ev_206 => ?_)
                have q_207 : v_206.toInt = 61 * y5_161.toInt := by rw [ev_206]; exact bn_mulJ (by decide) (by omega) (by omega)
                refine lv_iload hx hb dX12_who_177 (lv_at hl 6 rfl) ?_
                refine lv_iadd hx hb dX12_who_179 ?_
                refine lv_topi (fun v_208 ev_208 => ?_)
                have q_209 : v_208.toInt = v_206.toInt + y6_161.toInt := by rw [ev_208]; exact (bn_addI (by omega) (by omega)).trans (by omega)
                refine sg_zald hx hb hK hP 17 (by decide) 2 rfl rfl (i := v_208) (vp_in_iff.mpr ⟨by omega, by omega⟩) dX12_who_180 ?_
                refine lv_topi (fun v_210 ev_210 => ?_)
                have q_211 : 0 ≤ v_210.toInt ∧ v_210.toInt ≤ 1 := by rw [ev_210]; exact hI 17 _
                refine lv_if_eq (tgt := 258) hx hb dX12_who_181 (by decide) (fun c => ?_) (fun c => ?_)
                · skip
                  have c_212 : v_210.toInt = 0 := (by have z := Int32.toInt_inj.mpr c; have k1 : (0 : Int32).toInt = 0 := (by decide); omega)
                  exact blk_258 y4_161 y5_161 y6_161 fp_161 _ _ _ (by omega) (by omega) (by omega) (by omega) (by omega) (by omega) (by omega) (by omega) hI hF hP hS (lv_sub hl [0, 1, 2, 3, 4, 5, 6] rfl)
                · skip
                  have c_213 : v_210.toInt ≠ 0 := (by have z := bn_ne c; have k1 : (0 : Int32).toInt = 0 := (by decide); omega)
                  refine lv_aload_n hx hb dX12_who_184 rfl (lv_at hl 0 rfl) ?_
                  refine lv_iload hx hb dX12_who_185 (lv_at hl 7 rfl) ?_
                  refine sg_calli (va_runV (As := [.int y7_161]) (rest := []) ⟨hx, hb, hml, hown, hts⟩ (kX12_may1 l D ca za h hh fp_161 L Q hI y7_161 (by omega) H.size) (cwV 1 hts (gw_V (fun _ h => List.mem_cons_of_mem _ h) mw_757 mw_758 mw_759 mw_619 mw_756) rfl rfl rfl (by decide +kernel) ⟨Nat.le_of_ble_eq_true rfl, Nat.le_of_ble_eq_true rfl⟩) (sg_preV (ci := 12) (C := RX12) (T := TX12) (N := 55) hA hK hP hS hZ 0 (by decide) rfl rfl) rfl rfl hl.1 rfl (lv_room (Nat.le_of_ble_eq_true rfl)) dX12_who_187 ⟨Nat.le_refl _, Nat.le_refl _⟩) hA hS (fun r_217 f_214 L_215 Q_216 H locs hq hP hS => ?_)
                  obtain ⟨⟨ef9, eL9, eQ9⟩, hq⟩ := hq
                  rw [ef9, eL9, eQ9] at hP; clear ef9 eL9 eQ9
                  refine lv_if_eq (tgt := 205) hx hb dX12_who_190 (by decide) (fun c => ?_) (fun c => ?_)
                  · skip
                    have c_218 : r_217.toInt = 0 := (by have z := Int32.toInt_inj.mpr c; have k1 : (0 : Int32).toInt = 0 := (by decide); omega)
                    refine lv_iconst (v := 0) hx hb dX12_who_205 (by decide) ?_
                    refine lv_istore (lv' := [(8, .int 0), (0, .ref (h 0)), (1, .int x0), (2, .int x1), (3, .int x2), (4, .int y4_161), (5, .int y5_161), (6, .int y6_161), (7, .int y7_161)]) hx hb dX12_who_206 hl (by decide) rfl (fun ls hl => ?_)
                    refine lv_aload_n hx hb dX12_who_208 rfl (lv_at hl 1 rfl) ?_
                    refine sg_get (ci := 12) (v := .ref (h 17)) (C := RX12) (T := TX12) (N := 55) hx hb hts (fun w h => List.mem_cons_of_mem _ (gx_12 w h)) hown hK hP 0 (by decide) rfl rfl 36 (by decide) (hts _ (List.mem_cons_of_mem _ mw_690)) (fun _ h9 => h9) rfl dX12_who_209 ?_
                    refine lv_bipush (v := 61) hx hb dX12_who_212 (by decide) ?_
                    refine lv_iload hx hb dX12_who_214 (lv_at hl 6 rfl) ?_
                    refine lv_iconst (v := 1) hx hb dX12_who_216 (by decide) ?_
                    refine lv_iadd hx hb dX12_who_217 ?_
                    refine lv_topi (fun v_220 ev_220 => ?_)
                    have q_221 : v_220.toInt = y5_161.toInt + 1 := by rw [ev_220]; have k1 : (1 : Int32).toInt = 1 := (by decide); exact (bn_addI (by omega) (by omega)).trans (by omega)
                    refine lv_imul hx hb dX12_who_218 ?_
                    refine lv_topi (fun v_222 ev_222 => ?_)
                    have q_223 : v_222.toInt = 61 * v_220.toInt := by rw [ev_222]; exact bn_mulJ (by decide) (by omega) (by omega)
                    refine lv_iload hx hb dX12_who_219 (lv_at hl 0 rfl) ?_
                    refine lv_iadd hx hb dX12_who_221 ?_
                    refine W.eq (g2 := F0 m 222 ls [.int v_222, .ref (h 17)]) (by rw [Int32.add_zero]) ?_
                    refine lv_dup2_11 hx hb dX12_who_222 rfl rfl ?_
                    refine sg_zald hx hb hK hP 17 (by decide) 2 rfl rfl (i := v_222) (vp_in_iff.mpr ⟨by omega, by omega⟩) dX12_who_223 ?_
                    refine lv_topi (fun v_224 ev_224 => ?_)
                    have q_225 : 0 ≤ v_224.toInt ∧ v_224.toInt ≤ 1 := by rw [ev_224]; exact hI 17 _
                    refine lv_aload_n hx hb dX12_who_224 rfl (lv_at hl 1 rfl) ?_
                    refine lv_iload hx hb dX12_who_225 (lv_at hl 8 rfl) ?_
                    refine sg_calli (va_runV (As := [.int y7_161]) (rest := [.int v_224, .int v_222, .ref (h 17)]) ⟨hx, hb, hml, hown, hts⟩ (kX12_may1 l D ca za h hh fp_161 L Q hI y7_161 (by omega) H.size) (cwV 1 hts (gw_V (fun _ h => List.mem_cons_of_mem _ h) mw_757 mw_758 mw_759 mw_619 mw_756) rfl rfl rfl (by decide +kernel) ⟨Nat.le_of_ble_eq_true rfl, Nat.le_of_ble_eq_true rfl⟩) (sg_preV (ci := 12) (C := RX12) (T := TX12) (N := 55) hA hK hP hS hZ 0 (by decide) rfl rfl) rfl rfl hl.1 rfl (lv_room (Nat.le_of_ble_eq_true rfl)) dX12_who_227 ⟨Nat.le_refl _, Nat.le_refl _⟩) hA hS (fun r_229 f_226 L_227 Q_228 H locs hq hP hS => ?_)
                    obtain ⟨⟨ef9, eL9, eQ9⟩, hq⟩ := hq
                    rw [ef9, eL9, eQ9] at hP; clear ef9 eL9 eQ9
                    refine lv_if_eq (tgt := 249) hx hb dX12_who_230 (by decide) (fun c => ?_) (fun c => ?_)
                    · skip
                      have c_230 : r_229.toInt = 0 := (by have z := Int32.toInt_inj.mpr c; have k1 : (0 : Int32).toInt = 0 := (by decide); omega)
                      refine lv_iconst (v := 0) hx hb dX12_who_249 (by decide) ?_
                      refine lv_ior hx hb dX12_who_250 ?_
                      refine lv_topi (fun v_232 ev_232 => ?_)
                      have q_233 : 0 ≤ v_232.toInt ∧ v_232.toInt ≤ 1 := by rw [ev_232]; have k1 : (0 : Int32).toInt = 0 := (by decide); exact bn_or1 (x := v_224) (y := 0) (by omega) (by omega) (by omega) (by omega)
                      refine sg_zast hx hb hh hA hK hP hS 17 (by decide) 2 (fun _ => rfl) rfl (i := v_222) (x := v_232) (vp_in_iff.mpr ⟨by omega, by omega⟩) (bn_nar (by omega) (by omega)) dX12_who_251 (fun f_234 H locs ef_234 hP hS => ?_)
                      have hI : sgI loM hiM f_234 := by rw [ef_234]; exact sgI.put hI 17 v_222.toNatClampNeg (show 0 ≤ (v_232 : Int32).toInt ∧ (v_232 : Int32).toInt ≤ 1 from by omega)
                      have hF : sgK WkX12_who f f_234 := sgK.put hF ef_234 (by rfl)
                      obtain ⟨v_235, ev_235⟩ : ∃ z : Int32, z = y7_161 + 1 := ⟨_, rfl⟩
                      have q_236 : v_235.toInt = y7_161.toInt + 1 := by rw [ev_235]; exact (bn_addc y7_161 1 (by decide) (by omega) (by omega))
                      refine lv_iinc (v := v_235) (lv' := [(7, .int v_235), (8, .int 0), (0, .ref (h 0)), (1, .int x0), (2, .int x1), (3, .int x2), (4, .int y4_161), (5, .int y5_161), (6, .int y6_161)]) hx hb dX12_who_252 hl (k := 8) rfl (by rw [ev_235]; rfl) (by decide) rfl (fun ls hl => ?_)
                      refine lv_goto (tgt := 161) hx hb dX12_who_255 (by decide) ?_
                      exact ih_161 y4_161 y5_161 y6_161 v_235 f_234 _ _ _ (by omega) (by omega) (by omega) (by omega) (by omega) (by omega) (by omega) (by omega) (by omega) (by omega) hI hF hP hS (lv_sub hl [2, 3, 4, 5, 6, 7, 8, 0] rfl)
                    · skip
                      have c_231 : r_229.toInt ≠ 0 := (by have z := bn_ne c; have k1 : (0 : Int32).toInt = 0 := (by decide); omega)
                      refine lv_aload_n hx hb dX12_who_233 rfl (lv_at hl 1 rfl) ?_
                      refine lv_iload_n hx hb dX12_who_234 rfl (lv_at hl 2 rfl) ?_
                      refine lv_iload hx hb dX12_who_235 (lv_at hl 6 rfl) ?_
                      refine lv_iload hx hb dX12_who_237 (lv_at hl 0 rfl) ?_
                      refine sg_calli (va_runV (As := [.int x0, .int y5_161, .int 0]) (rest := [.int v_224, .int v_222, .ref (h 17)]) ⟨hx, hb, hml, hown, hts⟩ (kX12_isSeen l D ca za h hh fp_161 L Q hI x0 y5_161 0 (by omega) (by omega) (by decide) H.size) (cwV 3 hts (gw_V (fun _ h => List.mem_cons_of_mem _ h) mw_805 mw_806 mw_807 mw_619 mw_804) rfl rfl rfl (by decide +kernel) ⟨Nat.le_of_ble_eq_true rfl, Nat.le_of_ble_eq_true rfl⟩) (sg_preV (ci := 12) (C := RX12) (T := TX12) (N := 55) hA hK hP hS hZ 0 (by decide) rfl rfl) rfl rfl hl.1 rfl (lv_room (Nat.le_of_ble_eq_true rfl)) dX12_who_239 ⟨Nat.le_refl _, Nat.le_refl _⟩) hA hS (fun r_240 f_237 L_238 Q_239 H locs hq hP hS => ?_)
                      obtain ⟨⟨ef9, eL9, eQ9⟩, hq⟩ := hq
                      rw [ef9, eL9, eQ9] at hP; clear ef9 eL9 eQ9
                      refine lv_if_eq (tgt := 249) hx hb dX12_who_242 (by decide) (fun c => ?_) (fun c => ?_)
                      · skip
                        have c_241 : r_240.toInt = 0 := (by have z := Int32.toInt_inj.mpr c; have k1 : (0 : Int32).toInt = 0 := (by decide); omega)
                        refine lv_iconst (v := 0) hx hb dX12_who_249 (by decide) ?_
                        refine lv_ior hx hb dX12_who_250 ?_
                        refine lv_topi (fun v_243 ev_243 => ?_)
                        have q_244 : 0 ≤ v_243.toInt ∧ v_243.toInt ≤ 1 := by rw [ev_243]; have k1 : (0 : Int32).toInt = 0 := (by decide); exact bn_or1 (x := v_224) (y := 0) (by omega) (by omega) (by omega) (by omega)
                        refine sg_zast hx hb hh hA hK hP hS 17 (by decide) 2 (fun _ => rfl) rfl (i := v_222) (x := v_243) (vp_in_iff.mpr ⟨by omega, by omega⟩) (bn_nar (by omega) (by omega)) dX12_who_251 (fun f_245 H locs ef_245 hP hS => ?_)
                        have hI : sgI loM hiM f_245 := by rw [ef_245]; exact sgI.put hI 17 v_222.toNatClampNeg (show 0 ≤ (v_243 : Int32).toInt ∧ (v_243 : Int32).toInt ≤ 1 from by omega)
                        have hF : sgK WkX12_who f f_245 := sgK.put hF ef_245 (by rfl)
                        obtain ⟨v_246, ev_246⟩ : ∃ z : Int32, z = y7_161 + 1 := ⟨_, rfl⟩
                        have q_247 : v_246.toInt = y7_161.toInt + 1 := by rw [ev_246]; exact (bn_addc y7_161 1 (by decide) (by omega) (by omega))
                        refine lv_iinc (v := v_246) (lv' := [(7, .int v_246), (8, .int 0), (0, .ref (h 0)), (1, .int x0), (2, .int x1), (3, .int x2), (4, .int y4_161), (5, .int y5_161), (6, .int y6_161)]) hx hb dX12_who_252 hl (k := 8) rfl (by rw [ev_246]; rfl) (by decide) rfl (fun ls hl => ?_)
                        refine lv_goto (tgt := 161) hx hb dX12_who_255 (by decide) ?_
                        exact ih_161 y4_161 y5_161 y6_161 v_246 f_245 _ _ _ (by omega) (by omega) (by omega) (by omega) (by omega) (by omega) (by omega) (by omega) (by omega) (by omega) hI hF hP hS (lv_sub hl [2, 3, 4, 5, 6, 7, 8, 0] rfl)
                      · skip
                        have c_242 : r_240.toInt ≠ 0 := (by have z := bn_ne c; have k1 : (0 : Int32).toInt = 0 := (by decide); omega)
                        refine lv_iconst (v := 1) hx hb dX12_who_245 (by decide) ?_
                        refine lv_goto (tgt := 250) hx hb dX12_who_246 (by decide) ?_
                        refine lv_ior hx hb dX12_who_250 ?_
                        refine lv_topi (fun v_248 ev_248 => ?_)
                        have q_249 : 0 ≤ v_248.toInt ∧ v_248.toInt ≤ 1 := by rw [ev_248]; have k1 : (1 : Int32).toInt = 1 := (by decide); exact bn_or1 (x := v_224) (y := 1) (by omega) (by omega) (by omega) (by omega)
                        refine sg_zast hx hb hh hA hK hP hS 17 (by decide) 2 (fun _ => rfl) rfl (i := v_222) (x := v_248) (vp_in_iff.mpr ⟨by omega, by omega⟩) (bn_nar (by omega) (by omega)) dX12_who_251 (fun f_250 H locs ef_250 hP hS => ?_)
                        have hI : sgI loM hiM f_250 := by rw [ef_250]; exact sgI.put hI 17 v_222.toNatClampNeg (show 0 ≤ (v_248 : Int32).toInt ∧ (v_248 : Int32).toInt ≤ 1 from by omega)
                        have hF : sgK WkX12_who f f_250 := sgK.put hF ef_250 (by rfl)
                        obtain ⟨v_251, ev_251⟩ : ∃ z : Int32, z = y7_161 + 1 := ⟨_, rfl⟩
                        have q_252 : v_251.toInt = y7_161.toInt + 1 := by rw [ev_251]; exact (bn_addc y7_161 1 (by decide) (by omega) (by omega))
                        refine lv_iinc (v := v_251) (lv' := [(7, .int v_251), (8, .int 0), (0, .ref (h 0)), (1, .int x0), (2, .int x1), (3, .int x2), (4, .int y4_161), (5, .int y5_161), (6, .int y6_161)]) hx hb dX12_who_252 hl (k := 8) rfl (by rw [ev_251]; rfl) (by decide) rfl (fun ls hl => ?_)
                        refine lv_goto (tgt := 161) hx hb dX12_who_255 (by decide) ?_
                        exact ih_161 y4_161 y5_161 y6_161 v_251 f_250 _ _ _ (by omega) (by omega) (by omega) (by omega) (by omega) (by omega) (by omega) (by omega) (by omega) (by omega) hI hF hP hS (lv_sub hl [2, 3, 4, 5, 6, 7, 8, 0] rfl)
                  · skip
                    have c_219 : r_217.toInt ≠ 0 := (by have z := bn_ne c; have k1 : (0 : Int32).toInt = 0 := (by decide); omega)
                    refine lv_aload_n hx hb dX12_who_193 rfl (lv_at hl 0 rfl) ?_
                    refine lv_iload_n hx hb dX12_who_194 rfl (lv_at hl 2 rfl) ?_
                    refine lv_iload hx hb dX12_who_195 (lv_at hl 6 rfl) ?_
                    refine lv_iload hx hb dX12_who_197 (lv_at hl 7 rfl) ?_
                    refine sg_calli (va_runV (As := [.int x1, .int y6_161, .int y7_161]) (rest := []) ⟨hx, hb, hml, hown, hts⟩ (kX12_standsBy l D ca za h hh fp_161 L Q hI x1 y6_161 y7_161 (by omega) (by omega) (by omega) H.size) (cwV 3 hts (gw_V (fun _ h => List.mem_cons_of_mem _ h) mw_809 mw_810 mw_811 mw_619 mw_808) rfl rfl rfl (by decide +kernel) ⟨Nat.le_of_ble_eq_true rfl, Nat.le_of_ble_eq_true rfl⟩) (sg_preV (ci := 12) (C := RX12) (T := TX12) (N := 55) hA hK hP hS hZ 0 (by decide) rfl rfl) rfl rfl hl.1 rfl (lv_room (Nat.le_of_ble_eq_true rfl)) dX12_who_199 ⟨Nat.le_refl _, Nat.le_refl _⟩) hA hS (fun r_256 f_253 L_254 Q_255 H locs hq hP hS => ?_)
                    obtain ⟨⟨ef9, eL9, eQ9⟩, hq⟩ := hq
                    rw [ef9, eL9, eQ9] at hP; clear ef9 eL9 eQ9
                    refine lv_goto (tgt := 206) hx hb dX12_who_202 (by decide) ?_
                    refine lv_istore (lv' := [(8, .int r_256), (0, .ref (h 0)), (1, .int x0), (2, .int x1), (3, .int x2), (4, .int y4_161), (5, .int y5_161), (6, .int y6_161), (7, .int y7_161)]) hx hb dX12_who_206 hl (by decide) rfl (fun ls hl => ?_)
                    refine lv_aload_n hx hb dX12_who_208 rfl (lv_at hl 1 rfl) ?_
                    refine sg_get (ci := 12) (v := .ref (h 17)) (C := RX12) (T := TX12) (N := 55) hx hb hts (fun w h => List.mem_cons_of_mem _ (gx_12 w h)) hown hK hP 0 (by decide) rfl rfl 36 (by decide) (hts _ (List.mem_cons_of_mem _ mw_690)) (fun _ h9 => h9) rfl dX12_who_209 ?_
                    refine lv_bipush (v := 61) hx hb dX12_who_212 (by decide) ?_
                    refine lv_iload hx hb dX12_who_214 (lv_at hl 6 rfl) ?_
                    refine lv_iconst (v := 1) hx hb dX12_who_216 (by decide) ?_
                    refine lv_iadd hx hb dX12_who_217 ?_
                    refine lv_topi (fun v_257 ev_257 => ?_)
                    have q_258 : v_257.toInt = y5_161.toInt + 1 := by rw [ev_257]; have k1 : (1 : Int32).toInt = 1 := (by decide); exact (bn_addI (by omega) (by omega)).trans (by omega)
                    refine lv_imul hx hb dX12_who_218 ?_
                    refine lv_topi (fun v_259 ev_259 => ?_)
                    have q_260 : v_259.toInt = 61 * v_257.toInt := by rw [ev_259]; exact bn_mulJ (by decide) (by omega) (by omega)
                    refine lv_iload hx hb dX12_who_219 (lv_at hl 0 rfl) ?_
                    refine lv_iadd hx hb dX12_who_221 ?_
                    refine lv_topi (fun v_261 ev_261 => ?_)
                    have q_262 : v_261.toInt = v_259.toInt + r_256.toInt := by rw [ev_261]; exact (bn_addI (by omega) (by omega)).trans (by omega)
                    refine lv_dup2_11 hx hb dX12_who_222 rfl rfl ?_
                    refine sg_zald hx hb hK hP 17 (by decide) 2 rfl rfl (i := v_261) (vp_in_iff.mpr ⟨by omega, by omega⟩) dX12_who_223 ?_
                    refine lv_topi (fun v_263 ev_263 => ?_)
                    have q_264 : 0 ≤ v_263.toInt ∧ v_263.toInt ≤ 1 := by rw [ev_263]; exact hI 17 _
                    refine lv_aload_n hx hb dX12_who_224 rfl (lv_at hl 1 rfl) ?_
                    refine lv_iload hx hb dX12_who_225 (lv_at hl 8 rfl) ?_
                    refine sg_calli (va_runV (As := [.int y7_161]) (rest := [.int v_263, .int v_261, .ref (h 17)]) ⟨hx, hb, hml, hown, hts⟩ (kX12_may1 l D ca za h hh fp_161 L Q hI y7_161 (by omega) H.size) (cwV 1 hts (gw_V (fun _ h => List.mem_cons_of_mem _ h) mw_757 mw_758 mw_759 mw_619 mw_756) rfl rfl rfl (by decide +kernel) ⟨Nat.le_of_ble_eq_true rfl, Nat.le_of_ble_eq_true rfl⟩) (sg_preV (ci := 12) (C := RX12) (T := TX12) (N := 55) hA hK hP hS hZ 0 (by decide) rfl rfl) rfl rfl hl.1 rfl (lv_room (Nat.le_of_ble_eq_true rfl)) dX12_who_227 ⟨Nat.le_refl _, Nat.le_refl _⟩) hA hS (fun r_268 f_265 L_266 Q_267 H locs hq hP hS => ?_)
                    obtain ⟨⟨ef9, eL9, eQ9⟩, hq⟩ := hq
                    rw [ef9, eL9, eQ9] at hP; clear ef9 eL9 eQ9
                    refine lv_if_eq (tgt := 249) hx hb dX12_who_230 (by decide) (fun c => ?_) (fun c => ?_)
                    · skip
                      have c_269 : r_268.toInt = 0 := (by have z := Int32.toInt_inj.mpr c; have k1 : (0 : Int32).toInt = 0 := (by decide); omega)
                      refine lv_iconst (v := 0) hx hb dX12_who_249 (by decide) ?_
                      refine lv_ior hx hb dX12_who_250 ?_
                      refine lv_topi (fun v_271 ev_271 => ?_)
                      have q_272 : 0 ≤ v_271.toInt ∧ v_271.toInt ≤ 1 := by rw [ev_271]; have k1 : (0 : Int32).toInt = 0 := (by decide); exact bn_or1 (x := v_263) (y := 0) (by omega) (by omega) (by omega) (by omega)
                      refine sg_zast hx hb hh hA hK hP hS 17 (by decide) 2 (fun _ => rfl) rfl (i := v_261) (x := v_271) (vp_in_iff.mpr ⟨by omega, by omega⟩) (bn_nar (by omega) (by omega)) dX12_who_251 (fun f_273 H locs ef_273 hP hS => ?_)
                      have hI : sgI loM hiM f_273 := by rw [ef_273]; exact sgI.put hI 17 v_261.toNatClampNeg (show 0 ≤ (v_271 : Int32).toInt ∧ (v_271 : Int32).toInt ≤ 1 from by omega)
                      have hF : sgK WkX12_who f f_273 := sgK.put hF ef_273 (by rfl)
                      obtain ⟨v_274, ev_274⟩ : ∃ z : Int32, z = y7_161 + 1 := ⟨_, rfl⟩
                      have q_275 : v_274.toInt = y7_161.toInt + 1 := by rw [ev_274]; exact (bn_addc y7_161 1 (by decide) (by omega) (by omega))
                      refine lv_iinc (v := v_274) (lv' := [(7, .int v_274), (8, .int r_256), (0, .ref (h 0)), (1, .int x0), (2, .int x1), (3, .int x2), (4, .int y4_161), (5, .int y5_161), (6, .int y6_161)]) hx hb dX12_who_252 hl (k := 8) rfl (by rw [ev_274]; rfl) (by decide) rfl (fun ls hl => ?_)
                      refine lv_goto (tgt := 161) hx hb dX12_who_255 (by decide) ?_
                      exact ih_161 y4_161 y5_161 y6_161 v_274 f_273 _ _ _ (by omega) (by omega) (by omega) (by omega) (by omega) (by omega) (by omega) (by omega) (by omega) (by omega) hI hF hP hS (lv_sub hl [2, 3, 4, 5, 6, 7, 8, 0] rfl)
                    · skip
                      have c_270 : r_268.toInt ≠ 0 := (by have z := bn_ne c; have k1 : (0 : Int32).toInt = 0 := (by decide); omega)
                      refine lv_aload_n hx hb dX12_who_233 rfl (lv_at hl 1 rfl) ?_
                      refine lv_iload_n hx hb dX12_who_234 rfl (lv_at hl 2 rfl) ?_
                      refine lv_iload hx hb dX12_who_235 (lv_at hl 6 rfl) ?_
                      refine lv_iload hx hb dX12_who_237 (lv_at hl 0 rfl) ?_
                      refine sg_calli (va_runV (As := [.int x0, .int y5_161, .int r_256]) (rest := [.int v_263, .int v_261, .ref (h 17)]) ⟨hx, hb, hml, hown, hts⟩ (kX12_isSeen l D ca za h hh fp_161 L Q hI x0 y5_161 r_256 (by omega) (by omega) (by omega) H.size) (cwV 3 hts (gw_V (fun _ h => List.mem_cons_of_mem _ h) mw_805 mw_806 mw_807 mw_619 mw_804) rfl rfl rfl (by decide +kernel) ⟨Nat.le_of_ble_eq_true rfl, Nat.le_of_ble_eq_true rfl⟩) (sg_preV (ci := 12) (C := RX12) (T := TX12) (N := 55) hA hK hP hS hZ 0 (by decide) rfl rfl) rfl rfl hl.1 rfl (lv_room (Nat.le_of_ble_eq_true rfl)) dX12_who_239 ⟨Nat.le_refl _, Nat.le_refl _⟩) hA hS (fun r_279 f_276 L_277 Q_278 H locs hq hP hS => ?_)
                      obtain ⟨⟨ef9, eL9, eQ9⟩, hq⟩ := hq
                      rw [ef9, eL9, eQ9] at hP; clear ef9 eL9 eQ9
                      refine lv_if_eq (tgt := 249) hx hb dX12_who_242 (by decide) (fun c => ?_) (fun c => ?_)
                      · skip
                        have c_280 : r_279.toInt = 0 := (by have z := Int32.toInt_inj.mpr c; have k1 : (0 : Int32).toInt = 0 := (by decide); omega)
                        refine lv_iconst (v := 0) hx hb dX12_who_249 (by decide) ?_
                        refine lv_ior hx hb dX12_who_250 ?_
                        refine lv_topi (fun v_282 ev_282 => ?_)
                        have q_283 : 0 ≤ v_282.toInt ∧ v_282.toInt ≤ 1 := by rw [ev_282]; have k1 : (0 : Int32).toInt = 0 := (by decide); exact bn_or1 (x := v_263) (y := 0) (by omega) (by omega) (by omega) (by omega)
                        refine sg_zast hx hb hh hA hK hP hS 17 (by decide) 2 (fun _ => rfl) rfl (i := v_261) (x := v_282) (vp_in_iff.mpr ⟨by omega, by omega⟩) (bn_nar (by omega) (by omega)) dX12_who_251 (fun f_284 H locs ef_284 hP hS => ?_)
                        have hI : sgI loM hiM f_284 := by rw [ef_284]; exact sgI.put hI 17 v_261.toNatClampNeg (show 0 ≤ (v_282 : Int32).toInt ∧ (v_282 : Int32).toInt ≤ 1 from by omega)
                        have hF : sgK WkX12_who f f_284 := sgK.put hF ef_284 (by rfl)
                        obtain ⟨v_285, ev_285⟩ : ∃ z : Int32, z = y7_161 + 1 := ⟨_, rfl⟩
                        have q_286 : v_285.toInt = y7_161.toInt + 1 := by rw [ev_285]; exact (bn_addc y7_161 1 (by decide) (by omega) (by omega))
                        refine lv_iinc (v := v_285) (lv' := [(7, .int v_285), (8, .int r_256), (0, .ref (h 0)), (1, .int x0), (2, .int x1), (3, .int x2), (4, .int y4_161), (5, .int y5_161), (6, .int y6_161)]) hx hb dX12_who_252 hl (k := 8) rfl (by rw [ev_285]; rfl) (by decide) rfl (fun ls hl => ?_)
                        refine lv_goto (tgt := 161) hx hb dX12_who_255 (by decide) ?_
                        exact ih_161 y4_161 y5_161 y6_161 v_285 f_284 _ _ _ (by omega) (by omega) (by omega) (by omega) (by omega) (by omega) (by omega) (by omega) (by omega) (by omega) hI hF hP hS (lv_sub hl [2, 3, 4, 5, 6, 7, 8, 0] rfl)
                      · skip
                        have c_281 : r_279.toInt ≠ 0 := (by have z := bn_ne c; have k1 : (0 : Int32).toInt = 0 := (by decide); omega)
                        refine lv_iconst (v := 1) hx hb dX12_who_245 (by decide) ?_
                        refine lv_goto (tgt := 250) hx hb dX12_who_246 (by decide) ?_
                        refine lv_ior hx hb dX12_who_250 ?_
                        refine lv_topi (fun v_287 ev_287 => ?_)
                        have q_288 : 0 ≤ v_287.toInt ∧ v_287.toInt ≤ 1 := by rw [ev_287]; have k1 : (1 : Int32).toInt = 1 := (by decide); exact bn_or1 (x := v_263) (y := 1) (by omega) (by omega) (by omega) (by omega)
                        refine sg_zast hx hb hh hA hK hP hS 17 (by decide) 2 (fun _ => rfl) rfl (i := v_261) (x := v_287) (vp_in_iff.mpr ⟨by omega, by omega⟩) (bn_nar (by omega) (by omega)) dX12_who_251 (fun f_289 H locs ef_289 hP hS => ?_)
                        have hI : sgI loM hiM f_289 := by rw [ef_289]; exact sgI.put hI 17 v_261.toNatClampNeg (show 0 ≤ (v_287 : Int32).toInt ∧ (v_287 : Int32).toInt ≤ 1 from by omega)
                        have hF : sgK WkX12_who f f_289 := sgK.put hF ef_289 (by rfl)
                        obtain ⟨v_290, ev_290⟩ : ∃ z : Int32, z = y7_161 + 1 := ⟨_, rfl⟩
                        have q_291 : v_290.toInt = y7_161.toInt + 1 := by rw [ev_290]; exact (bn_addc y7_161 1 (by decide) (by omega) (by omega))
                        refine lv_iinc (v := v_290) (lv' := [(7, .int v_290), (8, .int r_256), (0, .ref (h 0)), (1, .int x0), (2, .int x1), (3, .int x2), (4, .int y4_161), (5, .int y5_161), (6, .int y6_161)]) hx hb dX12_who_252 hl (k := 8) rfl (by rw [ev_290]; rfl) (by decide) rfl (fun ls hl => ?_)
                        refine lv_goto (tgt := 161) hx hb dX12_who_255 (by decide) ?_
                        exact ih_161 y4_161 y5_161 y6_161 v_290 f_289 _ _ _ (by omega) (by omega) (by omega) (by omega) (by omega) (by omega) (by omega) (by omega) (by omega) (by omega) hI hF hP hS (lv_sub hl [2, 3, 4, 5, 6, 7, 8, 0] rfl)
          intro y4_151 y5_151 y6_151 fp_151 H locs ls hm_151 hm_141 hy0_151 hy1_151 hy2_151 hy3_151 hy4_151 hy5_151 hI hF hP hS hl
          refine lv_iload hx hb dX12_who_151 (lv_at hl 6 rfl) ?_
          refine lv_bipush (v := 61) hx hb dX12_who_153 (by decide) ?_
          refine lv_icmp_ge (tgt := 264) hx hb dX12_who_155 (by decide) (fun c => ?_) (fun c => ?_)
          · skip
            have c_292 : 61 ≤ y6_151.toInt := (by have z := bn_le c; have k1 : (61 : Int32).toInt = 61 := (by decide); omega)
            obtain ⟨v_294, ev_294⟩ : ∃ z : Int32, z = y5_151 + 1 := ⟨_, rfl⟩
            have q_295 : v_294.toInt = y5_151.toInt + 1 := by rw [ev_294]; exact (bn_addc y5_151 1 (by decide) (by omega) (by omega))
            refine lv_iinc (v := v_294) (lv' := [(5, .int v_294), (0, .ref (h 0)), (1, .int x0), (2, .int x1), (3, .int x2), (4, .int y4_151), (6, .int y6_151)]) hx hb dX12_who_264 hl (k := 5) rfl (by rw [ev_294]; rfl) (by decide) rfl (fun ls hl => ?_)
            refine lv_goto (tgt := 141) hx hb dX12_who_267 (by decide) ?_
            exact ih_141 y4_151 v_294 fp_151 _ _ _ (by omega) (by omega) (by omega) (by omega) (by omega) (by omega) hI hF hP hS (lv_sub hl [1, 2, 3, 4, 5, 0] rfl)
          · skip
            have c_293 : y6_151.toInt < 61 := (by have z := bn_nle c; have k1 : (61 : Int32).toInt = 61 := (by decide); omega)
            refine lv_iconst (v := 0) hx hb dX12_who_158 (by decide) ?_
            refine lv_istore (lv' := [(7, .int 0), (0, .ref (h 0)), (1, .int x0), (2, .int x1), (3, .int x2), (4, .int y4_151), (5, .int y5_151), (6, .int y6_151)]) hx hb dX12_who_159 hl (by decide) rfl (fun ls hl => ?_)
            exact loop_161 10 y4_151 y5_151 y6_151 0 fp_151 _ _ _ (by have kc3 : (0 : Int32).toInt = 0 := (by decide); omega) (by have kc3 : (0 : Int32).toInt = 0 := (by decide); omega) (by have kc3 : (0 : Int32).toInt = 0 := (by decide); omega) (by omega) (by omega) (by omega) (by omega) (by omega) (by omega) (by decide) hI hF hP hS (lv_sub hl [1, 2, 3, 4, 5, 6, 7, 0] rfl)
      intro y4_141 y5_141 fp_141 H locs ls hm_141 hy0_141 hy1_141 hy2_141 hy3_141 hy4_141 hI hF hP hS hl
      refine lv_iload hx hb dX12_who_141 (lv_at hl 5 rfl) ?_
      refine lv_iload hx hb dX12_who_143 (lv_at hl 4 rfl) ?_
      refine lv_icmp_ge (tgt := 270) hx hb dX12_who_145 (by decide) (fun c => ?_) (fun c => ?_)
      · skip
        have c_296 : y4_141.toInt ≤ y5_141.toInt := (by have z := bn_le c; omega)
        refine lv_iload hx hb dX12_who_270 (lv_at hl 4 rfl) ?_
        refine lv_iconst (v := 1) hx hb dX12_who_272 (by decide) ?_
        refine lv_isub hx hb dX12_who_273 ?_
        refine lv_topi (fun v_298 ev_298 => ?_)
        have q_299 : v_298.toInt = y4_141.toInt - 1 := by rw [ev_298]; have k1 : (1 : Int32).toInt = 1 := (by decide); exact (bn_subI (by omega) (by omega)).trans (by omega)
        refine lv_istore (lv' := [(5, .int v_298), (0, .ref (h 0)), (1, .int x0), (2, .int x1), (3, .int x2), (4, .int y4_141)]) hx hb dX12_who_274 hl (by decide) rfl (fun ls hl => ?_)
        exact loop_276 13 v_298 fp_141 _ _ _ (by omega) (by omega) (by omega) (by omega) (by omega) hI hF hP hS (lv_sub hl [1, 2, 3, 4, 0] rfl)
      · skip
        have c_297 : y5_141.toInt < y4_141.toInt := (by have z := bn_nle c; omega)
        refine lv_iconst (v := 0) hx hb dX12_who_148 (by decide) ?_
        refine lv_istore (lv' := [(6, .int 0), (0, .ref (h 0)), (1, .int x0), (2, .int x1), (3, .int x2), (4, .int y4_141), (5, .int y5_141)]) hx hb dX12_who_149 hl (by decide) rfl (fun ls hl => ?_)
        exact loop_151 62 y4_141 y5_141 0 fp_141 _ _ _ (by have kc2 : (0 : Int32).toInt = 0 := (by decide); omega) (by have kc2 : (0 : Int32).toInt = 0 := (by decide); omega) (by omega) (by omega) (by omega) (by omega) (by omega) (by decide) hI hF hP hS (lv_sub hl [1, 2, 3, 4, 5, 6, 0] rfl)
  have loop_79 : ∀ (n_79 : Nat) (y4_79 : Int32) (y5_79 : Int32) (fp_79 : sg_F) (H : Heap) (locs : List Loc) (ls : Array Slot), 793 - y5_79.toInt < (n_79 : Int) → 0 ≤ x0.toInt ∧ x0.toInt ≤ 5 → 0 ≤ x1.toInt ∧ x1.toInt ≤ 2 → 0 ≤ x2.toInt ∧ x2.toInt ≤ 11 → 1 ≤ y4_79.toInt ∧ y4_79.toInt ≤ 12 → 0 ≤ y5_79.toInt ∧ y5_79.toInt ≤ 793 → sgI loM hiM fp_79 → sgK WkX12_who f fp_79 → va_P D vwCl (sgw 26 h (eM ca h) fp_79 L Q) H → va_S (sgA 26 h s.heap.size) s.heap H locs → lv_has ls 10 [(0, .ref (h 0)), (1, .int x0), (2, .int x1), (3, .int x2), (4, .int y4_79), (5, .int y5_79)] → W p l e ({ frames := 3, cells := 0, slots := 0, locals := 66 }) s m ([.ref (h 0), .int x0, .int x1, .int x2] : List Value).toArray below meth cd H locs 0 0 Qz (F0 m 79 ls []) := by
    intro n_79
    induction n_79 with
    | zero => intro y4_79 y5_79 fp_79 H locs ls hm_79 hy0_79 hy1_79 hy2_79 hy3_79 hy4_79 hI hF hP hS hl; exact absurd hm_79 (by omega)
    | succ n_79 ih_79 =>
      intro y4_79 y5_79 fp_79 H locs ls hm_79 hy0_79 hy1_79 hy2_79 hy3_79 hy4_79 hI hF hP hS hl
      refine lv_iload hx hb dX12_who_79 (lv_at hl 5 rfl) ?_
      refine lv_sipush (v := 793) hx hb dX12_who_81 (by decide) ?_
      refine lv_icmp_ge (tgt := 138) hx hb dX12_who_84 (by decide) (fun c => ?_) (fun c => ?_)
      · skip
        have c_300 : 793 ≤ y5_79.toInt := (by have z := bn_le c; have k1 : (793 : Int32).toInt = 793 := (by decide); omega)
        refine lv_iconst (v := 0) hx hb dX12_who_138 (by decide) ?_
        refine lv_istore (lv' := [(5, .int 0), (0, .ref (h 0)), (1, .int x0), (2, .int x1), (3, .int x2), (4, .int y4_79)]) hx hb dX12_who_139 hl (by decide) rfl (fun ls hl => ?_)
        exact loop_141 13 y4_79 0 fp_79 _ _ _ (by have kc1 : (0 : Int32).toInt = 0 := (by decide); omega) (by omega) (by omega) (by omega) (by omega) (by decide) hI hF hP hS (lv_sub hl [1, 2, 3, 4, 5, 0] rfl)
      · skip
        have c_301 : y5_79.toInt < 793 := (by have z := bn_nle c; have k1 : (793 : Int32).toInt = 793 := (by decide); omega)
        refine lv_aload_n hx hb dX12_who_87 rfl (lv_at hl 0 rfl) ?_
        refine sg_get (ci := 12) (v := .ref (h 17)) (C := RX12) (T := TX12) (N := 55) hx hb hts (fun w h => List.mem_cons_of_mem _ (gx_12 w h)) hown hK hP 0 (by decide) rfl rfl 36 (by decide) (hts _ (List.mem_cons_of_mem _ mw_690)) (fun _ h9 => h9) rfl dX12_who_88 ?_
        refine lv_iload hx hb dX12_who_91 (lv_at hl 5 rfl) ?_
        refine lv_iload hx hb dX12_who_93 (lv_at hl 5 rfl) ?_
        refine lv_aload_n hx hb dX12_who_95 rfl (lv_at hl 0 rfl) ?_
        refine sg_get (ci := 12) (v := .ref (h 5)) (C := RX12) (T := TX12) (N := 55) hx hb hts (fun w h => List.mem_cons_of_mem _ (gx_12 w h)) hown hK hP 0 (by decide) rfl rfl 7 (by decide) (hts _ (List.mem_cons_of_mem _ mw_607)) (fun _ h9 => h9) rfl dX12_who_96 ?_
        refine lv_iload_n hx hb dX12_who_99 rfl (lv_at hl 2 rfl) ?_
        refine sg_iald hx hb hK hP 5 (by decide) 0 rfl rfl (i := x1) (vp_in_iff.mpr ⟨by omega, by omega⟩) dX12_who_100 ?_
        refine lv_topi (fun v_302 ev_302 => ?_)
        have q_303 : 0 ≤ v_302.toInt ∧ v_302.toInt ≤ 60 := by rw [ev_302]; exact hI 5 _
        refine lv_icmp_ne (tgt := 108) hx hb dX12_who_101 (by decide) (fun c => ?_) (fun c => ?_)
        · skip
          have c_304 : y5_79.toInt ≠ v_302.toInt := (by have z := bn_ne c; omega)
          refine lv_iconst (v := 0) hx hb dX12_who_108 (by decide) ?_
          refine sg_zast hx hb hh hA hK hP hS 17 (by decide) 2 (fun _ => rfl) rfl (i := y5_79) (x := 0) (vp_in_iff.mpr ⟨by omega, by omega⟩) (by decide) dX12_who_109 (fun f_306 H locs ef_306 hP hS => ?_)
          have hI : sgI loM hiM f_306 := by rw [ef_306]; exact sgI.put hI 17 y5_79.toNatClampNeg (show 0 ≤ (0 : Int32).toInt ∧ (0 : Int32).toInt ≤ 1 from by decide)
          have hF : sgK WkX12_who f f_306 := sgK.put hF ef_306 (by rfl)
          refine lv_aload_n hx hb dX12_who_110 rfl (lv_at hl 0 rfl) ?_
          refine sg_get (ci := 12) (v := .ref (h 18)) (C := RX12) (T := TX12) (N := 55) hx hb hts (fun w h => List.mem_cons_of_mem _ (gx_12 w h)) hown hK hP 0 (by decide) rfl rfl 37 (by decide) (hts _ (List.mem_cons_of_mem _ mw_691)) (fun _ h9 => h9) rfl dX12_who_111 ?_
          refine lv_iload hx hb dX12_who_114 (lv_at hl 5 rfl) ?_
          refine lv_iload hx hb dX12_who_116 (lv_at hl 5 rfl) ?_
          refine lv_bipush (v := 61) hx hb dX12_who_118 (by decide) ?_
          refine lv_idiv hx hb dX12_who_120 (by decide) ?_
          refine lv_topi (fun v_307 ev_307 => ?_)
          have q_308 : v_307.toInt = y5_79.toInt / 61 := by rw [ev_307]; exact bn_divI (by omega) (by decide) (by decide)
          refine lv_iload hx hb dX12_who_121 (lv_at hl 4 rfl) ?_
          refine lv_icmp_ne (tgt := 130) hx hb dX12_who_123 (by decide) (fun c => ?_) (fun c => ?_)
          · skip
            have c_309 : v_307.toInt ≠ y4_79.toInt := (by have z := bn_ne c; omega)
            refine lv_iconst (v := 0) hx hb dX12_who_130 (by decide) ?_
            refine sg_zast hx hb hh hA hK hP hS 18 (by decide) 2 (fun _ => rfl) rfl (i := y5_79) (x := 0) (vp_in_iff.mpr ⟨by omega, by omega⟩) (by decide) dX12_who_131 (fun f_311 H locs ef_311 hP hS => ?_)
            have hI : sgI loM hiM f_311 := by rw [ef_311]; exact sgI.put hI 18 y5_79.toNatClampNeg (show 0 ≤ (0 : Int32).toInt ∧ (0 : Int32).toInt ≤ 1 from by decide)
            have hF : sgK WkX12_who f f_311 := sgK.put hF ef_311 (by rfl)
            obtain ⟨v_312, ev_312⟩ : ∃ z : Int32, z = y5_79 + 1 := ⟨_, rfl⟩
            have q_313 : v_312.toInt = y5_79.toInt + 1 := by rw [ev_312]; exact (bn_addc y5_79 1 (by decide) (by omega) (by omega))
            refine lv_iinc (v := v_312) (lv' := [(5, .int v_312), (0, .ref (h 0)), (1, .int x0), (2, .int x1), (3, .int x2), (4, .int y4_79)]) hx hb dX12_who_132 hl (k := 5) rfl (by rw [ev_312]; rfl) (by decide) rfl (fun ls hl => ?_)
            refine lv_goto (tgt := 79) hx hb dX12_who_135 (by decide) ?_
            exact ih_79 y4_79 v_312 f_311 _ _ _ (by omega) (by omega) (by omega) (by omega) (by omega) (by omega) hI hF hP hS (lv_sub hl [1, 2, 3, 4, 5, 0] rfl)
          · skip
            have c_310 : v_307.toInt = y4_79.toInt := (by have z := Int32.toInt_inj.mpr c; omega)
            refine lv_iconst (v := 1) hx hb dX12_who_126 (by decide) ?_
            refine lv_goto (tgt := 131) hx hb dX12_who_127 (by decide) ?_
            refine sg_zast hx hb hh hA hK hP hS 18 (by decide) 2 (fun _ => rfl) rfl (i := y5_79) (x := 1) (vp_in_iff.mpr ⟨by omega, by omega⟩) (by decide) dX12_who_131 (fun f_314 H locs ef_314 hP hS => ?_)
            have hI : sgI loM hiM f_314 := by rw [ef_314]; exact sgI.put hI 18 y5_79.toNatClampNeg (show 0 ≤ (1 : Int32).toInt ∧ (1 : Int32).toInt ≤ 1 from by decide)
            have hF : sgK WkX12_who f f_314 := sgK.put hF ef_314 (by rfl)
            obtain ⟨v_315, ev_315⟩ : ∃ z : Int32, z = y5_79 + 1 := ⟨_, rfl⟩
            have q_316 : v_315.toInt = y5_79.toInt + 1 := by rw [ev_315]; exact (bn_addc y5_79 1 (by decide) (by omega) (by omega))
            refine lv_iinc (v := v_315) (lv' := [(5, .int v_315), (0, .ref (h 0)), (1, .int x0), (2, .int x1), (3, .int x2), (4, .int y4_79)]) hx hb dX12_who_132 hl (k := 5) rfl (by rw [ev_315]; rfl) (by decide) rfl (fun ls hl => ?_)
            refine lv_goto (tgt := 79) hx hb dX12_who_135 (by decide) ?_
            exact ih_79 y4_79 v_315 f_314 _ _ _ (by omega) (by omega) (by omega) (by omega) (by omega) (by omega) hI hF hP hS (lv_sub hl [1, 2, 3, 4, 5, 0] rfl)
        · skip
          have c_305 : y5_79.toInt = v_302.toInt := (by have z := Int32.toInt_inj.mpr c; omega)
          refine lv_iconst (v := 1) hx hb dX12_who_104 (by decide) ?_
          refine lv_goto (tgt := 109) hx hb dX12_who_105 (by decide) ?_
          refine sg_zast hx hb hh hA hK hP hS 17 (by decide) 2 (fun _ => rfl) rfl (i := y5_79) (x := 1) (vp_in_iff.mpr ⟨by omega, by omega⟩) (by decide) dX12_who_109 (fun f_317 H locs ef_317 hP hS => ?_)
          have hI : sgI loM hiM f_317 := by rw [ef_317]; exact sgI.put hI 17 y5_79.toNatClampNeg (show 0 ≤ (1 : Int32).toInt ∧ (1 : Int32).toInt ≤ 1 from by decide)
          have hF : sgK WkX12_who f f_317 := sgK.put hF ef_317 (by rfl)
          refine lv_aload_n hx hb dX12_who_110 rfl (lv_at hl 0 rfl) ?_
          refine sg_get (ci := 12) (v := .ref (h 18)) (C := RX12) (T := TX12) (N := 55) hx hb hts (fun w h => List.mem_cons_of_mem _ (gx_12 w h)) hown hK hP 0 (by decide) rfl rfl 37 (by decide) (hts _ (List.mem_cons_of_mem _ mw_691)) (fun _ h9 => h9) rfl dX12_who_111 ?_
          refine lv_iload hx hb dX12_who_114 (lv_at hl 5 rfl) ?_
          refine lv_iload hx hb dX12_who_116 (lv_at hl 5 rfl) ?_
          refine lv_bipush (v := 61) hx hb dX12_who_118 (by decide) ?_
          refine lv_idiv hx hb dX12_who_120 (by decide) ?_
          refine lv_topi (fun v_318 ev_318 => ?_)
          have q_319 : v_318.toInt = y5_79.toInt / 61 := by rw [ev_318]; exact bn_divI (by omega) (by decide) (by decide)
          refine lv_iload hx hb dX12_who_121 (lv_at hl 4 rfl) ?_
          refine lv_icmp_ne (tgt := 130) hx hb dX12_who_123 (by decide) (fun c => ?_) (fun c => ?_)
          · skip
            have c_320 : v_318.toInt ≠ y4_79.toInt := (by have z := bn_ne c; omega)
            refine lv_iconst (v := 0) hx hb dX12_who_130 (by decide) ?_
            refine sg_zast hx hb hh hA hK hP hS 18 (by decide) 2 (fun _ => rfl) rfl (i := y5_79) (x := 0) (vp_in_iff.mpr ⟨by omega, by omega⟩) (by decide) dX12_who_131 (fun f_322 H locs ef_322 hP hS => ?_)
            have hI : sgI loM hiM f_322 := by rw [ef_322]; exact sgI.put hI 18 y5_79.toNatClampNeg (show 0 ≤ (0 : Int32).toInt ∧ (0 : Int32).toInt ≤ 1 from by decide)
            have hF : sgK WkX12_who f f_322 := sgK.put hF ef_322 (by rfl)
            obtain ⟨v_323, ev_323⟩ : ∃ z : Int32, z = y5_79 + 1 := ⟨_, rfl⟩
            have q_324 : v_323.toInt = y5_79.toInt + 1 := by rw [ev_323]; exact (bn_addc y5_79 1 (by decide) (by omega) (by omega))
            refine lv_iinc (v := v_323) (lv' := [(5, .int v_323), (0, .ref (h 0)), (1, .int x0), (2, .int x1), (3, .int x2), (4, .int y4_79)]) hx hb dX12_who_132 hl (k := 5) rfl (by rw [ev_323]; rfl) (by decide) rfl (fun ls hl => ?_)
            refine lv_goto (tgt := 79) hx hb dX12_who_135 (by decide) ?_
            exact ih_79 y4_79 v_323 f_322 _ _ _ (by omega) (by omega) (by omega) (by omega) (by omega) (by omega) hI hF hP hS (lv_sub hl [1, 2, 3, 4, 5, 0] rfl)
          · skip
            exfalso; have c_321 : v_318.toInt = y4_79.toInt := (by have z := Int32.toInt_inj.mpr c; omega); omega
  refine lv_aload_n hx hb dX12_who_0 rfl (lv_at hl 0 rfl) ?_
  refine lv_iload_n hx hb dX12_who_1 rfl (lv_at hl 1 rfl) ?_
  refine sg_calli (va_runV (As := [.int x0]) (rest := []) ⟨hx, hb, hml, hown, hts⟩ (kX12_bytesIs l D ca za h hh f L Q hI x0 H.size) (cwV 1 hts (gw_V (fun _ h => List.mem_cons_of_mem _ h) mw_685 mw_686 mw_687 mw_619 mw_684) rfl rfl rfl (by decide +kernel) ⟨Nat.le_of_ble_eq_true rfl, Nat.le_of_ble_eq_true rfl⟩) (sg_preV (ci := 12) (C := RX12) (T := TX12) (N := 55) hA hK hP hS hZ 0 (by decide) rfl rfl) rfl rfl hl.1 rfl (lv_room (Nat.le_of_ble_eq_true rfl)) dX12_who_2 ⟨Nat.le_refl _, Nat.le_refl _⟩) hA hS (fun r_328 f_325 L_326 Q_327 H locs hq hP hS => ?_)
  obtain ⟨⟨ef9, eL9, eQ9⟩, hq⟩ := hq
  rw [ef9, eL9, eQ9] at hP; clear ef9 eL9 eQ9
  rcases hq with ⟨rfl, hq⟩ | hq | ⟨rfl, hq⟩
  · skip
    have q_329 := hq
    refine lv_iconst (v := (-1)) hx hb dX12_who_5 (by decide) ?_
    refine lv_icmp_eq (tgt := 28) hx hb dX12_who_6 (by decide) (fun c => absurd c (by decide)) (fun c => ?_)
    refine lv_iload_n hx hb dX12_who_9 rfl (lv_at hl 2 rfl) ?_
    refine sg_calli (va_runS (As := [.int x1]) (rest := []) ⟨hx, hb, hml, hown, hts⟩ (kX12_isPart l D ca za h hh f L Q hI x1 H.size) (va_cwS 1 hts (gw_S (fun _ h => List.mem_cons_of_mem _ h) mw_636 mw_637 mw_619 mw_635) rfl rfl rfl (by decide +kernel) ⟨Nat.le_of_ble_eq_true rfl, Nat.le_of_ble_eq_true rfl⟩) (sg_preS hA hK hP hS hZ) rfl rfl hl.1 rfl (lv_room (Nat.le_of_ble_eq_true rfl)) dX12_who_10 ⟨Nat.le_refl _, Nat.le_refl _⟩) hA hS (fun r_333 f_330 L_331 Q_332 H locs hq hP hS => ?_)
    obtain ⟨⟨ef9, eL9, eQ9⟩, hq⟩ := hq
    rw [ef9, eL9, eQ9] at hP; clear ef9 eL9 eQ9
    rcases hq with ⟨rfl, hq⟩ | ⟨rfl, hq⟩
    · skip
      have q_334 := hq
      refine lv_if_eq (tgt := 28) hx hb dX12_who_13 (by decide) (fun c => absurd c (by decide)) (fun c => ?_)
      refine lv_iload_n hx hb dX12_who_16 rfl (lv_at hl 3 rfl) ?_
      obtain ⟨w_335, ew_335⟩ : ∃ z : Int64, z = Int32.toInt64 x2 := ⟨_, rfl⟩
      have q_336 : w_335.toInt = x2.toInt := by rw [ew_335]; exact Int32.toInt_toInt64 _
      refine lv_i2l (v := w_335) hx hb dX12_who_17 ew_335.symm ?_
      refine lv_lconst (v := 0) hx hb dX12_who_18 (by decide) ?_
      refine lv_ldc2 (v := 11) hx hb hown (hts _ (List.mem_cons_of_mem _ mw_689)) dX12_who_19 ?_
      refine sg_calli (va_runS (As := [.long w_335, .long 0, .long 11]) (rest := []) ⟨hx, hb, hml, hown, hts⟩ (kX12_within l D ca za h hh f L Q hI w_335 0 11 H.size) (va_cwS 3 hts (gw_S (fun _ h => List.mem_cons_of_mem _ h) mw_631 mw_632 mw_619 mw_630) rfl rfl rfl (by decide +kernel) ⟨Nat.le_of_ble_eq_true rfl, Nat.le_of_ble_eq_true rfl⟩) (sg_preS hA hK hP hS hZ) rfl rfl hl.1 rfl (lv_room (Nat.le_of_ble_eq_true rfl)) dX12_who_22 ⟨Nat.le_refl _, Nat.le_refl _⟩) hA hS (fun r_340 f_337 L_338 Q_339 H locs hq hP hS => ?_)
      obtain ⟨⟨ef9, eL9, eQ9⟩, hq⟩ := hq
      rw [ef9, eL9, eQ9] at hP; clear ef9 eL9 eQ9
      have k_341 : (0 : Int64).toInt = 0 := by decide
      have k_342 : (11 : Int64).toInt = 11 := by decide
      rcases hq with ⟨rfl, hq⟩ | ⟨rfl, hq⟩
      · skip
        have q_343 := hq
        refine lv_if_ne (tgt := 30) hx hb dX12_who_25 (by decide) (fun c => ?_) (fun c => absurd c (by decide))
        refine lv_aload_n hx hb dX12_who_30 rfl (lv_at hl 0 rfl) ?_
        refine lv_iload_n hx hb dX12_who_31 rfl (lv_at hl 1 rfl) ?_
        refine sg_calli (va_runV (As := [.int x0]) (rest := []) ⟨hx, hb, hml, hown, hts⟩ (kX12_bytesIs l D ca za h hh f L Q hI x0 H.size) (cwV 1 hts (gw_V (fun _ h => List.mem_cons_of_mem _ h) mw_685 mw_686 mw_687 mw_619 mw_684) rfl rfl rfl (by decide +kernel) ⟨Nat.le_of_ble_eq_true rfl, Nat.le_of_ble_eq_true rfl⟩) (sg_preV (ci := 12) (C := RX12) (T := TX12) (N := 55) hA hK hP hS hZ 0 (by decide) rfl rfl) rfl rfl hl.1 rfl (lv_room (Nat.le_of_ble_eq_true rfl)) dX12_who_32 ⟨Nat.le_refl _, Nat.le_refl _⟩) hA hS (fun r_347 f_344 L_345 Q_346 H locs hq hP hS => ?_)
        obtain ⟨⟨ef9, eL9, eQ9⟩, hq⟩ := hq
        rw [ef9, eL9, eQ9] at hP; clear ef9 eL9 eQ9
        rcases hq with ⟨rfl, hq⟩ | hq | ⟨rfl, hq⟩
        · skip
          have q_348 := hq
          refine lv_if_ge (tgt := 44) hx hb dX12_who_35 (by decide) (fun c => ?_) (fun c => absurd c (by decide))
          refine lv_aload_n hx hb dX12_who_44 rfl (lv_at hl 0 rfl) ?_
          refine sg_get (ci := 12) (v := .ref (h 23)) (C := RX12) (T := TX12) (N := 55) hx hb hts (fun w h => List.mem_cons_of_mem _ (gx_12 w h)) hown hK hP 0 (by decide) rfl rfl 52 (by decide) (hts _ (List.mem_cons_of_mem _ mw_645)) (fun _ h9 => h9) rfl dX12_who_45 ?_
          refine lv_iload_n hx hb dX12_who_48 rfl (lv_at hl 1 rfl) ?_
          refine sg_iald hx hb hK hP 23 (by decide) 0 rfl rfl (i := x0) (vp_in_iff.mpr ⟨by omega, by omega⟩) dX12_who_49 ?_
          refine lv_topi (fun v_349 ev_349 => ?_)
          have q_350 : 0 ≤ v_349.toInt ∧ v_349.toInt ≤ 60 := by rw [ev_349]; exact hI 23 _
          refine lv_bipush (v := 12) hx hb dX12_who_50 (by decide) ?_
          refine lv_icmp_ge (tgt := 64) hx hb dX12_who_52 (by decide) (fun c => ?_) (fun c => ?_)
          · skip
            have c_351 : 12 ≤ v_349.toInt := (by have z := bn_le c; have k1 : (12 : Int32).toInt = 12 := (by decide); omega)
            refine lv_bipush (v := 12) hx hb dX12_who_64 (by decide) ?_
            refine lv_istore (lv' := [(4, .int 12), (0, .ref (h 0)), (1, .int x0), (2, .int x1), (3, .int x2)]) hx hb dX12_who_66 hl (by decide) rfl (fun ls hl => ?_)
            refine lv_iload_n hx hb dX12_who_68 rfl (lv_at hl 4 rfl) ?_
            refine lv_iload hx hb dX12_who_69 (lv_at hl 0 rfl) ?_
            refine lv_icmp_lt (tgt := 76) hx hb dX12_who_71 (by decide) (fun c => ?_) (fun c => ?_)
            · skip
              have c_353 : x2.toInt < 12 := (by have z := bn_lt c; have k1 : (12 : Int32).toInt = 12 := (by decide); omega)
              refine lv_iconst (v := 0) hx hb dX12_who_76 (by decide) ?_
              refine lv_istore (lv' := [(5, .int 0), (4, .int 12), (0, .ref (h 0)), (1, .int x0), (2, .int x1), (3, .int x2)]) hx hb dX12_who_77 hl (by decide) rfl (fun ls hl => ?_)
              exact loop_79 794 12 0 f _ _ _ (by have kc0 : (12 : Int32).toInt = 12 := (by decide); have kc1 : (0 : Int32).toInt = 0 := (by decide); omega) (by omega) (by omega) (by omega) (by decide) (by decide) hI hF hP hS (lv_sub hl [2, 3, 4, 5, 1, 0] rfl)
            · skip
              exfalso; have c_354 : 12 ≤ x2.toInt := (by have z := bn_nlt c; have k1 : (12 : Int32).toInt = 12 := (by decide); omega); omega
          · skip
            have c_352 : v_349.toInt < 12 := (by have z := bn_nle c; have k1 : (12 : Int32).toInt = 12 := (by decide); omega)
            refine lv_aload_n hx hb dX12_who_55 rfl (lv_at hl 0 rfl) ?_
            refine sg_get (ci := 12) (v := .ref (h 23)) (C := RX12) (T := TX12) (N := 55) hx hb hts (fun w h => List.mem_cons_of_mem _ (gx_12 w h)) hown hK hP 0 (by decide) rfl rfl 52 (by decide) (hts _ (List.mem_cons_of_mem _ mw_645)) (fun _ h9 => h9) rfl dX12_who_56 ?_
            refine lv_iload_n hx hb dX12_who_59 rfl (lv_at hl 1 rfl) ?_
            refine sg_iald hx hb hK hP 23 (by decide) 0 rfl rfl (i := x0) (vp_in_iff.mpr ⟨by omega, by omega⟩) dX12_who_60 ?_
            rw [← ev_349]
            refine lv_goto (tgt := 66) hx hb dX12_who_61 (by decide) ?_
            refine lv_istore (lv' := [(4, .int v_349), (0, .ref (h 0)), (1, .int x0), (2, .int x1), (3, .int x2)]) hx hb dX12_who_66 hl (by decide) rfl (fun ls hl => ?_)
            refine lv_iload_n hx hb dX12_who_68 rfl (lv_at hl 4 rfl) ?_
            refine lv_iload hx hb dX12_who_69 (lv_at hl 0 rfl) ?_
            refine lv_icmp_lt (tgt := 76) hx hb dX12_who_71 (by decide) (fun c => ?_) (fun c => ?_)
            · skip
              have c_355 : x2.toInt < v_349.toInt := (by have z := bn_lt c; omega)
              refine lv_iconst (v := 0) hx hb dX12_who_76 (by decide) ?_
              refine lv_istore (lv' := [(5, .int 0), (4, .int v_349), (0, .ref (h 0)), (1, .int x0), (2, .int x1), (3, .int x2)]) hx hb dX12_who_77 hl (by decide) rfl (fun ls hl => ?_)
              exact loop_79 794 v_349 0 f _ _ _ (by have kc1 : (0 : Int32).toInt = 0 := (by decide); omega) (by omega) (by omega) (by omega) (by omega) (by decide) hI hF hP hS (lv_sub hl [2, 3, 4, 5, 1, 0] rfl)
            · skip
              have c_356 : v_349.toInt ≤ x2.toInt := (by have z := bn_nlt c; omega)
              refine lv_iconst (v := (-1)) hx hb dX12_who_74 (by decide) ?_
              have k99 : ((-1) : Int32).toInt = (-1) := (by decide)
              exact hret _ _ _ _ (-1) f L Q dX12_who_75 hP hS ⟨⟨hI, hF, rfl, rfl⟩, trivial⟩
        · skip
          have q_357 := hq
          refine lv_if_ge (tgt := 44) hx hb dX12_who_35 (by decide) (fun c => ?_) (fun c => ?_)
          · skip
            exfalso; have c_358 : 0 ≤ r_347.toInt := (by have z := bn_le c; have k1 : (0 : Int32).toInt = 0 := (by decide); omega); omega
          · skip
            have c_359 : r_347.toInt < 0 := (by have z := bn_nle c; have k1 : (0 : Int32).toInt = 0 := (by decide); omega)
            refine lv_aload_n hx hb dX12_who_38 rfl (lv_at hl 0 rfl) ?_
            refine lv_iload_n hx hb dX12_who_39 rfl (lv_at hl 1 rfl) ?_
            refine sg_calli (va_runV (As := [.int x0]) (rest := []) ⟨hx, hb, hml, hown, hts⟩ (kX12_bytesIs l D ca za h hh f L Q hI x0 H.size) (cwV 1 hts (gw_V (fun _ h => List.mem_cons_of_mem _ h) mw_685 mw_686 mw_687 mw_619 mw_684) rfl rfl rfl (by decide +kernel) ⟨Nat.le_of_ble_eq_true rfl, Nat.le_of_ble_eq_true rfl⟩) (sg_preV (ci := 12) (C := RX12) (T := TX12) (N := 55) hA hK hP hS hZ 0 (by decide) rfl rfl) rfl rfl hl.1 rfl (lv_room (Nat.le_of_ble_eq_true rfl)) dX12_who_40 ⟨Nat.le_refl _, Nat.le_refl _⟩) hA hS (fun r_363 f_360 L_361 Q_362 H locs hq hP hS => ?_)
            obtain ⟨⟨ef9, eL9, eQ9⟩, hq⟩ := hq
            rw [ef9, eL9, eQ9] at hP; clear ef9 eL9 eQ9
            rcases hq with ⟨rfl, hq⟩ | hq | ⟨rfl, hq⟩
            · skip
              have q_364 := hq
              have k99 : (1 : Int32).toInt = 1 := (by decide)
              exact hret _ _ _ _ (1) f L Q dX12_who_43 hP hS ⟨⟨hI, hF, rfl, rfl⟩, trivial⟩
            · skip
              have q_365 := hq
              exact hret _ _ _ _ (r_363) f L Q dX12_who_43 hP hS ⟨⟨hI, hF, rfl, rfl⟩, trivial⟩
            · skip
              have q_366 := hq
              have k99 : ((-1) : Int32).toInt = (-1) := (by decide)
              exact hret _ _ _ _ (-1) f L Q dX12_who_43 hP hS ⟨⟨hI, hF, rfl, rfl⟩, trivial⟩
        · skip
          have q_367 := hq
          refine lv_if_ge (tgt := 44) hx hb dX12_who_35 (by decide) (fun c => absurd c (by decide)) (fun c => ?_)
          refine lv_aload_n hx hb dX12_who_38 rfl (lv_at hl 0 rfl) ?_
          refine lv_iload_n hx hb dX12_who_39 rfl (lv_at hl 1 rfl) ?_
          refine sg_calli (va_runV (As := [.int x0]) (rest := []) ⟨hx, hb, hml, hown, hts⟩ (kX12_bytesIs l D ca za h hh f L Q hI x0 H.size) (cwV 1 hts (gw_V (fun _ h => List.mem_cons_of_mem _ h) mw_685 mw_686 mw_687 mw_619 mw_684) rfl rfl rfl (by decide +kernel) ⟨Nat.le_of_ble_eq_true rfl, Nat.le_of_ble_eq_true rfl⟩) (sg_preV (ci := 12) (C := RX12) (T := TX12) (N := 55) hA hK hP hS hZ 0 (by decide) rfl rfl) rfl rfl hl.1 rfl (lv_room (Nat.le_of_ble_eq_true rfl)) dX12_who_40 ⟨Nat.le_refl _, Nat.le_refl _⟩) hA hS (fun r_371 f_368 L_369 Q_370 H locs hq hP hS => ?_)
          obtain ⟨⟨ef9, eL9, eQ9⟩, hq⟩ := hq
          rw [ef9, eL9, eQ9] at hP; clear ef9 eL9 eQ9
          rcases hq with ⟨rfl, hq⟩ | hq | ⟨rfl, hq⟩
          · skip
            have q_372 := hq
            have k99 : (1 : Int32).toInt = 1 := (by decide)
            exact hret _ _ _ _ (1) f L Q dX12_who_43 hP hS ⟨⟨hI, hF, rfl, rfl⟩, trivial⟩
          · skip
            have q_373 := hq
            exact hret _ _ _ _ (r_371) f L Q dX12_who_43 hP hS ⟨⟨hI, hF, rfl, rfl⟩, trivial⟩
          · skip
            have q_374 := hq
            have k99 : ((-1) : Int32).toInt = (-1) := (by decide)
            exact hret _ _ _ _ (-1) f L Q dX12_who_43 hP hS ⟨⟨hI, hF, rfl, rfl⟩, trivial⟩
      · skip
        have q_375 := hq
        refine lv_if_ne (tgt := 30) hx hb dX12_who_25 (by decide) (fun c => absurd c (by decide)) (fun c => ?_)
        refine lv_iconst (v := (-1)) hx hb dX12_who_28 (by decide) ?_
        have k99 : ((-1) : Int32).toInt = (-1) := (by decide)
        exact hret _ _ _ _ (-1) f L Q dX12_who_29 hP hS ⟨⟨hI, hF, rfl, rfl⟩, trivial⟩
    · skip
      have q_376 := hq
      refine lv_if_eq (tgt := 28) hx hb dX12_who_13 (by decide) (fun c => ?_) (fun c => absurd c (by decide))
      refine lv_iconst (v := (-1)) hx hb dX12_who_28 (by decide) ?_
      have k99 : ((-1) : Int32).toInt = (-1) := (by decide)
      exact hret _ _ _ _ (-1) f L Q dX12_who_29 hP hS ⟨⟨hI, hF, rfl, rfl⟩, trivial⟩
  · skip
    have q_377 := hq
    refine lv_iconst (v := (-1)) hx hb dX12_who_5 (by decide) ?_
    refine lv_icmp_eq (tgt := 28) hx hb dX12_who_6 (by decide) (fun c => ?_) (fun c => ?_)
    · skip
      exfalso; have c_378 : r_328.toInt = (-1) := (by have z := Int32.toInt_inj.mpr c; have k1 : ((-1) : Int32).toInt = (-1) := (by decide); omega); omega
    · skip
      have c_379 : r_328.toInt ≠ (-1) := (by have z := bn_ne c; have k1 : ((-1) : Int32).toInt = (-1) := (by decide); omega)
      refine lv_iload_n hx hb dX12_who_9 rfl (lv_at hl 2 rfl) ?_
      refine sg_calli (va_runS (As := [.int x1]) (rest := []) ⟨hx, hb, hml, hown, hts⟩ (kX12_isPart l D ca za h hh f L Q hI x1 H.size) (va_cwS 1 hts (gw_S (fun _ h => List.mem_cons_of_mem _ h) mw_636 mw_637 mw_619 mw_635) rfl rfl rfl (by decide +kernel) ⟨Nat.le_of_ble_eq_true rfl, Nat.le_of_ble_eq_true rfl⟩) (sg_preS hA hK hP hS hZ) rfl rfl hl.1 rfl (lv_room (Nat.le_of_ble_eq_true rfl)) dX12_who_10 ⟨Nat.le_refl _, Nat.le_refl _⟩) hA hS (fun r_383 f_380 L_381 Q_382 H locs hq hP hS => ?_)
      obtain ⟨⟨ef9, eL9, eQ9⟩, hq⟩ := hq
      rw [ef9, eL9, eQ9] at hP; clear ef9 eL9 eQ9
      rcases hq with ⟨rfl, hq⟩ | ⟨rfl, hq⟩
      · skip
        have q_384 := hq
        refine lv_if_eq (tgt := 28) hx hb dX12_who_13 (by decide) (fun c => absurd c (by decide)) (fun c => ?_)
        refine lv_iload_n hx hb dX12_who_16 rfl (lv_at hl 3 rfl) ?_
        obtain ⟨w_385, ew_385⟩ : ∃ z : Int64, z = Int32.toInt64 x2 := ⟨_, rfl⟩
        have q_386 : w_385.toInt = x2.toInt := by rw [ew_385]; exact Int32.toInt_toInt64 _
        refine lv_i2l (v := w_385) hx hb dX12_who_17 ew_385.symm ?_
        refine lv_lconst (v := 0) hx hb dX12_who_18 (by decide) ?_
        refine lv_ldc2 (v := 11) hx hb hown (hts _ (List.mem_cons_of_mem _ mw_689)) dX12_who_19 ?_
        refine sg_calli (va_runS (As := [.long w_385, .long 0, .long 11]) (rest := []) ⟨hx, hb, hml, hown, hts⟩ (kX12_within l D ca za h hh f L Q hI w_385 0 11 H.size) (va_cwS 3 hts (gw_S (fun _ h => List.mem_cons_of_mem _ h) mw_631 mw_632 mw_619 mw_630) rfl rfl rfl (by decide +kernel) ⟨Nat.le_of_ble_eq_true rfl, Nat.le_of_ble_eq_true rfl⟩) (sg_preS hA hK hP hS hZ) rfl rfl hl.1 rfl (lv_room (Nat.le_of_ble_eq_true rfl)) dX12_who_22 ⟨Nat.le_refl _, Nat.le_refl _⟩) hA hS (fun r_390 f_387 L_388 Q_389 H locs hq hP hS => ?_)
        obtain ⟨⟨ef9, eL9, eQ9⟩, hq⟩ := hq
        rw [ef9, eL9, eQ9] at hP; clear ef9 eL9 eQ9
        have k_391 : (0 : Int64).toInt = 0 := by decide
        have k_392 : (11 : Int64).toInt = 11 := by decide
        rcases hq with ⟨rfl, hq⟩ | ⟨rfl, hq⟩
        · skip
          have q_393 := hq
          refine lv_if_ne (tgt := 30) hx hb dX12_who_25 (by decide) (fun c => ?_) (fun c => absurd c (by decide))
          refine lv_aload_n hx hb dX12_who_30 rfl (lv_at hl 0 rfl) ?_
          refine lv_iload_n hx hb dX12_who_31 rfl (lv_at hl 1 rfl) ?_
          refine sg_calli (va_runV (As := [.int x0]) (rest := []) ⟨hx, hb, hml, hown, hts⟩ (kX12_bytesIs l D ca za h hh f L Q hI x0 H.size) (cwV 1 hts (gw_V (fun _ h => List.mem_cons_of_mem _ h) mw_685 mw_686 mw_687 mw_619 mw_684) rfl rfl rfl (by decide +kernel) ⟨Nat.le_of_ble_eq_true rfl, Nat.le_of_ble_eq_true rfl⟩) (sg_preV (ci := 12) (C := RX12) (T := TX12) (N := 55) hA hK hP hS hZ 0 (by decide) rfl rfl) rfl rfl hl.1 rfl (lv_room (Nat.le_of_ble_eq_true rfl)) dX12_who_32 ⟨Nat.le_refl _, Nat.le_refl _⟩) hA hS (fun r_397 f_394 L_395 Q_396 H locs hq hP hS => ?_)
          obtain ⟨⟨ef9, eL9, eQ9⟩, hq⟩ := hq
          rw [ef9, eL9, eQ9] at hP; clear ef9 eL9 eQ9
          rcases hq with ⟨rfl, hq⟩ | hq | ⟨rfl, hq⟩
          · skip
            have q_398 := hq
            refine lv_if_ge (tgt := 44) hx hb dX12_who_35 (by decide) (fun c => ?_) (fun c => absurd c (by decide))
            refine lv_aload_n hx hb dX12_who_44 rfl (lv_at hl 0 rfl) ?_
            refine sg_get (ci := 12) (v := .ref (h 23)) (C := RX12) (T := TX12) (N := 55) hx hb hts (fun w h => List.mem_cons_of_mem _ (gx_12 w h)) hown hK hP 0 (by decide) rfl rfl 52 (by decide) (hts _ (List.mem_cons_of_mem _ mw_645)) (fun _ h9 => h9) rfl dX12_who_45 ?_
            refine lv_iload_n hx hb dX12_who_48 rfl (lv_at hl 1 rfl) ?_
            refine sg_iald hx hb hK hP 23 (by decide) 0 rfl rfl (i := x0) (vp_in_iff.mpr ⟨by omega, by omega⟩) dX12_who_49 ?_
            refine lv_topi (fun v_399 ev_399 => ?_)
            have q_400 : 0 ≤ v_399.toInt ∧ v_399.toInt ≤ 60 := by rw [ev_399]; exact hI 23 _
            refine lv_bipush (v := 12) hx hb dX12_who_50 (by decide) ?_
            refine lv_icmp_ge (tgt := 64) hx hb dX12_who_52 (by decide) (fun c => ?_) (fun c => ?_)
            · skip
              have c_401 : 12 ≤ v_399.toInt := (by have z := bn_le c; have k1 : (12 : Int32).toInt = 12 := (by decide); omega)
              refine lv_bipush (v := 12) hx hb dX12_who_64 (by decide) ?_
              refine lv_istore (lv' := [(4, .int 12), (0, .ref (h 0)), (1, .int x0), (2, .int x1), (3, .int x2)]) hx hb dX12_who_66 hl (by decide) rfl (fun ls hl => ?_)
              refine lv_iload_n hx hb dX12_who_68 rfl (lv_at hl 4 rfl) ?_
              refine lv_iload hx hb dX12_who_69 (lv_at hl 0 rfl) ?_
              refine lv_icmp_lt (tgt := 76) hx hb dX12_who_71 (by decide) (fun c => ?_) (fun c => ?_)
              · skip
                have c_403 : x2.toInt < 12 := (by have z := bn_lt c; have k1 : (12 : Int32).toInt = 12 := (by decide); omega)
                refine lv_iconst (v := 0) hx hb dX12_who_76 (by decide) ?_
                refine lv_istore (lv' := [(5, .int 0), (4, .int 12), (0, .ref (h 0)), (1, .int x0), (2, .int x1), (3, .int x2)]) hx hb dX12_who_77 hl (by decide) rfl (fun ls hl => ?_)
                exact loop_79 794 12 0 f _ _ _ (by have kc0 : (12 : Int32).toInt = 12 := (by decide); have kc1 : (0 : Int32).toInt = 0 := (by decide); omega) (by omega) (by omega) (by omega) (by decide) (by decide) hI hF hP hS (lv_sub hl [2, 3, 4, 5, 1, 0] rfl)
              · skip
                exfalso; have c_404 : 12 ≤ x2.toInt := (by have z := bn_nlt c; have k1 : (12 : Int32).toInt = 12 := (by decide); omega); omega
            · skip
              have c_402 : v_399.toInt < 12 := (by have z := bn_nle c; have k1 : (12 : Int32).toInt = 12 := (by decide); omega)
              refine lv_aload_n hx hb dX12_who_55 rfl (lv_at hl 0 rfl) ?_
              refine sg_get (ci := 12) (v := .ref (h 23)) (C := RX12) (T := TX12) (N := 55) hx hb hts (fun w h => List.mem_cons_of_mem _ (gx_12 w h)) hown hK hP 0 (by decide) rfl rfl 52 (by decide) (hts _ (List.mem_cons_of_mem _ mw_645)) (fun _ h9 => h9) rfl dX12_who_56 ?_
              refine lv_iload_n hx hb dX12_who_59 rfl (lv_at hl 1 rfl) ?_
              refine sg_iald hx hb hK hP 23 (by decide) 0 rfl rfl (i := x0) (vp_in_iff.mpr ⟨by omega, by omega⟩) dX12_who_60 ?_
              rw [← ev_399]
              refine lv_goto (tgt := 66) hx hb dX12_who_61 (by decide) ?_
              refine lv_istore (lv' := [(4, .int v_399), (0, .ref (h 0)), (1, .int x0), (2, .int x1), (3, .int x2)]) hx hb dX12_who_66 hl (by decide) rfl (fun ls hl => ?_)
              refine lv_iload_n hx hb dX12_who_68 rfl (lv_at hl 4 rfl) ?_
              refine lv_iload hx hb dX12_who_69 (lv_at hl 0 rfl) ?_
              refine lv_icmp_lt (tgt := 76) hx hb dX12_who_71 (by decide) (fun c => ?_) (fun c => ?_)
              · skip
                have c_405 : x2.toInt < v_399.toInt := (by have z := bn_lt c; omega)
                refine lv_iconst (v := 0) hx hb dX12_who_76 (by decide) ?_
                refine lv_istore (lv' := [(5, .int 0), (4, .int v_399), (0, .ref (h 0)), (1, .int x0), (2, .int x1), (3, .int x2)]) hx hb dX12_who_77 hl (by decide) rfl (fun ls hl => ?_)
                exact loop_79 794 v_399 0 f _ _ _ (by have kc1 : (0 : Int32).toInt = 0 := (by decide); omega) (by omega) (by omega) (by omega) (by omega) (by decide) hI hF hP hS (lv_sub hl [2, 3, 4, 5, 1, 0] rfl)
              · skip
                have c_406 : v_399.toInt ≤ x2.toInt := (by have z := bn_nlt c; omega)
                refine lv_iconst (v := (-1)) hx hb dX12_who_74 (by decide) ?_
                have k99 : ((-1) : Int32).toInt = (-1) := (by decide)
                exact hret _ _ _ _ (-1) f L Q dX12_who_75 hP hS ⟨⟨hI, hF, rfl, rfl⟩, trivial⟩
          · skip
            have q_407 := hq
            refine lv_if_ge (tgt := 44) hx hb dX12_who_35 (by decide) (fun c => ?_) (fun c => ?_)
            · skip
              exfalso; have c_408 : 0 ≤ r_397.toInt := (by have z := bn_le c; have k1 : (0 : Int32).toInt = 0 := (by decide); omega); omega
            · skip
              have c_409 : r_397.toInt < 0 := (by have z := bn_nle c; have k1 : (0 : Int32).toInt = 0 := (by decide); omega)
              refine lv_aload_n hx hb dX12_who_38 rfl (lv_at hl 0 rfl) ?_
              refine lv_iload_n hx hb dX12_who_39 rfl (lv_at hl 1 rfl) ?_
              refine sg_calli (va_runV (As := [.int x0]) (rest := []) ⟨hx, hb, hml, hown, hts⟩ (kX12_bytesIs l D ca za h hh f L Q hI x0 H.size) (cwV 1 hts (gw_V (fun _ h => List.mem_cons_of_mem _ h) mw_685 mw_686 mw_687 mw_619 mw_684) rfl rfl rfl (by decide +kernel) ⟨Nat.le_of_ble_eq_true rfl, Nat.le_of_ble_eq_true rfl⟩) (sg_preV (ci := 12) (C := RX12) (T := TX12) (N := 55) hA hK hP hS hZ 0 (by decide) rfl rfl) rfl rfl hl.1 rfl (lv_room (Nat.le_of_ble_eq_true rfl)) dX12_who_40 ⟨Nat.le_refl _, Nat.le_refl _⟩) hA hS (fun r_413 f_410 L_411 Q_412 H locs hq hP hS => ?_)
              obtain ⟨⟨ef9, eL9, eQ9⟩, hq⟩ := hq
              rw [ef9, eL9, eQ9] at hP; clear ef9 eL9 eQ9
              rcases hq with ⟨rfl, hq⟩ | hq | ⟨rfl, hq⟩
              · skip
                have q_414 := hq
                have k99 : (1 : Int32).toInt = 1 := (by decide)
                exact hret _ _ _ _ (1) f L Q dX12_who_43 hP hS ⟨⟨hI, hF, rfl, rfl⟩, trivial⟩
              · skip
                have q_415 := hq
                exact hret _ _ _ _ (r_413) f L Q dX12_who_43 hP hS ⟨⟨hI, hF, rfl, rfl⟩, trivial⟩
              · skip
                have q_416 := hq
                have k99 : ((-1) : Int32).toInt = (-1) := (by decide)
                exact hret _ _ _ _ (-1) f L Q dX12_who_43 hP hS ⟨⟨hI, hF, rfl, rfl⟩, trivial⟩
          · skip
            have q_417 := hq
            refine lv_if_ge (tgt := 44) hx hb dX12_who_35 (by decide) (fun c => absurd c (by decide)) (fun c => ?_)
            refine lv_aload_n hx hb dX12_who_38 rfl (lv_at hl 0 rfl) ?_
            refine lv_iload_n hx hb dX12_who_39 rfl (lv_at hl 1 rfl) ?_
            refine sg_calli (va_runV (As := [.int x0]) (rest := []) ⟨hx, hb, hml, hown, hts⟩ (kX12_bytesIs l D ca za h hh f L Q hI x0 H.size) (cwV 1 hts (gw_V (fun _ h => List.mem_cons_of_mem _ h) mw_685 mw_686 mw_687 mw_619 mw_684) rfl rfl rfl (by decide +kernel) ⟨Nat.le_of_ble_eq_true rfl, Nat.le_of_ble_eq_true rfl⟩) (sg_preV (ci := 12) (C := RX12) (T := TX12) (N := 55) hA hK hP hS hZ 0 (by decide) rfl rfl) rfl rfl hl.1 rfl (lv_room (Nat.le_of_ble_eq_true rfl)) dX12_who_40 ⟨Nat.le_refl _, Nat.le_refl _⟩) hA hS (fun r_421 f_418 L_419 Q_420 H locs hq hP hS => ?_)
            obtain ⟨⟨ef9, eL9, eQ9⟩, hq⟩ := hq
            rw [ef9, eL9, eQ9] at hP; clear ef9 eL9 eQ9
            rcases hq with ⟨rfl, hq⟩ | hq | ⟨rfl, hq⟩
            · skip
              have q_422 := hq
              have k99 : (1 : Int32).toInt = 1 := (by decide)
              exact hret _ _ _ _ (1) f L Q dX12_who_43 hP hS ⟨⟨hI, hF, rfl, rfl⟩, trivial⟩
            · skip
              have q_423 := hq
              exact hret _ _ _ _ (r_421) f L Q dX12_who_43 hP hS ⟨⟨hI, hF, rfl, rfl⟩, trivial⟩
            · skip
              have q_424 := hq
              have k99 : ((-1) : Int32).toInt = (-1) := (by decide)
              exact hret _ _ _ _ (-1) f L Q dX12_who_43 hP hS ⟨⟨hI, hF, rfl, rfl⟩, trivial⟩
        · skip
          have q_425 := hq
          refine lv_if_ne (tgt := 30) hx hb dX12_who_25 (by decide) (fun c => absurd c (by decide)) (fun c => ?_)
          refine lv_iconst (v := (-1)) hx hb dX12_who_28 (by decide) ?_
          have k99 : ((-1) : Int32).toInt = (-1) := (by decide)
          exact hret _ _ _ _ (-1) f L Q dX12_who_29 hP hS ⟨⟨hI, hF, rfl, rfl⟩, trivial⟩
      · skip
        have q_426 := hq
        refine lv_if_eq (tgt := 28) hx hb dX12_who_13 (by decide) (fun c => ?_) (fun c => absurd c (by decide))
        refine lv_iconst (v := (-1)) hx hb dX12_who_28 (by decide) ?_
        have k99 : ((-1) : Int32).toInt = (-1) := (by decide)
        exact hret _ _ _ _ (-1) f L Q dX12_who_29 hP hS ⟨⟨hI, hF, rfl, rfl⟩, trivial⟩
  · skip
    have q_427 := hq
    refine lv_iconst (v := (-1)) hx hb dX12_who_5 (by decide) ?_
    refine lv_icmp_eq (tgt := 28) hx hb dX12_who_6 (by decide) (fun c => ?_) (fun c => absurd c (by decide))
    refine lv_iconst (v := (-1)) hx hb dX12_who_28 (by decide) ?_
    have k99 : ((-1) : Int32).toInt = (-1) := (by decide)
    exact hret _ _ _ _ (-1) f L Q dX12_who_29 hP hS ⟨⟨hI, hF, rfl, rfl⟩, trivial⟩

abbrev WkX12_judge : List (Nat × Nat × Option Nat) := [(0, 0, some 12), (0, 0, some 13), (0, 0, some 14), (0, 0, some 15), (0, 0, some 16), (0, 0, some 29), (0, 0, some 30), (0, 0, some 31), (8, 8, none), (12, 12, none), (13, 13, none)]
set_option maxHeartbeats 4000000 in
set_option maxRecDepth 100000 in
theorem kX12_judge (l : Launch) (D : va_G) (ca : Nat → ClassId) (za h : Nat → Nat) (hh : sgH 26 h) (f : sg_F) (L : sg_L) (Q : sg_Q) (hI : sgI loM hiM f) (x0 : Int32) (x1 : Int32) (sz : Nat) : Met l yX12_judge gwX12_judge { frames := 47, cells := 0, slots := 0, locals := 1079 } (sgP D vwCl (tyX ca) 26 h (eM ca h) zcM za f L Q sz [.ref (h 0), .int x0, .int x1]) (sgQi D vwCl 26 h (eM ca h) sz (fun r f1 L1 Q1 => ((sgI loM hiM f1 ∧ sgK WkX12_judge f f1 ∧ L1 = L ∧ Q1 = Q) ∧ ((-12) ≤ r.toInt ∧ r.toInt ≤ 20)))) 0 0 (sgA 26 h sz) := by
  refine sg_ofWi (cc := cX12_judge) (maxL := 4) RX12 (by decide) rfl rfl (Nat.le_of_ble_eq_true rfl) ?_
  intro p e s m below meth cd Qz ls hx hb hml hown hts hK hZ hP hS hl hret
  have hA := sgY.self (n := 26) (h := h) (sz := s.heap.size)
  have hl : lv_has ls 4 [(0, .ref (h 0)), (1, .int x0), (2, .int x1)] := hl
  obtain ⟨H, hH⟩ : ∃ z : Heap, z = s.heap := ⟨_, rfl⟩
  obtain ⟨locs, hlo⟩ : ∃ z : List Loc, z = [] := ⟨_, rfl⟩
  have hP : va_P D vwCl (sgw 26 h (eM ca h) f L Q) H := by rw [hH]; exact hP
  have hS : va_S (sgA 26 h s.heap.size) s.heap H locs := by rw [hH, hlo]; exact hS
  suffices hgo : W p l e ({ frames := 47, cells := 0, slots := 0, locals := 1079 }) s m ([.ref (h 0), .int x0, .int x1] : List Value).toArray below meth cd H locs 0 0 Qz (F0 m 0 ls []) by rw [hH, hlo] at hgo; exact hgo
  clear hH hlo
  have hF : sgK WkX12_judge f f := sgK.rf
  have loop_98 : ∀ (n_98 : Nat) (y3_98 : Int32) (fp_98 : sg_F) (H : Heap) (locs : List Loc) (ls : Array Slot), 21 - y3_98.toInt < (n_98 : Int) → 0 ≤ x0.toInt ∧ x0.toInt ≤ 59 → 0 ≤ x1.toInt ∧ x1.toInt ≤ 2 → 0 ≤ y3_98.toInt ∧ y3_98.toInt ≤ 21 → x0.toInt % 10 ≤ 5 → sgI loM hiM fp_98 → sgK WkX12_judge f fp_98 → va_P D vwCl (sgw 26 h (eM ca h) fp_98 L Q) H → va_S (sgA 26 h s.heap.size) s.heap H locs → lv_has ls 4 [(0, .ref (h 0)), (1, .int x0), (2, .int x1), (3, .int y3_98)] → W p l e ({ frames := 47, cells := 0, slots := 0, locals := 1079 }) s m ([.ref (h 0), .int x0, .int x1] : List Value).toArray below meth cd H locs 0 0 Qz (F0 m 98 ls []) := by
    intro n_98
    induction n_98 with
    | zero => intro y3_98 fp_98 H locs ls hm_98 hy0_98 hy1_98 hy2_98 hg0_98 hI hF hP hS hl; exact absurd hm_98 (by omega)
    | succ n_98 ih_98 =>
      intro y3_98 fp_98 H locs ls hm_98 hy0_98 hy1_98 hy2_98 hg0_98 hI hF hP hS hl
      refine lv_iload_n hx hb dX12_judge_98 rfl (lv_at hl 3 rfl) ?_
      refine lv_aload_n hx hb dX12_judge_99 rfl (lv_at hl 0 rfl) ?_
      refine lv_iload_n hx hb dX12_judge_100 rfl (lv_at hl 1 rfl) ?_
      refine lv_bipush (v := 10) hx hb dX12_judge_101 (by decide) ?_
      refine lv_idiv hx hb dX12_judge_103 (by decide) ?_
      refine lv_topi (fun v_1 ev_1 => ?_)
      have q_2 : v_1.toInt = x0.toInt / 10 := by rw [ev_1]; exact bn_divI (by omega) (by decide) (by decide)
      refine sg_calli (va_runV (As := [.int v_1]) (rest := [.int y3_98]) ⟨hx, hb, hml, hown, hts⟩ (kX12_shiftsOf l D ca za h hh fp_98 L Q hI v_1 (by omega) H.size) (cwV 1 hts (gw_V (fun _ h => List.mem_cons_of_mem _ h) mw_714 mw_715 mw_716 mw_619 mw_713) rfl rfl rfl (by decide +kernel) ⟨Nat.le_of_ble_eq_true rfl, Nat.le_of_ble_eq_true rfl⟩) (sg_preV (ci := 12) (C := RX12) (T := TX12) (N := 55) hA hK hP hS hZ 0 (by decide) rfl rfl) rfl rfl hl.1 rfl (lv_room (Nat.le_of_ble_eq_true rfl)) dX12_judge_104 ⟨Nat.le_refl _, Nat.le_refl _⟩) hA hS (fun r_6 f_3 L_4 Q_5 H locs hq hP hS => ?_)
      obtain ⟨⟨ef9, eL9, eQ9⟩, hq⟩ := hq
      rw [ef9, eL9, eQ9] at hP; clear ef9 eL9 eQ9
      refine lv_icmp_ge (tgt := 155) hx hb dX12_judge_107 (by decide) (fun c => ?_) (fun c => ?_)
      · skip
        have c_7 : r_6.toInt ≤ y3_98.toInt := (by have z := bn_le c; omega)
        refine lv_bipush (v := (-2)) hx hb dX12_judge_155 (by decide) ?_
        have k99 : ((-2) : Int32).toInt = (-2) := (by decide)
        exact hret _ _ _ _ (-2) fp_98 L Q dX12_judge_157 hP hS ⟨⟨hI, hF, rfl, rfl⟩, (by decide)⟩
      · skip
        have c_8 : y3_98.toInt < r_6.toInt := (by have z := bn_nle c; omega)
        refine lv_iload_n hx hb dX12_judge_110 rfl (lv_at hl 3 rfl) ?_
        refine lv_aload_n hx hb dX12_judge_111 rfl (lv_at hl 0 rfl) ?_
        refine sg_get (ci := 12) (v := .ref (h 23)) (C := RX12) (T := TX12) (N := 55) hx hb hts (fun w h => List.mem_cons_of_mem _ (gx_12 w h)) hown hK hP 0 (by decide) rfl rfl 52 (by decide) (hts _ (List.mem_cons_of_mem _ mw_645)) (fun _ h9 => h9) rfl dX12_judge_112 ?_
        refine lv_iload_n hx hb dX12_judge_115 rfl (lv_at hl 1 rfl) ?_
        refine lv_bipush (v := 10) hx hb dX12_judge_116 (by decide) ?_
        refine lv_irem hx hb dX12_judge_118 (by decide) ?_
        refine lv_topi (fun v_9 ev_9 => ?_)
        have q_10 : v_9.toInt = x0.toInt % 10 := by rw [ev_9]; exact bn_remI (by omega) (by decide) (by decide)
        refine sg_iald hx hb hK hP 23 (by decide) 0 rfl rfl (i := v_9) (vp_in_iff.mpr ⟨by omega, by omega⟩) dX12_judge_119 ?_
        refine lv_topi (fun v_11 ev_11 => ?_)
        have q_12 : 0 ≤ v_11.toInt ∧ v_11.toInt ≤ 60 := by rw [ev_11]; exact hI 23 _
        refine lv_icmp_ge (tgt := 155) hx hb dX12_judge_120 (by decide) (fun c => ?_) (fun c => ?_)
        · skip
          have c_13 : v_11.toInt ≤ y3_98.toInt := (by have z := bn_le c; omega)
          refine lv_bipush (v := (-2)) hx hb dX12_judge_155 (by decide) ?_
          have k99 : ((-2) : Int32).toInt = (-2) := (by decide)
          exact hret _ _ _ _ (-2) fp_98 L Q dX12_judge_157 hP hS ⟨⟨hI, hF, rfl, rfl⟩, (by decide)⟩
        · skip
          have c_14 : y3_98.toInt < v_11.toInt := (by have z := bn_nle c; omega)
          refine lv_aload_n hx hb dX12_judge_123 rfl (lv_at hl 0 rfl) ?_
          refine lv_iload_n hx hb dX12_judge_124 rfl (lv_at hl 1 rfl) ?_
          refine lv_bipush (v := 10) hx hb dX12_judge_125 (by decide) ?_
          refine lv_irem hx hb dX12_judge_127 (by decide) ?_
          rw [← ev_9]
          refine lv_iload_n hx hb dX12_judge_128 rfl (lv_at hl 3 rfl) ?_
          refine lv_aload_n hx hb dX12_judge_129 rfl (lv_at hl 0 rfl) ?_
          refine sg_get (ci := 12) (v := .ref (h 13)) (C := RX12) (T := TX12) (N := 55) hx hb hts (fun w h => List.mem_cons_of_mem _ (gx_12 w h)) hown hK hP 0 (by decide) rfl rfl 28 (by decide) (hts _ (List.mem_cons_of_mem _ mw_717)) (fun _ h9 => h9) rfl dX12_judge_130 ?_
          refine lv_iconst (v := 3) hx hb dX12_judge_133 (by decide) ?_
          refine lv_iload_n hx hb dX12_judge_134 rfl (lv_at hl 3 rfl) ?_
          refine lv_iconst (v := 1) hx hb dX12_judge_135 (by decide) ?_
          refine lv_iadd hx hb dX12_judge_136 ?_
          refine lv_topi (fun v_15 ev_15 => ?_)
          have q_16 : v_15.toInt = y3_98.toInt + 1 := by rw [ev_15]; have k1 : (1 : Int32).toInt = 1 := (by decide); exact (bn_addI (by omega) (by omega)).trans (by omega)
          refine lv_imul hx hb dX12_judge_137 ?_
          refine lv_topi (fun v_17 ev_17 => ?_)
          have q_18 : v_17.toInt = 3 * v_15.toInt := by rw [ev_17]; exact bn_mulJ (by decide) (by omega) (by omega)
          refine lv_iload_n hx hb dX12_judge_138 rfl (lv_at hl 2 rfl) ?_
          refine lv_iadd hx hb dX12_judge_139 ?_
          refine lv_topi (fun v_19 ev_19 => ?_)
          have q_20 : v_19.toInt = v_17.toInt + x1.toInt := by rw [ev_19]; exact (bn_addI (by omega) (by omega)).trans (by omega)
          refine sg_iald hx hb hK hP 13 (by decide) 0 rfl rfl (i := v_19) (vp_in_iff.mpr ⟨by omega, by omega⟩) dX12_judge_140 ?_
          refine lv_topi (fun v_21 ev_21 => ?_)
          have q_22 : 0 ≤ v_21.toInt ∧ v_21.toInt ≤ 60 := by rw [ev_21]; exact hI 13 _
          refine sg_calli (va_runV (As := [.int v_9, .int y3_98, .int v_21]) (rest := []) ⟨hx, hb, hml, hown, hts⟩ (kX12_isSeen l D ca za h hh fp_98 L Q hI v_9 y3_98 v_21 (by omega) (by omega) (by omega) H.size) (cwV 3 hts (gw_V (fun _ h => List.mem_cons_of_mem _ h) mw_805 mw_806 mw_807 mw_619 mw_804) rfl rfl rfl (by decide +kernel) ⟨Nat.le_of_ble_eq_true rfl, Nat.le_of_ble_eq_true rfl⟩) (sg_preV (ci := 12) (C := RX12) (T := TX12) (N := 55) hA hK hP hS hZ 0 (by decide) rfl rfl) rfl rfl hl.1 rfl (lv_room (Nat.le_of_ble_eq_true rfl)) dX12_judge_141 ⟨Nat.le_refl _, Nat.le_refl _⟩) hA hS (fun r_26 f_23 L_24 Q_25 H locs hq hP hS => ?_)
          obtain ⟨⟨ef9, eL9, eQ9⟩, hq⟩ := hq
          rw [ef9, eL9, eQ9] at hP; clear ef9 eL9 eQ9
          refine lv_if_ne (tgt := 149) hx hb dX12_judge_144 (by decide) (fun c => ?_) (fun c => ?_)
          · skip
            have c_27 : r_26.toInt ≠ 0 := (by have z := bn_ne c; have k1 : (0 : Int32).toInt = 0 := (by decide); omega)
            obtain ⟨v_29, ev_29⟩ : ∃ z : Int32, z = y3_98 + 1 := ⟨_, rfl⟩
            have q_30 : v_29.toInt = y3_98.toInt + 1 := by rw [ev_29]; exact (bn_addc y3_98 1 (by decide) (by omega) (by omega))
            refine lv_iinc (v := v_29) (lv' := [(3, .int v_29), (0, .ref (h 0)), (1, .int x0), (2, .int x1)]) hx hb dX12_judge_149 hl (k := 3) rfl (by rw [ev_29]; rfl) (by decide) rfl (fun ls hl => ?_)
            refine lv_goto (tgt := 98) hx hb dX12_judge_152 (by decide) ?_
            exact ih_98 v_29 fp_98 _ _ _ (by omega) (by omega) (by omega) (by omega) (by omega) hI hF hP hS (lv_sub hl [1, 2, 3, 0] rfl)
          · skip
            have c_28 : r_26.toInt = 0 := (by have z := Int32.toInt_inj.mpr c; have k1 : (0 : Int32).toInt = 0 := (by decide); omega)
            refine lv_iload_n hx hb dX12_judge_147 rfl (lv_at hl 3 rfl) ?_
            exact hret _ _ _ _ (y3_98) fp_98 L Q dX12_judge_148 hP hS ⟨⟨hI, hF, rfl, rfl⟩, (by omega)⟩
  refine lv_iload_n hx hb dX12_judge_0 rfl (lv_at hl 1 rfl) ?_
  refine lv_if_lt (tgt := 31) hx hb dX12_judge_1 (by decide) (fun c => ?_) (fun c => ?_)
  · skip
    have c_31 : x0.toInt < 0 := (by have z := bn_lt c; have k1 : (0 : Int32).toInt = 0 := (by decide); omega)
    refine lv_iconst (v := (-1)) hx hb dX12_judge_31 (by decide) ?_
    have k99 : ((-1) : Int32).toInt = (-1) := (by decide)
    exact hret _ _ _ _ (-1) f L Q dX12_judge_32 hP hS ⟨⟨hI, hF, rfl, rfl⟩, (by decide)⟩
  · skip
    have c_32 : 0 ≤ x0.toInt := (by have z := bn_nlt c; have k1 : (0 : Int32).toInt = 0 := (by decide); omega)
    refine lv_iload_n hx hb dX12_judge_4 rfl (lv_at hl 1 rfl) ?_
    refine lv_bipush (v := 10) hx hb dX12_judge_5 (by decide) ?_
    refine lv_idiv hx hb dX12_judge_7 (by decide) ?_
    refine lv_topi (fun v_33 ev_33 => ?_)
    have q_34 : v_33.toInt = x0.toInt / 10 := by rw [ev_33]; exact bn_divI (by omega) (by decide) (by decide)
    refine sg_calli (va_runS (As := [.int v_33]) (rest := []) ⟨hx, hb, hml, hown, hts⟩ (kX12_isShelf l D ca za h hh f L Q hI v_33 H.size) (va_cwS 1 hts (gw_S (fun _ h => List.mem_cons_of_mem _ h) mw_641 mw_642 mw_619 mw_640) rfl rfl rfl (by decide +kernel) ⟨Nat.le_of_ble_eq_true rfl, Nat.le_of_ble_eq_true rfl⟩) (sg_preS hA hK hP hS hZ) rfl rfl hl.1 rfl (lv_room (Nat.le_of_ble_eq_true rfl)) dX12_judge_8 ⟨Nat.le_refl _, Nat.le_refl _⟩) hA hS (fun r_38 f_35 L_36 Q_37 H locs hq hP hS => ?_)
    obtain ⟨⟨ef9, eL9, eQ9⟩, hq⟩ := hq
    rw [ef9, eL9, eQ9] at hP; clear ef9 eL9 eQ9
    rcases hq with ⟨rfl, hq⟩ | ⟨rfl, hq⟩
    · skip
      have q_39 := hq
      refine lv_if_eq (tgt := 31) hx hb dX12_judge_11 (by decide) (fun c => absurd c (by decide)) (fun c => ?_)
      refine lv_iload_n hx hb dX12_judge_14 rfl (lv_at hl 1 rfl) ?_
      refine lv_bipush (v := 10) hx hb dX12_judge_15 (by decide) ?_
      refine lv_irem hx hb dX12_judge_17 (by decide) ?_
      refine lv_topi (fun v_40 ev_40 => ?_)
      have q_41 : v_40.toInt = x0.toInt % 10 := by rw [ev_40]; exact bn_remI (by omega) (by decide) (by decide)
      refine sg_calli (va_runS (As := [.int v_40]) (rest := []) ⟨hx, hb, hml, hown, hts⟩ (kX12_isShelf l D ca za h hh f L Q hI v_40 H.size) (va_cwS 1 hts (gw_S (fun _ h => List.mem_cons_of_mem _ h) mw_641 mw_642 mw_619 mw_640) rfl rfl rfl (by decide +kernel) ⟨Nat.le_of_ble_eq_true rfl, Nat.le_of_ble_eq_true rfl⟩) (sg_preS hA hK hP hS hZ) rfl rfl hl.1 rfl (lv_room (Nat.le_of_ble_eq_true rfl)) dX12_judge_18 ⟨Nat.le_refl _, Nat.le_refl _⟩) hA hS (fun r_45 f_42 L_43 Q_44 H locs hq hP hS => ?_)
      obtain ⟨⟨ef9, eL9, eQ9⟩, hq⟩ := hq
      rw [ef9, eL9, eQ9] at hP; clear ef9 eL9 eQ9
      rcases hq with ⟨rfl, hq⟩ | ⟨rfl, hq⟩
      · skip
        have q_46 := hq
        refine lv_if_eq (tgt := 31) hx hb dX12_judge_21 (by decide) (fun c => absurd c (by decide)) (fun c => ?_)
        refine lv_iload_n hx hb dX12_judge_24 rfl (lv_at hl 2 rfl) ?_
        refine sg_calli (va_runS (As := [.int x1]) (rest := []) ⟨hx, hb, hml, hown, hts⟩ (kX12_isPart l D ca za h hh f L Q hI x1 H.size) (va_cwS 1 hts (gw_S (fun _ h => List.mem_cons_of_mem _ h) mw_636 mw_637 mw_619 mw_635) rfl rfl rfl (by decide +kernel) ⟨Nat.le_of_ble_eq_true rfl, Nat.le_of_ble_eq_true rfl⟩) (sg_preS hA hK hP hS hZ) rfl rfl hl.1 rfl (lv_room (Nat.le_of_ble_eq_true rfl)) dX12_judge_25 ⟨Nat.le_refl _, Nat.le_refl _⟩) hA hS (fun r_50 f_47 L_48 Q_49 H locs hq hP hS => ?_)
        obtain ⟨⟨ef9, eL9, eQ9⟩, hq⟩ := hq
        rw [ef9, eL9, eQ9] at hP; clear ef9 eL9 eQ9
        rcases hq with ⟨rfl, hq⟩ | ⟨rfl, hq⟩
        · skip
          have q_51 := hq
          refine lv_if_ne (tgt := 33) hx hb dX12_judge_28 (by decide) (fun c => ?_) (fun c => absurd c (by decide))
          refine lv_aload_n hx hb dX12_judge_33 rfl (lv_at hl 0 rfl) ?_
          refine sg_get (ci := 12) (v := .ref (h 22)) (C := RX12) (T := TX12) (N := 55) hx hb hts (fun w h => List.mem_cons_of_mem _ (gx_12 w h)) hown hK hP 0 (by decide) rfl rfl 51 (by decide) (hts _ (List.mem_cons_of_mem _ mw_643)) (fun _ h9 => h9) rfl dX12_judge_34 ?_
          refine lv_iload_n hx hb dX12_judge_37 rfl (lv_at hl 1 rfl) ?_
          refine lv_bipush (v := 10) hx hb dX12_judge_38 (by decide) ?_
          refine lv_idiv hx hb dX12_judge_40 (by decide) ?_
          rw [← ev_33]
          refine sg_iald hx hb hK hP 22 (by decide) 0 rfl rfl (i := v_33) (vp_in_iff.mpr ⟨by omega, by omega⟩) dX12_judge_41 ?_
          refine lv_topi (fun v_52 ev_52 => ?_)
          have q_53 : (-1) ≤ v_52.toInt ∧ v_52.toInt ≤ 54 := by rw [ev_52]; exact hI 22 _
          refine lv_if_lt (tgt := 57) hx hb dX12_judge_42 (by decide) (fun c => ?_) (fun c => ?_)
          · skip
            have c_54 : v_52.toInt < 0 := (by have z := bn_lt c; have k1 : (0 : Int32).toInt = 0 := (by decide); omega)
            refine lv_bipush (v := (-11)) hx hb dX12_judge_57 (by decide) ?_
            have k99 : ((-11) : Int32).toInt = (-11) := (by decide)
            exact hret _ _ _ _ (-11) f L Q dX12_judge_59 hP hS ⟨⟨hI, hF, rfl, rfl⟩, (by decide)⟩
          · skip
            have c_55 : 0 ≤ v_52.toInt := (by have z := bn_nlt c; have k1 : (0 : Int32).toInt = 0 := (by decide); omega)
            refine lv_aload_n hx hb dX12_judge_45 rfl (lv_at hl 0 rfl) ?_
            refine sg_get (ci := 12) (v := .ref (h 22)) (C := RX12) (T := TX12) (N := 55) hx hb hts (fun w h => List.mem_cons_of_mem _ (gx_12 w h)) hown hK hP 0 (by decide) rfl rfl 51 (by decide) (hts _ (List.mem_cons_of_mem _ mw_643)) (fun _ h9 => h9) rfl dX12_judge_46 ?_
            refine lv_iload_n hx hb dX12_judge_49 rfl (lv_at hl 1 rfl) ?_
            refine lv_bipush (v := 10) hx hb dX12_judge_50 (by decide) ?_
            refine lv_irem hx hb dX12_judge_52 (by decide) ?_
            rw [← ev_40]
            refine sg_iald hx hb hK hP 22 (by decide) 0 rfl rfl (i := v_40) (vp_in_iff.mpr ⟨by omega, by omega⟩) dX12_judge_53 ?_
            refine lv_topi (fun v_56 ev_56 => ?_)
            have q_57 : (-1) ≤ v_56.toInt ∧ v_56.toInt ≤ 54 := by rw [ev_56]; exact hI 22 _
            refine lv_if_ge (tgt := 60) hx hb dX12_judge_54 (by decide) (fun c => ?_) (fun c => ?_)
            · skip
              have c_58 : 0 ≤ v_56.toInt := (by have z := bn_le c; have k1 : (0 : Int32).toInt = 0 := (by decide); omega)
              refine lv_aload_n hx hb dX12_judge_60 rfl (lv_at hl 0 rfl) ?_
              refine lv_iload_n hx hb dX12_judge_61 rfl (lv_at hl 1 rfl) ?_
              refine lv_bipush (v := 10) hx hb dX12_judge_62 (by decide) ?_
              refine lv_idiv hx hb dX12_judge_64 (by decide) ?_
              rw [← ev_33]
              refine sg_calli (va_runV (As := [.int v_33]) (rest := []) ⟨hx, hb, hml, hown, hts⟩ (kX12_bytesIs l D ca za h hh f L Q hI v_33 H.size) (cwV 1 hts (gw_V (fun _ h => List.mem_cons_of_mem _ h) mw_685 mw_686 mw_687 mw_619 mw_684) rfl rfl rfl (by decide +kernel) ⟨Nat.le_of_ble_eq_true rfl, Nat.le_of_ble_eq_true rfl⟩) (sg_preV (ci := 12) (C := RX12) (T := TX12) (N := 55) hA hK hP hS hZ 0 (by decide) rfl rfl) rfl rfl hl.1 rfl (lv_room (Nat.le_of_ble_eq_true rfl)) dX12_judge_65 ⟨Nat.le_refl _, Nat.le_refl _⟩) hA hS (fun r_63 f_60 L_61 Q_62 H locs hq hP hS => ?_)
              obtain ⟨⟨ef9, eL9, eQ9⟩, hq⟩ := hq
              rw [ef9, eL9, eQ9] at hP; clear ef9 eL9 eQ9
              rcases hq with ⟨rfl, hq⟩ | hq | ⟨rfl, hq⟩
              · skip
                have q_64 := hq
                refine lv_iconst (v := 1) hx hb dX12_judge_68 (by decide) ?_
                refine lv_icmp_ne (tgt := 84) hx hb dX12_judge_69 (by decide) (fun c => absurd c (by decide)) (fun c => ?_)
                refine lv_aload_n hx hb dX12_judge_72 rfl (lv_at hl 0 rfl) ?_
                refine lv_iload_n hx hb dX12_judge_73 rfl (lv_at hl 1 rfl) ?_
                refine lv_bipush (v := 10) hx hb dX12_judge_74 (by decide) ?_
                refine lv_irem hx hb dX12_judge_76 (by decide) ?_
                rw [← ev_40]
                refine sg_calli (va_runV (As := [.int v_40]) (rest := []) ⟨hx, hb, hml, hown, hts⟩ (kX12_bytesIs l D ca za h hh f L Q hI v_40 H.size) (cwV 1 hts (gw_V (fun _ h => List.mem_cons_of_mem _ h) mw_685 mw_686 mw_687 mw_619 mw_684) rfl rfl rfl (by decide +kernel) ⟨Nat.le_of_ble_eq_true rfl, Nat.le_of_ble_eq_true rfl⟩) (sg_preV (ci := 12) (C := RX12) (T := TX12) (N := 55) hA hK hP hS hZ 0 (by decide) rfl rfl) rfl rfl hl.1 rfl (lv_room (Nat.le_of_ble_eq_true rfl)) dX12_judge_77 ⟨Nat.le_refl _, Nat.le_refl _⟩) hA hS (fun r_68 f_65 L_66 Q_67 H locs hq hP hS => ?_)
                obtain ⟨⟨ef9, eL9, eQ9⟩, hq⟩ := hq
                rw [ef9, eL9, eQ9] at hP; clear ef9 eL9 eQ9
                rcases hq with ⟨rfl, hq⟩ | hq | ⟨rfl, hq⟩
                · skip
                  have q_69 := hq
                  refine lv_iconst (v := 1) hx hb dX12_judge_80 (by decide) ?_
                  refine lv_icmp_eq (tgt := 87) hx hb dX12_judge_81 (by decide) (fun c => ?_) (fun c => absurd c (by decide))
                  refine lv_aload_n hx hb dX12_judge_87 rfl (lv_at hl 0 rfl) ?_
                  refine lv_iload_n hx hb dX12_judge_88 rfl (lv_at hl 1 rfl) ?_
                  refine lv_bipush (v := 10) hx hb dX12_judge_89 (by decide) ?_
                  refine lv_idiv hx hb dX12_judge_91 (by decide) ?_
                  rw [← ev_33]
                  refine sg_calli (va_runV (As := [.int v_33]) (rest := []) ⟨hx, hb, hml, hown, hts⟩ (kX12_weekOf l D ca za h hh f L Q hI v_33 (by omega) H.size) (cwV 1 hts (gw_V (fun _ h => List.mem_cons_of_mem _ h) mw_752 mw_753 mw_754 mw_619 mw_751) rfl rfl rfl (by decide +kernel) ⟨Nat.le_of_ble_eq_true rfl, Nat.le_of_ble_eq_true rfl⟩) (sg_preV (ci := 12) (C := RX12) (T := TX12) (N := 55) hA hK hP hS hZ 0 (by decide) rfl rfl) rfl rfl hl.1 rfl (lv_room (Nat.le_of_ble_eq_true rfl)) dX12_judge_92 ⟨Nat.le_refl _, Nat.le_refl _⟩) hA hS (fun r_73 f_70 L_71 Q_72 H locs hq hP hS => ?_)
                  obtain ⟨⟨hI, hk_f_70, eL9, eQ9⟩, hq⟩ := hq
                  rw [eL9, eQ9] at hP; clear eL9 eQ9
                  have hF : sgK WkX12_judge f f_70 := sgK.tr hF hk_f_70 (by decide)
                  refine lv_pop hx hb dX12_judge_95 rfl ?_
                  refine lv_iconst (v := 0) hx hb dX12_judge_96 (by decide) ?_
                  refine lv_istore_n (lv' := [(3, .int 0), (0, .ref (h 0)), (1, .int x0), (2, .int x1)]) hx hb dX12_judge_97 rfl hl (by decide) rfl (fun ls hl => ?_)
                  exact loop_98 22 0 f_70 _ _ _ (by have kc0 : (0 : Int32).toInt = 0 := (by decide); omega) (by omega) (by omega) (by decide) (by have kc0 : (0 : Int32).toInt = 0 := (by decide); omega) hI hF hP hS (lv_sub hl [1, 2, 3, 0] rfl)
                · skip
                  have q_74 := hq
                  refine lv_iconst (v := 1) hx hb dX12_judge_80 (by decide) ?_
                  refine lv_icmp_eq (tgt := 87) hx hb dX12_judge_81 (by decide) (fun c => ?_) (fun c => ?_)
                  · skip
                    exfalso; have c_75 : r_68.toInt = 1 := (by have z := Int32.toInt_inj.mpr c; have k1 : (1 : Int32).toInt = 1 := (by decide); omega); omega
                  · skip
                    have c_76 : r_68.toInt ≠ 1 := (by have z := bn_ne c; have k1 : (1 : Int32).toInt = 1 := (by decide); omega)
                    refine lv_bipush (v := (-12)) hx hb dX12_judge_84 (by decide) ?_
                    have k99 : ((-12) : Int32).toInt = (-12) := (by decide)
                    exact hret _ _ _ _ (-12) f L Q dX12_judge_86 hP hS ⟨⟨hI, hF, rfl, rfl⟩, (by decide)⟩
                · skip
                  have q_77 := hq
                  refine lv_iconst (v := 1) hx hb dX12_judge_80 (by decide) ?_
                  refine lv_icmp_eq (tgt := 87) hx hb dX12_judge_81 (by decide) (fun c => absurd c (by decide)) (fun c => ?_)
                  refine lv_bipush (v := (-12)) hx hb dX12_judge_84 (by decide) ?_
                  have k99 : ((-12) : Int32).toInt = (-12) := (by decide)
                  exact hret _ _ _ _ (-12) f L Q dX12_judge_86 hP hS ⟨⟨hI, hF, rfl, rfl⟩, (by decide)⟩
              · skip
                have q_78 := hq
                refine lv_iconst (v := 1) hx hb dX12_judge_68 (by decide) ?_
                refine lv_icmp_ne (tgt := 84) hx hb dX12_judge_69 (by decide) (fun c => ?_) (fun c => ?_)
                · skip
                  have c_79 : r_63.toInt ≠ 1 := (by have z := bn_ne c; have k1 : (1 : Int32).toInt = 1 := (by decide); omega)
                  refine lv_bipush (v := (-12)) hx hb dX12_judge_84 (by decide) ?_
                  have k99 : ((-12) : Int32).toInt = (-12) := (by decide)
                  exact hret _ _ _ _ (-12) f L Q dX12_judge_86 hP hS ⟨⟨hI, hF, rfl, rfl⟩, (by decide)⟩
                · skip
                  exfalso; have c_80 : r_63.toInt = 1 := (by have z := Int32.toInt_inj.mpr c; have k1 : (1 : Int32).toInt = 1 := (by decide); omega); omega
              · skip
                have q_81 := hq
                refine lv_iconst (v := 1) hx hb dX12_judge_68 (by decide) ?_
                refine lv_icmp_ne (tgt := 84) hx hb dX12_judge_69 (by decide) (fun c => ?_) (fun c => absurd c (by decide))
                refine lv_bipush (v := (-12)) hx hb dX12_judge_84 (by decide) ?_
                have k99 : ((-12) : Int32).toInt = (-12) := (by decide)
                exact hret _ _ _ _ (-12) f L Q dX12_judge_86 hP hS ⟨⟨hI, hF, rfl, rfl⟩, (by decide)⟩
            · skip
              have c_59 : v_56.toInt < 0 := (by have z := bn_nle c; have k1 : (0 : Int32).toInt = 0 := (by decide); omega)
              refine lv_bipush (v := (-11)) hx hb dX12_judge_57 (by decide) ?_
              have k99 : ((-11) : Int32).toInt = (-11) := (by decide)
              exact hret _ _ _ _ (-11) f L Q dX12_judge_59 hP hS ⟨⟨hI, hF, rfl, rfl⟩, (by decide)⟩
        · skip
          have q_82 := hq
          refine lv_if_ne (tgt := 33) hx hb dX12_judge_28 (by decide) (fun c => absurd c (by decide)) (fun c => ?_)
          refine lv_iconst (v := (-1)) hx hb dX12_judge_31 (by decide) ?_
          have k99 : ((-1) : Int32).toInt = (-1) := (by decide)
          exact hret _ _ _ _ (-1) f L Q dX12_judge_32 hP hS ⟨⟨hI, hF, rfl, rfl⟩, (by decide)⟩
      · skip
        have q_83 := hq
        refine lv_if_eq (tgt := 31) hx hb dX12_judge_21 (by decide) (fun c => ?_) (fun c => absurd c (by decide))
        refine lv_iconst (v := (-1)) hx hb dX12_judge_31 (by decide) ?_
        have k99 : ((-1) : Int32).toInt = (-1) := (by decide)
        exact hret _ _ _ _ (-1) f L Q dX12_judge_32 hP hS ⟨⟨hI, hF, rfl, rfl⟩, (by decide)⟩
    · skip
      have q_84 := hq
      refine lv_if_eq (tgt := 31) hx hb dX12_judge_11 (by decide) (fun c => ?_) (fun c => absurd c (by decide))
      refine lv_iconst (v := (-1)) hx hb dX12_judge_31 (by decide) ?_
      have k99 : ((-1) : Int32).toInt = (-1) := (by decide)
      exact hret _ _ _ _ (-1) f L Q dX12_judge_32 hP hS ⟨⟨hI, hF, rfl, rfl⟩, (by decide)⟩

abbrev WkX12_drawn : List (Nat × Nat × Option Nat) := [(0, 0, some 12), (0, 0, some 13), (0, 0, some 14), (0, 0, some 15), (0, 0, some 16), (0, 0, some 29), (0, 0, some 30), (0, 0, some 31), (8, 8, none), (11, 11, none), (12, 12, none), (13, 13, none)]
set_option maxHeartbeats 4000000 in
set_option maxRecDepth 100000 in
theorem kX12_drawn (l : Launch) (D : va_G) (ca : Nat → ClassId) (za h : Nat → Nat) (hh : sgH 26 h) (f : sg_F) (L : sg_L) (Q : sg_Q) (hI : sgI loM hiM f) (x0 : Int32) (x1 : Int32) (x2 : Int32) (x3 : Int32) (sz : Nat) : Met l yX12_drawn gwX12_drawn { frames := 47, cells := 0, slots := 0, locals := 1079 } (sgP D vwCl (tyX ca) 26 h (eM ca h) zcM za f L Q sz [.ref (h 0), .int x0, .int x1, .int x2, .int x3]) (sgQi D vwCl 26 h (eM ca h) sz (fun r f1 L1 Q1 => ((sgI loM hiM f1 ∧ sgK WkX12_drawn f f1 ∧ L1 = L ∧ Q1 = Q) ∧ True))) 0 0 (sgA 26 h sz) := by
  refine sg_ofWi (cc := cX12_drawn) (maxL := 11) RX12 (by decide) rfl rfl (Nat.le_of_ble_eq_true rfl) ?_
  intro p e s m below meth cd Qz ls hx hb hml hown hts hK hZ hP hS hl hret
  have hA := sgY.self (n := 26) (h := h) (sz := s.heap.size)
  have hl : lv_has ls 11 [(0, .ref (h 0)), (1, .int x0), (2, .int x1), (3, .int x2), (4, .int x3)] := hl
  obtain ⟨H, hH⟩ : ∃ z : Heap, z = s.heap := ⟨_, rfl⟩
  obtain ⟨locs, hlo⟩ : ∃ z : List Loc, z = [] := ⟨_, rfl⟩
  have hP : va_P D vwCl (sgw 26 h (eM ca h) f L Q) H := by rw [hH]; exact hP
  have hS : va_S (sgA 26 h s.heap.size) s.heap H locs := by rw [hH, hlo]; exact hS
  suffices hgo : W p l e ({ frames := 47, cells := 0, slots := 0, locals := 1079 }) s m ([.ref (h 0), .int x0, .int x1, .int x2, .int x3] : List Value).toArray below meth cd H locs 0 0 Qz (F0 m 0 ls []) by rw [hH, hlo] at hgo; exact hgo
  clear hH hlo
  have hF : sgK WkX12_drawn f f := sgK.rf
  have loop_60 : ∀ (n_60 : Nat) (y5_60 : Int32) (y6_60 : Int32) (y7_60 : Int32) (y8_60 : Int32) (fp_60 : sg_F) (H : Heap) (locs : List Loc) (ls : Array Slot), 20 - y8_60.toInt < (n_60 : Int) → 0 ≤ x0.toInt ∧ x0.toInt ≤ 5 → 1 ≤ x2.toInt ∧ x2.toInt ≤ 20 → 0 ≤ x3.toInt ∧ x3.toInt ≤ 1 → 0 ≤ y8_60.toInt ∧ y8_60.toInt ≤ 20 → sgI loM hiM fp_60 → sgK WkX12_drawn f fp_60 → va_P D vwCl (sgw 26 h (eM ca h) fp_60 L Q) H → va_S (sgA 26 h s.heap.size) s.heap H locs → lv_has ls 11 [(0, .ref (h 0)), (1, .int x0), (3, .int x2), (4, .int x3), (5, .int y5_60), (6, .int y6_60), (7, .int y7_60), (8, .int y8_60)] → W p l e ({ frames := 47, cells := 0, slots := 0, locals := 1079 }) s m ([.ref (h 0), .int x0, .int x1, .int x2, .int x3] : List Value).toArray below meth cd H locs 0 0 Qz (F0 m 60 ls []) := by
    intro n_60
    induction n_60 with
    | zero => intro y5_60 y6_60 y7_60 y8_60 fp_60 H locs ls hm_60 hy0_60 hy1_60 hy2_60 hy3_60 hI hF hP hS hl; exact absurd hm_60 (by omega)
    | succ n_60 ih_60 =>
      have loop_175 : ∀ (n_175 : Nat) (y5_175 : Int32) (y6_175 : Int32) (y7_175 : Int32) (y8_175 : Int32) (y9_175 : Int32) (fp_175 : sg_F) (H : Heap) (locs : List Loc) (ls : Array Slot), 21 - y9_175.toInt < (n_175 : Int) → 20 - y8_175.toInt < ((n_60 + 1 : Nat) : Int) → 0 ≤ x0.toInt ∧ x0.toInt ≤ 5 → 1 ≤ x2.toInt ∧ x2.toInt ≤ 20 → 0 ≤ x3.toInt ∧ x3.toInt ≤ 1 → 0 ≤ y8_175.toInt ∧ y8_175.toInt ≤ 19 → 0 ≤ y9_175.toInt ∧ y9_175.toInt ≤ 21 → sgI loM hiM fp_175 → sgK WkX12_drawn f fp_175 → va_P D vwCl (sgw 26 h (eM ca h) fp_175 L Q) H → va_S (sgA 26 h s.heap.size) s.heap H locs → lv_has ls 11 [(0, .ref (h 0)), (1, .int x0), (3, .int x2), (4, .int x3), (5, .int y5_175), (6, .int y6_175), (7, .int y7_175), (8, .int y8_175), (9, .int y9_175)] → W p l e ({ frames := 47, cells := 0, slots := 0, locals := 1079 }) s m ([.ref (h 0), .int x0, .int x1, .int x2, .int x3] : List Value).toArray below meth cd H locs 0 0 Qz (F0 m 175 ls []) := by
        intro n_175
        induction n_175 with
        | zero => intro y5_175 y6_175 y7_175 y8_175 y9_175 fp_175 H locs ls hm_175 hm_60 hy0_175 hy1_175 hy2_175 hy3_175 hy4_175 hI hF hP hS hl; exact absurd hm_175 (by omega)
        | succ n_175 ih_175 =>
          intro y5_175 y6_175 y7_175 y8_175 y9_175 fp_175 H locs ls hm_175 hm_60 hy0_175 hy1_175 hy2_175 hy3_175 hy4_175 hI hF hP hS hl
          refine lv_iload hx hb dX12_drawn_175 (lv_at hl 8 rfl) ?_
          refine lv_bipush (v := 21) hx hb dX12_drawn_177 (by decide) ?_
          refine lv_icmp_ge (tgt := 196) hx hb dX12_drawn_179 (by decide) (fun c => ?_) (fun c => ?_)
          · skip
            have c_1 : 21 ≤ y9_175.toInt := (by have z := bn_le c; have k1 : (21 : Int32).toInt = 21 := (by decide); omega)
            obtain ⟨v_3, ev_3⟩ : ∃ z : Int32, z = y8_175 + 1 := ⟨_, rfl⟩
            have q_4 : v_3.toInt = y8_175.toInt + 1 := by rw [ev_3]; exact (bn_addc y8_175 1 (by decide) (by omega) (by omega))
            refine lv_iinc (v := v_3) (lv' := [(8, .int v_3), (0, .ref (h 0)), (1, .int x0), (3, .int x2), (4, .int x3), (5, .int y5_175), (6, .int y6_175), (7, .int y7_175), (9, .int y9_175)]) hx hb dX12_drawn_196 hl (k := 7) rfl (by rw [ev_3]; rfl) (by decide) rfl (fun ls hl => ?_)
            refine lv_goto (tgt := 60) hx hb dX12_drawn_199 (by decide) ?_
            exact ih_60 y5_175 y6_175 y7_175 v_3 fp_175 _ _ _ (by omega) (by omega) (by omega) (by omega) (by omega) hI hF hP hS (lv_sub hl [1, 2, 3, 4, 5, 6, 7, 0] rfl)
          · skip
            have c_2 : y9_175.toInt < 21 := (by have z := bn_nle c; have k1 : (21 : Int32).toInt = 21 := (by decide); omega)
            refine lv_aload_n hx hb dX12_drawn_182 rfl (lv_at hl 0 rfl) ?_
            refine sg_get (ci := 12) (v := .ref (h 11)) (C := RX12) (T := TX12) (N := 55) hx hb hts (fun w h => List.mem_cons_of_mem _ (gx_12 w h)) hown hK hP 0 (by decide) rfl rfl 26 (by decide) (hts _ (List.mem_cons_of_mem _ mw_732)) (fun _ h9 => h9) rfl dX12_drawn_183 ?_
            refine lv_iload hx hb dX12_drawn_186 (lv_at hl 8 rfl) ?_
            refine lv_iconst (v := 0) hx hb dX12_drawn_188 (by decide) ?_
            refine sg_zast hx hb hh hA hK hP hS 11 (by decide) 2 (fun _ => rfl) rfl (i := y9_175) (x := 0) (vp_in_iff.mpr ⟨by omega, by omega⟩) (by decide) dX12_drawn_189 (fun f_5 H locs ef_5 hP hS => ?_)
            have hI : sgI loM hiM f_5 := by rw [ef_5]; exact sgI.put hI 11 y9_175.toNatClampNeg (show 0 ≤ (0 : Int32).toInt ∧ (0 : Int32).toInt ≤ 1 from by decide)
            have hF : sgK WkX12_drawn f f_5 := sgK.put hF ef_5 (by rfl)
            obtain ⟨v_6, ev_6⟩ : ∃ z : Int32, z = y9_175 + 1 := ⟨_, rfl⟩
            have q_7 : v_6.toInt = y9_175.toInt + 1 := by rw [ev_6]; exact (bn_addc y9_175 1 (by decide) (by omega) (by omega))
            refine lv_iinc (v := v_6) (lv' := [(9, .int v_6), (0, .ref (h 0)), (1, .int x0), (3, .int x2), (4, .int x3), (5, .int y5_175), (6, .int y6_175), (7, .int y7_175), (8, .int y8_175)]) hx hb dX12_drawn_190 hl (k := 8) rfl (by rw [ev_6]; rfl) (by decide) rfl (fun ls hl => ?_)
            refine lv_goto (tgt := 175) hx hb dX12_drawn_193 (by decide) ?_
            exact ih_175 y5_175 y6_175 y7_175 y8_175 v_6 f_5 _ _ _ (by omega) (by omega) (by omega) (by omega) (by omega) (by omega) (by omega) hI hF hP hS (lv_sub hl [1, 2, 3, 4, 5, 6, 7, 8, 0] rfl)
      have loop_69 : ∀ (n_69 : Nat) (y5_69 : Int32) (y6_69 : Int32) (y7_69 : Int32) (y8_69 : Int32) (y9_69 : Int32) (fp_69 : sg_F) (H : Heap) (locs : List Loc) (ls : Array Slot), 21 - y9_69.toInt < (n_69 : Int) → 20 - y8_69.toInt < ((n_60 + 1 : Nat) : Int) → 0 ≤ x0.toInt ∧ x0.toInt ≤ 5 → 1 ≤ x2.toInt ∧ x2.toInt ≤ 20 → 0 ≤ x3.toInt ∧ x3.toInt ≤ 1 → 0 ≤ y8_69.toInt ∧ y8_69.toInt ≤ 19 → 0 ≤ y9_69.toInt ∧ y9_69.toInt ≤ 21 → sgI loM hiM fp_69 → sgK WkX12_drawn f fp_69 → va_P D vwCl (sgw 26 h (eM ca h) fp_69 L Q) H → va_S (sgA 26 h s.heap.size) s.heap H locs → lv_has ls 11 [(0, .ref (h 0)), (1, .int x0), (3, .int x2), (4, .int x3), (5, .int y5_69), (6, .int y6_69), (7, .int y7_69), (8, .int y8_69), (9, .int y9_69)] → W p l e ({ frames := 47, cells := 0, slots := 0, locals := 1079 }) s m ([.ref (h 0), .int x0, .int x1, .int x2, .int x3] : List Value).toArray below meth cd H locs 0 0 Qz (F0 m 69 ls []) := by
        intro n_69
        induction n_69 with
        | zero => intro y5_69 y6_69 y7_69 y8_69 y9_69 fp_69 H locs ls hm_69 hm_60 hy0_69 hy1_69 hy2_69 hy3_69 hy4_69 hI hF hP hS hl; exact absurd hm_69 (by omega)
        | succ n_69 ih_69 =>
          have blk_156 : ∀ (y5_156 : Int32) (y6_156 : Int32) (y7_156 : Int32) (y8_156 : Int32) (y9_156 : Int32) (fp_156 : sg_F) (H : Heap) (locs : List Loc) (ls : Array Slot), 20 - y8_156.toInt < ((n_60 + 1 : Nat) : Int) → 21 - y9_156.toInt < ((n_69 + 1 : Nat) : Int) → 0 ≤ x0.toInt ∧ x0.toInt ≤ 5 → 1 ≤ x2.toInt ∧ x2.toInt ≤ 20 → 0 ≤ x3.toInt ∧ x3.toInt ≤ 1 → 0 ≤ y8_156.toInt ∧ y8_156.toInt ≤ 19 → 0 ≤ y9_156.toInt ∧ y9_156.toInt ≤ 20 → sgI loM hiM fp_156 → sgK WkX12_drawn f fp_156 → va_P D vwCl (sgw 26 h (eM ca h) fp_156 L Q) H → va_S (sgA 26 h s.heap.size) s.heap H locs → lv_has ls 11 [(0, .ref (h 0)), (1, .int x0), (3, .int x2), (4, .int x3), (5, .int y5_156), (6, .int y6_156), (7, .int y7_156), (8, .int y8_156), (9, .int y9_156)] → W p l e ({ frames := 47, cells := 0, slots := 0, locals := 1079 }) s m ([.ref (h 0), .int x0, .int x1, .int x2, .int x3] : List Value).toArray below meth cd H locs 0 0 Qz (F0 m 156 ls []) := by
            intro y5_156 y6_156 y7_156 y8_156 y9_156 fp_156 H locs ls hm_60 hm_69 hy0_156 hy1_156 hy2_156 hy3_156 hy4_156 hI hF hP hS hl
            obtain ⟨v_8, ev_8⟩ : ∃ z : Int32, z = y9_156 + 1 := ⟨_, rfl⟩
            have q_9 : v_8.toInt = y9_156.toInt + 1 := by rw [ev_8]; exact (bn_addc y9_156 1 (by decide) (by omega) (by omega))
            refine lv_iinc (v := v_8) (lv' := [(9, .int v_8), (0, .ref (h 0)), (1, .int x0), (3, .int x2), (4, .int x3), (5, .int y5_156), (6, .int y6_156), (7, .int y7_156), (8, .int y8_156)]) hx hb dX12_drawn_156 hl (k := 8) rfl (by rw [ev_8]; rfl) (by decide) rfl (fun ls hl => ?_)
            refine lv_goto (tgt := 69) hx hb dX12_drawn_159 (by decide) ?_
            exact ih_69 y5_156 y6_156 y7_156 y8_156 v_8 fp_156 _ _ _ (by omega) (by omega) (by omega) (by omega) (by omega) (by omega) (by omega) hI hF hP hS (lv_sub hl [1, 2, 3, 4, 5, 6, 7, 8, 0] rfl)
          intro y5_69 y6_69 y7_69 y8_69 y9_69 fp_69 H locs ls hm_69 hm_60 hy0_69 hy1_69 hy2_69 hy3_69 hy4_69 hI hF hP hS hl
          refine lv_iload hx hb dX12_drawn_69 (lv_at hl 8 rfl) ?_
          refine lv_aload_n hx hb dX12_drawn_71 rfl (lv_at hl 0 rfl) ?_
          refine lv_iload_n hx hb dX12_drawn_72 rfl (lv_at hl 1 rfl) ?_
          refine sg_calli (va_runV (As := [.int x0]) (rest := [.int y9_69]) ⟨hx, hb, hml, hown, hts⟩ (kX12_shiftsOf l D ca za h hh fp_69 L Q hI x0 (by omega) H.size) (cwV 1 hts (gw_V (fun _ h => List.mem_cons_of_mem _ h) mw_714 mw_715 mw_716 mw_619 mw_713) rfl rfl rfl (by decide +kernel) ⟨Nat.le_of_ble_eq_true rfl, Nat.le_of_ble_eq_true rfl⟩) (sg_preV (ci := 12) (C := RX12) (T := TX12) (N := 55) hA hK hP hS hZ 0 (by decide) rfl rfl) rfl rfl hl.1 rfl (lv_room (Nat.le_of_ble_eq_true rfl)) dX12_drawn_73 ⟨Nat.le_refl _, Nat.le_refl _⟩) hA hS (fun r_13 f_10 L_11 Q_12 H locs hq hP hS => ?_)
          obtain ⟨⟨ef9, eL9, eQ9⟩, hq⟩ := hq
          rw [ef9, eL9, eQ9] at hP; clear ef9 eL9 eQ9
          refine lv_icmp_ge (tgt := 162) hx hb dX12_drawn_76 (by decide) (fun c => ?_) (fun c => ?_)
          · skip
            have c_14 : r_13.toInt ≤ y9_69.toInt := (by have z := bn_le c; omega)
            refine lv_iload hx hb dX12_drawn_162 (lv_at hl 5 rfl) ?_
            refine lv_aload_n hx hb dX12_drawn_164 rfl (lv_at hl 0 rfl) ?_
            refine lv_iload_n hx hb dX12_drawn_165 rfl (lv_at hl 1 rfl) ?_
            refine sg_calli (va_runV (As := [.int x0]) (rest := [.int y6_69]) ⟨hx, hb, hml, hown, hts⟩ (kX12_weekOf l D ca za h hh fp_69 L Q hI x0 (by omega) H.size) (cwV 1 hts (gw_V (fun _ h => List.mem_cons_of_mem _ h) mw_752 mw_753 mw_754 mw_619 mw_751) rfl rfl rfl (by decide +kernel) ⟨Nat.le_of_ble_eq_true rfl, Nat.le_of_ble_eq_true rfl⟩) (sg_preV (ci := 12) (C := RX12) (T := TX12) (N := 55) hA hK hP hS hZ 0 (by decide) rfl rfl) rfl rfl hl.1 rfl (lv_room (Nat.le_of_ble_eq_true rfl)) dX12_drawn_166 ⟨Nat.le_refl _, Nat.le_refl _⟩) hA hS (fun r_19 f_16 L_17 Q_18 H locs hq hP hS => ?_)
            obtain ⟨⟨hI, hk_f_16, eL9, eQ9⟩, hq⟩ := hq
            rw [eL9, eQ9] at hP; clear eL9 eQ9
            have hF : sgK WkX12_drawn f f_16 := sgK.tr hF hk_f_16 (by decide)
            refine lv_iadd hx hb dX12_drawn_169 ?_
            refine lv_topi (fun v_20 ev_20 => ?_)
            refine lv_istore (lv' := [(6, .int v_20), (0, .ref (h 0)), (1, .int x0), (3, .int x2), (4, .int x3), (5, .int y5_69), (7, .int y7_69), (8, .int y8_69), (9, .int y9_69)]) hx hb dX12_drawn_170 hl (by decide) rfl (fun ls hl => ?_)
            refine lv_iconst (v := 0) hx hb dX12_drawn_172 (by decide) ?_
            refine lv_istore (lv' := [(9, .int 0), (6, .int v_20), (0, .ref (h 0)), (1, .int x0), (3, .int x2), (4, .int x3), (5, .int y5_69), (7, .int y7_69), (8, .int y8_69)]) hx hb dX12_drawn_173 hl (by decide) rfl (fun ls hl => ?_)
            exact loop_175 22 y5_69 v_20 y7_69 y8_69 0 f_16 _ _ _ (by have kc4 : (0 : Int32).toInt = 0 := (by decide); omega) (by have kc4 : (0 : Int32).toInt = 0 := (by decide); omega) (by omega) (by omega) (by omega) (by omega) (by decide) hI hF hP hS (lv_sub hl [2, 3, 4, 5, 6, 1, 7, 8, 0] rfl)
          · skip
            have c_15 : y9_69.toInt < r_13.toInt := (by have z := bn_nle c; omega)
            refine lv_aload_n hx hb dX12_drawn_79 rfl (lv_at hl 0 rfl) ?_
            refine lv_iload_n hx hb dX12_drawn_80 rfl (lv_at hl 1 rfl) ?_
            refine lv_iload hx hb dX12_drawn_81 (lv_at hl 8 rfl) ?_
            refine sg_calli (va_runV (As := [.int x0, .int y9_69]) (rest := []) ⟨hx, hb, hml, hown, hts⟩ (kX12_whoSits l D ca za h hh fp_69 L Q hI x0 y9_69 (by omega) (by omega) H.size) (cwV 2 hts (gw_V (fun _ h => List.mem_cons_of_mem _ h) mw_725 mw_726 mw_727 mw_619 mw_724) rfl rfl rfl (by decide +kernel) ⟨Nat.le_of_ble_eq_true rfl, Nat.le_of_ble_eq_true rfl⟩) (sg_preV (ci := 12) (C := RX12) (T := TX12) (N := 55) hA hK hP hS hZ 0 (by decide) rfl rfl) rfl rfl hl.1 rfl (lv_room (Nat.le_of_ble_eq_true rfl)) dX12_drawn_83 ⟨Nat.le_refl _, Nat.le_refl _⟩) hA hS (fun r_24 f_21 L_22 Q_23 H locs hq hP hS => ?_)
            obtain ⟨⟨ef9, eL9, eQ9⟩, hq, u_25⟩ := hq
            rw [ef9, eL9, eQ9] at hP; clear ef9 eL9 eQ9
            refine lv_istore (lv' := [(10, .int r_24), (0, .ref (h 0)), (1, .int x0), (3, .int x2), (4, .int x3), (5, .int y5_69), (6, .int y6_69), (7, .int y7_69), (8, .int y8_69), (9, .int y9_69)]) hx hb dX12_drawn_86 hl (by decide) rfl (fun ls hl => ?_)
            refine lv_iload hx hb dX12_drawn_88 (lv_at hl 0 rfl) ?_
            refine lv_if_lt (tgt := 156) hx hb dX12_drawn_90 (by decide) (fun c => ?_) (fun c => ?_)
            · skip
              have c_26 : r_24.toInt < 0 := (by have z := bn_lt c; have k1 : (0 : Int32).toInt = 0 := (by decide); omega)
              exact blk_156 y5_69 y6_69 y7_69 y8_69 y9_69 fp_69 _ _ _ (by omega) (by omega) (by omega) (by omega) (by omega) (by omega) (by omega) hI hF hP hS (lv_sub hl [1, 2, 3, 4, 5, 6, 7, 8, 9] rfl)
            · skip
              have c_27 : 0 ≤ r_24.toInt := (by have z := bn_nlt c; have k1 : (0 : Int32).toInt = 0 := (by decide); omega)
              refine lv_iload hx hb dX12_drawn_93 (lv_at hl 5 rfl) ?_
              refine lv_ldcw (v := 1103515245) hx hb hown (hts _ (List.mem_cons_of_mem _ mw_755)) dX12_drawn_95 ?_
              refine lv_imul hx hb dX12_drawn_98 ?_
              refine lv_topi (fun v_28 ev_28 => ?_)
              refine lv_sipush (v := 12345) hx hb dX12_drawn_99 (by decide) ?_
              refine lv_iadd hx hb dX12_drawn_102 ?_
              refine lv_topi (fun v_29 ev_29 => ?_)
              refine lv_istore (lv' := [(5, .int v_29), (10, .int r_24), (0, .ref (h 0)), (1, .int x0), (3, .int x2), (4, .int x3), (6, .int y6_69), (7, .int y7_69), (8, .int y8_69), (9, .int y9_69)]) hx hb dX12_drawn_103 hl (by decide) rfl (fun ls hl => ?_)
              refine lv_aload_n hx hb dX12_drawn_105 rfl (lv_at hl 2 rfl) ?_
              refine sg_get (ci := 12) (v := .ref (h 11)) (C := RX12) (T := TX12) (N := 55) hx hb hts (fun w h => List.mem_cons_of_mem _ (gx_12 w h)) hown hK hP 0 (by decide) rfl rfl 26 (by decide) (hts _ (List.mem_cons_of_mem _ mw_732)) (fun _ h9 => h9) rfl dX12_drawn_106 ?_
              refine lv_iload hx hb dX12_drawn_109 (lv_at hl 9 rfl) ?_
              refine lv_iload hx hb dX12_drawn_111 (lv_at hl 0 rfl) ?_
              refine lv_bipush (v := 8) hx hb dX12_drawn_113 (by decide) ?_
              obtain ⟨v_30, ev_30⟩ : ∃ z : Int32, z = (Int32.toUInt32 v_29 >>> (Int32.toUInt32 8 &&& Int32.toUInt32 31)).toInt32 := ⟨_, rfl⟩
              refine lv_iushr (v := v_30) hx hb dX12_drawn_115 ev_30.symm ?_
              refine lv_bipush (v := 12) hx hb dX12_drawn_116 (by decide) ?_
              refine lv_irem hx hb dX12_drawn_118 (by decide) ?_
              refine lv_topi (fun v_31 ev_31 => ?_)
              have q_32 : 0 ≤ v_30.toInt → v_31.toInt = v_30.toInt % 12 := fun z => by rw [ev_31]; exact bn_remI z (by decide) (by decide)
              refine lv_aload_n hx hb dX12_drawn_119 rfl (lv_at hl 2 rfl) ?_
              refine lv_iload hx hb dX12_drawn_120 (lv_at hl 1 rfl) ?_
              refine lv_bipush (v := 7) hx hb dX12_drawn_122 (by decide) ?_
              refine sg_calli (va_runV (As := [.int r_24, .int 7]) (rest := [.int v_31, .int y9_69, .ref (h 11)]) ⟨hx, hb, hml, hown, hts⟩ (kX12_numberOf l D ca za h hh fp_69 L Q hI r_24 7 (by omega) (by decide) H.size) (cwV 2 hts (gw_V (fun _ h => List.mem_cons_of_mem _ h) mw_720 mw_721 mw_722 mw_619 mw_719) rfl rfl rfl (by decide +kernel) ⟨Nat.le_of_ble_eq_true rfl, Nat.le_of_ble_eq_true rfl⟩) (sg_preV (ci := 12) (C := RX12) (T := TX12) (N := 55) hA hK hP hS hZ 0 (by decide) rfl rfl) rfl rfl hl.1 rfl (lv_room (Nat.le_of_ble_eq_true rfl)) dX12_drawn_124 ⟨Nat.le_refl _, Nat.le_refl _⟩) hA hS (fun r_36 f_33 L_34 Q_35 H locs hq hP hS => ?_)
              obtain ⟨⟨ef9, eL9, eQ9⟩, hq⟩ := hq
              rw [ef9, eL9, eQ9] at hP; clear ef9 eL9 eQ9
              refine lv_icmp_ge (tgt := 134) hx hb dX12_drawn_127 (by decide) (fun c => ?_) (fun c => ?_)
              · skip
                have c_37 : r_36.toInt ≤ v_31.toInt := (by have z := bn_le c; omega)
                refine lv_iconst (v := 0) hx hb dX12_drawn_134 (by decide) ?_
                refine sg_zast hx hb hh hA hK hP hS 11 (by decide) 2 (fun _ => rfl) rfl (i := y9_69) (x := 0) (vp_in_iff.mpr ⟨by omega, by omega⟩) (by decide) dX12_drawn_135 (fun f_39 H locs ef_39 hP hS => ?_)
                have hI : sgI loM hiM f_39 := by rw [ef_39]; exact sgI.put hI 11 y9_69.toNatClampNeg (show 0 ≤ (0 : Int32).toInt ∧ (0 : Int32).toInt ≤ 1 from by decide)
                have hF : sgK WkX12_drawn f f_39 := sgK.put hF ef_39 (by rfl)
                refine lv_iload hx hb dX12_drawn_136 (lv_at hl 7 rfl) ?_
                refine lv_aload_n hx hb dX12_drawn_138 rfl (lv_at hl 2 rfl) ?_
                refine sg_get (ci := 12) (v := .ref (h 11)) (C := RX12) (T := TX12) (N := 55) hx hb hts (fun w h => List.mem_cons_of_mem _ (gx_12 w h)) hown hK hP 0 (by decide) rfl rfl 26 (by decide) (hts _ (List.mem_cons_of_mem _ mw_732)) (fun _ h9 => h9) rfl dX12_drawn_139 ?_
                refine lv_iload hx hb dX12_drawn_142 (lv_at hl 9 rfl) ?_
                refine sg_zald hx hb hK hP 11 (by decide) 2 rfl rfl (i := y9_69) (vp_in_iff.mpr ⟨by omega, by omega⟩) dX12_drawn_144 ?_
                refine W.eq (g2 := F0 m 145 ls [.int 0, .int y7_69]) (by rw [show f_39 11 (Int32.toNatClampNeg y9_69) = 0 from (by rw [ef_39, sg_up_s, sgu_s])]) ?_
                refine lv_if_eq (tgt := 152) hx hb dX12_drawn_145 (by decide) (fun c => ?_) (fun c => absurd c (by decide))
                refine lv_iconst (v := 0) hx hb dX12_drawn_152 (by decide) ?_
                refine lv_iadd hx hb dX12_drawn_153 ?_
                refine W.eq (g2 := F0 m 154 ls [.int y7_69]) (by rw [Int32.add_zero]) ?_
                refine lv_istore (lv' := [(7, .int y7_69), (5, .int v_29), (10, .int r_24), (0, .ref (h 0)), (1, .int x0), (3, .int x2), (4, .int x3), (6, .int y6_69), (8, .int y8_69), (9, .int y9_69)]) hx hb dX12_drawn_154 hl (by decide) rfl (fun ls hl => ?_)
                exact blk_156 v_29 y6_69 y7_69 y8_69 y9_69 f_39 _ _ _ (by omega) (by omega) (by omega) (by omega) (by omega) (by omega) (by omega) hI hF hP hS (lv_sub hl [3, 4, 5, 6, 1, 7, 0, 8, 9] rfl)
              · skip
                have c_38 : v_31.toInt < r_36.toInt := (by have z := bn_nle c; omega)
                refine lv_iconst (v := 1) hx hb dX12_drawn_130 (by decide) ?_
                refine lv_goto (tgt := 135) hx hb dX12_drawn_131 (by decide) ?_
                refine sg_zast hx hb hh hA hK hP hS 11 (by decide) 2 (fun _ => rfl) rfl (i := y9_69) (x := 1) (vp_in_iff.mpr ⟨by omega, by omega⟩) (by decide) dX12_drawn_135 (fun f_40 H locs ef_40 hP hS => ?_)
                have hI : sgI loM hiM f_40 := by rw [ef_40]; exact sgI.put hI 11 y9_69.toNatClampNeg (show 0 ≤ (1 : Int32).toInt ∧ (1 : Int32).toInt ≤ 1 from by decide)
                have hF : sgK WkX12_drawn f f_40 := sgK.put hF ef_40 (by rfl)
                refine lv_iload hx hb dX12_drawn_136 (lv_at hl 7 rfl) ?_
                refine lv_aload_n hx hb dX12_drawn_138 rfl (lv_at hl 2 rfl) ?_
                refine sg_get (ci := 12) (v := .ref (h 11)) (C := RX12) (T := TX12) (N := 55) hx hb hts (fun w h => List.mem_cons_of_mem _ (gx_12 w h)) hown hK hP 0 (by decide) rfl rfl 26 (by decide) (hts _ (List.mem_cons_of_mem _ mw_732)) (fun _ h9 => h9) rfl dX12_drawn_139 ?_
                refine lv_iload hx hb dX12_drawn_142 (lv_at hl 9 rfl) ?_
                refine sg_zald hx hb hK hP 11 (by decide) 2 rfl rfl (i := y9_69) (vp_in_iff.mpr ⟨by omega, by omega⟩) dX12_drawn_144 ?_
                refine W.eq (g2 := F0 m 145 ls [.int 1, .int y7_69]) (by rw [show f_40 11 (Int32.toNatClampNeg y9_69) = 1 from (by rw [ef_40, sg_up_s, sgu_s])]) ?_
                refine lv_if_eq (tgt := 152) hx hb dX12_drawn_145 (by decide) (fun c => absurd c (by decide)) (fun c => ?_)
                refine lv_iconst (v := 1) hx hb dX12_drawn_148 (by decide) ?_
                refine lv_goto (tgt := 153) hx hb dX12_drawn_149 (by decide) ?_
                refine lv_iadd hx hb dX12_drawn_153 ?_
                refine lv_topi (fun v_41 ev_41 => ?_)
                refine lv_istore (lv' := [(7, .int v_41), (5, .int v_29), (10, .int r_24), (0, .ref (h 0)), (1, .int x0), (3, .int x2), (4, .int x3), (6, .int y6_69), (8, .int y8_69), (9, .int y9_69)]) hx hb dX12_drawn_154 hl (by decide) rfl (fun ls hl => ?_)
                exact blk_156 v_29 y6_69 v_41 y8_69 y9_69 f_40 _ _ _ (by omega) (by omega) (by omega) (by omega) (by omega) (by omega) (by omega) hI hF hP hS (lv_sub hl [3, 4, 5, 6, 1, 7, 0, 8, 9] rfl)
      intro y5_60 y6_60 y7_60 y8_60 fp_60 H locs ls hm_60 hy0_60 hy1_60 hy2_60 hy3_60 hI hF hP hS hl
      refine lv_iload hx hb dX12_drawn_60 (lv_at hl 7 rfl) ?_
      refine lv_iload_n hx hb dX12_drawn_62 rfl (lv_at hl 2 rfl) ?_
      refine lv_icmp_ge (tgt := 202) hx hb dX12_drawn_63 (by decide) (fun c => ?_) (fun c => ?_)
      · skip
        have c_42 : x2.toInt ≤ y8_60.toInt := (by have z := bn_le c; omega)
        refine lv_iload hx hb dX12_drawn_202 (lv_at hl 3 rfl) ?_
        refine lv_if_ne (tgt := 212) hx hb dX12_drawn_204 (by decide) (fun c => ?_) (fun c => ?_)
        · skip
          have c_44 : x3.toInt ≠ 0 := (by have z := bn_ne c; have k1 : (0 : Int32).toInt = 0 := (by decide); omega)
          refine lv_iload hx hb dX12_drawn_212 (lv_at hl 6 rfl) ?_
          exact hret _ _ _ _ (y7_60) fp_60 L Q dX12_drawn_214 hP hS ⟨⟨hI, hF, rfl, rfl⟩, trivial⟩
        · skip
          have c_45 : x3.toInt = 0 := (by have z := Int32.toInt_inj.mpr c; have k1 : (0 : Int32).toInt = 0 := (by decide); omega)
          refine lv_iload hx hb dX12_drawn_207 (lv_at hl 5 rfl) ?_
          refine lv_goto (tgt := 214) hx hb dX12_drawn_209 (by decide) ?_
          exact hret _ _ _ _ (y6_60) fp_60 L Q dX12_drawn_214 hP hS ⟨⟨hI, hF, rfl, rfl⟩, trivial⟩
      · skip
        have c_43 : y8_60.toInt < x2.toInt := (by have z := bn_nle c; omega)
        refine lv_iconst (v := 0) hx hb dX12_drawn_66 (by decide) ?_
        refine lv_istore (lv' := [(9, .int 0), (0, .ref (h 0)), (1, .int x0), (3, .int x2), (4, .int x3), (5, .int y5_60), (6, .int y6_60), (7, .int y7_60), (8, .int y8_60)]) hx hb dX12_drawn_67 hl (by decide) rfl (fun ls hl => ?_)
        exact loop_69 22 y5_60 y6_60 y7_60 y8_60 0 fp_60 _ _ _ (by have kc4 : (0 : Int32).toInt = 0 := (by decide); omega) (by have kc4 : (0 : Int32).toInt = 0 := (by decide); omega) (by omega) (by omega) (by omega) (by omega) (by decide) hI hF hP hS (lv_sub hl [1, 2, 3, 4, 5, 6, 7, 8, 0] rfl)
  refine lv_aload_n hx hb dX12_drawn_0 rfl (lv_at hl 0 rfl) ?_
  refine lv_iload_n hx hb dX12_drawn_1 rfl (lv_at hl 1 rfl) ?_
  refine sg_calli (va_runV (As := [.int x0]) (rest := []) ⟨hx, hb, hml, hown, hts⟩ (kX12_bytesIs l D ca za h hh f L Q hI x0 H.size) (cwV 1 hts (gw_V (fun _ h => List.mem_cons_of_mem _ h) mw_685 mw_686 mw_687 mw_619 mw_684) rfl rfl rfl (by decide +kernel) ⟨Nat.le_of_ble_eq_true rfl, Nat.le_of_ble_eq_true rfl⟩) (sg_preV (ci := 12) (C := RX12) (T := TX12) (N := 55) hA hK hP hS hZ 0 (by decide) rfl rfl) rfl rfl hl.1 rfl (lv_room (Nat.le_of_ble_eq_true rfl)) dX12_drawn_2 ⟨Nat.le_refl _, Nat.le_refl _⟩) hA hS (fun r_49 f_46 L_47 Q_48 H locs hq hP hS => ?_)
  obtain ⟨⟨ef9, eL9, eQ9⟩, hq⟩ := hq
  rw [ef9, eL9, eQ9] at hP; clear ef9 eL9 eQ9
  rcases hq with ⟨rfl, hq⟩ | hq | ⟨rfl, hq⟩
  · skip
    have q_50 := hq
    refine lv_iconst (v := (-1)) hx hb dX12_drawn_5 (by decide) ?_
    refine lv_icmp_eq (tgt := 32) hx hb dX12_drawn_6 (by decide) (fun c => absurd c (by decide)) (fun c => ?_)
    refine lv_iload_n hx hb dX12_drawn_9 rfl (lv_at hl 3 rfl) ?_
    obtain ⟨w_51, ew_51⟩ : ∃ z : Int64, z = Int32.toInt64 x2 := ⟨_, rfl⟩
    have q_52 : w_51.toInt = x2.toInt := by rw [ew_51]; exact Int32.toInt_toInt64 _
    refine lv_i2l (v := w_51) hx hb dX12_drawn_10 ew_51.symm ?_
    refine lv_lconst (v := 1) hx hb dX12_drawn_11 (by decide) ?_
    refine lv_ldc2 (v := 20) hx hb hown (hts _ (List.mem_cons_of_mem _ mw_688)) dX12_drawn_12 ?_
    refine sg_calli (va_runS (As := [.long w_51, .long 1, .long 20]) (rest := []) ⟨hx, hb, hml, hown, hts⟩ (kX12_within l D ca za h hh f L Q hI w_51 1 20 H.size) (va_cwS 3 hts (gw_S (fun _ h => List.mem_cons_of_mem _ h) mw_631 mw_632 mw_619 mw_630) rfl rfl rfl (by decide +kernel) ⟨Nat.le_of_ble_eq_true rfl, Nat.le_of_ble_eq_true rfl⟩) (sg_preS hA hK hP hS hZ) rfl rfl hl.1 rfl (lv_room (Nat.le_of_ble_eq_true rfl)) dX12_drawn_15 ⟨Nat.le_refl _, Nat.le_refl _⟩) hA hS (fun r_56 f_53 L_54 Q_55 H locs hq hP hS => ?_)
    obtain ⟨⟨ef9, eL9, eQ9⟩, hq⟩ := hq
    rw [ef9, eL9, eQ9] at hP; clear ef9 eL9 eQ9
    have k_57 : (1 : Int64).toInt = 1 := by decide
    have k_58 : (20 : Int64).toInt = 20 := by decide
    rcases hq with ⟨rfl, hq⟩ | ⟨rfl, hq⟩
    · skip
      have q_59 := hq
      refine lv_if_eq (tgt := 32) hx hb dX12_drawn_18 (by decide) (fun c => absurd c (by decide)) (fun c => ?_)
      refine lv_iload hx hb dX12_drawn_21 (lv_at hl 4 rfl) ?_
      obtain ⟨w_60, ew_60⟩ : ∃ z : Int64, z = Int32.toInt64 x3 := ⟨_, rfl⟩
      have q_61 : w_60.toInt = x3.toInt := by rw [ew_60]; exact Int32.toInt_toInt64 _
      refine lv_i2l (v := w_60) hx hb dX12_drawn_23 ew_60.symm ?_
      refine lv_lconst (v := 0) hx hb dX12_drawn_24 (by decide) ?_
      refine lv_lconst (v := 1) hx hb dX12_drawn_25 (by decide) ?_
      refine sg_calli (va_runS (As := [.long w_60, .long 0, .long 1]) (rest := []) ⟨hx, hb, hml, hown, hts⟩ (kX12_within l D ca za h hh f L Q hI w_60 0 1 H.size) (va_cwS 3 hts (gw_S (fun _ h => List.mem_cons_of_mem _ h) mw_631 mw_632 mw_619 mw_630) rfl rfl rfl (by decide +kernel) ⟨Nat.le_of_ble_eq_true rfl, Nat.le_of_ble_eq_true rfl⟩) (sg_preS hA hK hP hS hZ) rfl rfl hl.1 rfl (lv_room (Nat.le_of_ble_eq_true rfl)) dX12_drawn_26 ⟨Nat.le_refl _, Nat.le_refl _⟩) hA hS (fun r_65 f_62 L_63 Q_64 H locs hq hP hS => ?_)
      obtain ⟨⟨ef9, eL9, eQ9⟩, hq⟩ := hq
      rw [ef9, eL9, eQ9] at hP; clear ef9 eL9 eQ9
      have k_66 : (0 : Int64).toInt = 0 := by decide
      have k_67 : (1 : Int64).toInt = 1 := by decide
      rcases hq with ⟨rfl, hq⟩ | ⟨rfl, hq⟩
      · skip
        have q_68 := hq
        refine lv_if_ne (tgt := 34) hx hb dX12_drawn_29 (by decide) (fun c => ?_) (fun c => absurd c (by decide))
        refine lv_aload_n hx hb dX12_drawn_34 rfl (lv_at hl 0 rfl) ?_
        refine lv_iload_n hx hb dX12_drawn_35 rfl (lv_at hl 1 rfl) ?_
        refine sg_calli (va_runV (As := [.int x0]) (rest := []) ⟨hx, hb, hml, hown, hts⟩ (kX12_bytesIs l D ca za h hh f L Q hI x0 H.size) (cwV 1 hts (gw_V (fun _ h => List.mem_cons_of_mem _ h) mw_685 mw_686 mw_687 mw_619 mw_684) rfl rfl rfl (by decide +kernel) ⟨Nat.le_of_ble_eq_true rfl, Nat.le_of_ble_eq_true rfl⟩) (sg_preV (ci := 12) (C := RX12) (T := TX12) (N := 55) hA hK hP hS hZ 0 (by decide) rfl rfl) rfl rfl hl.1 rfl (lv_room (Nat.le_of_ble_eq_true rfl)) dX12_drawn_36 ⟨Nat.le_refl _, Nat.le_refl _⟩) hA hS (fun r_72 f_69 L_70 Q_71 H locs hq hP hS => ?_)
        obtain ⟨⟨ef9, eL9, eQ9⟩, hq⟩ := hq
        rw [ef9, eL9, eQ9] at hP; clear ef9 eL9 eQ9
        rcases hq with ⟨rfl, hq⟩ | hq | ⟨rfl, hq⟩
        · skip
          have q_73 := hq
          refine lv_if_ge (tgt := 48) hx hb dX12_drawn_39 (by decide) (fun c => ?_) (fun c => absurd c (by decide))
          refine lv_iload_n hx hb dX12_drawn_48 rfl (lv_at hl 2 rfl) ?_
          refine lv_istore (lv' := [(5, .int x1), (0, .ref (h 0)), (1, .int x0), (2, .int x1), (3, .int x2), (4, .int x3)]) hx hb dX12_drawn_49 hl (by decide) rfl (fun ls hl => ?_)
          refine lv_iconst (v := 0) hx hb dX12_drawn_51 (by decide) ?_
          refine lv_istore (lv' := [(6, .int 0), (5, .int x1), (0, .ref (h 0)), (1, .int x0), (2, .int x1), (3, .int x2), (4, .int x3)]) hx hb dX12_drawn_52 hl (by decide) rfl (fun ls hl => ?_)
          refine lv_iconst (v := 0) hx hb dX12_drawn_54 (by decide) ?_
          refine lv_istore (lv' := [(7, .int 0), (6, .int 0), (5, .int x1), (0, .ref (h 0)), (1, .int x0), (2, .int x1), (3, .int x2), (4, .int x3)]) hx hb dX12_drawn_55 hl (by decide) rfl (fun ls hl => ?_)
          refine lv_iconst (v := 0) hx hb dX12_drawn_57 (by decide) ?_
          refine lv_istore (lv' := [(8, .int 0), (7, .int 0), (6, .int 0), (5, .int x1), (0, .ref (h 0)), (1, .int x0), (2, .int x1), (3, .int x2), (4, .int x3)]) hx hb dX12_drawn_58 hl (by decide) rfl (fun ls hl => ?_)
          exact loop_60 21 x1 0 0 0 f _ _ _ (by have kc1 : (0 : Int32).toInt = 0 := (by decide); have kc2 : (0 : Int32).toInt = 0 := (by decide); have kc3 : (0 : Int32).toInt = 0 := (by decide); omega) (by omega) (by omega) (by omega) (by decide) hI hF hP hS (lv_sub hl [4, 5, 7, 8, 3, 2, 1, 0] rfl)
        · skip
          have q_74 := hq
          refine lv_if_ge (tgt := 48) hx hb dX12_drawn_39 (by decide) (fun c => ?_) (fun c => ?_)
          · skip
            exfalso; have c_75 : 0 ≤ r_72.toInt := (by have z := bn_le c; have k1 : (0 : Int32).toInt = 0 := (by decide); omega); omega
          · skip
            have c_76 : r_72.toInt < 0 := (by have z := bn_nle c; have k1 : (0 : Int32).toInt = 0 := (by decide); omega)
            refine lv_aload_n hx hb dX12_drawn_42 rfl (lv_at hl 0 rfl) ?_
            refine lv_iload_n hx hb dX12_drawn_43 rfl (lv_at hl 1 rfl) ?_
            refine sg_calli (va_runV (As := [.int x0]) (rest := []) ⟨hx, hb, hml, hown, hts⟩ (kX12_bytesIs l D ca za h hh f L Q hI x0 H.size) (cwV 1 hts (gw_V (fun _ h => List.mem_cons_of_mem _ h) mw_685 mw_686 mw_687 mw_619 mw_684) rfl rfl rfl (by decide +kernel) ⟨Nat.le_of_ble_eq_true rfl, Nat.le_of_ble_eq_true rfl⟩) (sg_preV (ci := 12) (C := RX12) (T := TX12) (N := 55) hA hK hP hS hZ 0 (by decide) rfl rfl) rfl rfl hl.1 rfl (lv_room (Nat.le_of_ble_eq_true rfl)) dX12_drawn_44 ⟨Nat.le_refl _, Nat.le_refl _⟩) hA hS (fun r_80 f_77 L_78 Q_79 H locs hq hP hS => ?_)
            obtain ⟨⟨ef9, eL9, eQ9⟩, hq⟩ := hq
            rw [ef9, eL9, eQ9] at hP; clear ef9 eL9 eQ9
            rcases hq with ⟨rfl, hq⟩ | hq | ⟨rfl, hq⟩
            · skip
              have q_81 := hq
              have k99 : (1 : Int32).toInt = 1 := (by decide)
              exact hret _ _ _ _ (1) f L Q dX12_drawn_47 hP hS ⟨⟨hI, hF, rfl, rfl⟩, trivial⟩
            · skip
              have q_82 := hq
              exact hret _ _ _ _ (r_80) f L Q dX12_drawn_47 hP hS ⟨⟨hI, hF, rfl, rfl⟩, trivial⟩
            · skip
              have q_83 := hq
              have k99 : ((-1) : Int32).toInt = (-1) := (by decide)
              exact hret _ _ _ _ (-1) f L Q dX12_drawn_47 hP hS ⟨⟨hI, hF, rfl, rfl⟩, trivial⟩
        · skip
          have q_84 := hq
          refine lv_if_ge (tgt := 48) hx hb dX12_drawn_39 (by decide) (fun c => absurd c (by decide)) (fun c => ?_)
          refine lv_aload_n hx hb dX12_drawn_42 rfl (lv_at hl 0 rfl) ?_
          refine lv_iload_n hx hb dX12_drawn_43 rfl (lv_at hl 1 rfl) ?_
          refine sg_calli (va_runV (As := [.int x0]) (rest := []) ⟨hx, hb, hml, hown, hts⟩ (kX12_bytesIs l D ca za h hh f L Q hI x0 H.size) (cwV 1 hts (gw_V (fun _ h => List.mem_cons_of_mem _ h) mw_685 mw_686 mw_687 mw_619 mw_684) rfl rfl rfl (by decide +kernel) ⟨Nat.le_of_ble_eq_true rfl, Nat.le_of_ble_eq_true rfl⟩) (sg_preV (ci := 12) (C := RX12) (T := TX12) (N := 55) hA hK hP hS hZ 0 (by decide) rfl rfl) rfl rfl hl.1 rfl (lv_room (Nat.le_of_ble_eq_true rfl)) dX12_drawn_44 ⟨Nat.le_refl _, Nat.le_refl _⟩) hA hS (fun r_88 f_85 L_86 Q_87 H locs hq hP hS => ?_)
          obtain ⟨⟨ef9, eL9, eQ9⟩, hq⟩ := hq
          rw [ef9, eL9, eQ9] at hP; clear ef9 eL9 eQ9
          rcases hq with ⟨rfl, hq⟩ | hq | ⟨rfl, hq⟩
          · skip
            have q_89 := hq
            have k99 : (1 : Int32).toInt = 1 := (by decide)
            exact hret _ _ _ _ (1) f L Q dX12_drawn_47 hP hS ⟨⟨hI, hF, rfl, rfl⟩, trivial⟩
          · skip
            have q_90 := hq
            exact hret _ _ _ _ (r_88) f L Q dX12_drawn_47 hP hS ⟨⟨hI, hF, rfl, rfl⟩, trivial⟩
          · skip
            have q_91 := hq
            have k99 : ((-1) : Int32).toInt = (-1) := (by decide)
            exact hret _ _ _ _ (-1) f L Q dX12_drawn_47 hP hS ⟨⟨hI, hF, rfl, rfl⟩, trivial⟩
      · skip
        have q_92 := hq
        refine lv_if_ne (tgt := 34) hx hb dX12_drawn_29 (by decide) (fun c => absurd c (by decide)) (fun c => ?_)
        refine lv_iconst (v := (-1)) hx hb dX12_drawn_32 (by decide) ?_
        have k99 : ((-1) : Int32).toInt = (-1) := (by decide)
        exact hret _ _ _ _ (-1) f L Q dX12_drawn_33 hP hS ⟨⟨hI, hF, rfl, rfl⟩, trivial⟩
    · skip
      have q_93 := hq
      refine lv_if_eq (tgt := 32) hx hb dX12_drawn_18 (by decide) (fun c => ?_) (fun c => absurd c (by decide))
      refine lv_iconst (v := (-1)) hx hb dX12_drawn_32 (by decide) ?_
      have k99 : ((-1) : Int32).toInt = (-1) := (by decide)
      exact hret _ _ _ _ (-1) f L Q dX12_drawn_33 hP hS ⟨⟨hI, hF, rfl, rfl⟩, trivial⟩
  · skip
    have q_94 := hq
    refine lv_iconst (v := (-1)) hx hb dX12_drawn_5 (by decide) ?_
    refine lv_icmp_eq (tgt := 32) hx hb dX12_drawn_6 (by decide) (fun c => ?_) (fun c => ?_)
    · skip
      exfalso; have c_95 : r_49.toInt = (-1) := (by have z := Int32.toInt_inj.mpr c; have k1 : ((-1) : Int32).toInt = (-1) := (by decide); omega); omega
    · skip
      have c_96 : r_49.toInt ≠ (-1) := (by have z := bn_ne c; have k1 : ((-1) : Int32).toInt = (-1) := (by decide); omega)
      refine lv_iload_n hx hb dX12_drawn_9 rfl (lv_at hl 3 rfl) ?_
      obtain ⟨w_97, ew_97⟩ : ∃ z : Int64, z = Int32.toInt64 x2 := ⟨_, rfl⟩
      have q_98 : w_97.toInt = x2.toInt := by rw [ew_97]; exact Int32.toInt_toInt64 _
      refine lv_i2l (v := w_97) hx hb dX12_drawn_10 ew_97.symm ?_
      refine lv_lconst (v := 1) hx hb dX12_drawn_11 (by decide) ?_
      refine lv_ldc2 (v := 20) hx hb hown (hts _ (List.mem_cons_of_mem _ mw_688)) dX12_drawn_12 ?_
      refine sg_calli (va_runS (As := [.long w_97, .long 1, .long 20]) (rest := []) ⟨hx, hb, hml, hown, hts⟩ (kX12_within l D ca za h hh f L Q hI w_97 1 20 H.size) (va_cwS 3 hts (gw_S (fun _ h => List.mem_cons_of_mem _ h) mw_631 mw_632 mw_619 mw_630) rfl rfl rfl (by decide +kernel) ⟨Nat.le_of_ble_eq_true rfl, Nat.le_of_ble_eq_true rfl⟩) (sg_preS hA hK hP hS hZ) rfl rfl hl.1 rfl (lv_room (Nat.le_of_ble_eq_true rfl)) dX12_drawn_15 ⟨Nat.le_refl _, Nat.le_refl _⟩) hA hS (fun r_102 f_99 L_100 Q_101 H locs hq hP hS => ?_)
      obtain ⟨⟨ef9, eL9, eQ9⟩, hq⟩ := hq
      rw [ef9, eL9, eQ9] at hP; clear ef9 eL9 eQ9
      have k_103 : (1 : Int64).toInt = 1 := by decide
      have k_104 : (20 : Int64).toInt = 20 := by decide
      rcases hq with ⟨rfl, hq⟩ | ⟨rfl, hq⟩
      · skip
        have q_105 := hq
        refine lv_if_eq (tgt := 32) hx hb dX12_drawn_18 (by decide) (fun c => absurd c (by decide)) (fun c => ?_)
        refine lv_iload hx hb dX12_drawn_21 (lv_at hl 4 rfl) ?_
        obtain ⟨w_106, ew_106⟩ : ∃ z : Int64, z = Int32.toInt64 x3 := ⟨_, rfl⟩
        have q_107 : w_106.toInt = x3.toInt := by rw [ew_106]; exact Int32.toInt_toInt64 _
        refine lv_i2l (v := w_106) hx hb dX12_drawn_23 ew_106.symm ?_
        refine lv_lconst (v := 0) hx hb dX12_drawn_24 (by decide) ?_
        refine lv_lconst (v := 1) hx hb dX12_drawn_25 (by decide) ?_
        refine sg_calli (va_runS (As := [.long w_106, .long 0, .long 1]) (rest := []) ⟨hx, hb, hml, hown, hts⟩ (kX12_within l D ca za h hh f L Q hI w_106 0 1 H.size) (va_cwS 3 hts (gw_S (fun _ h => List.mem_cons_of_mem _ h) mw_631 mw_632 mw_619 mw_630) rfl rfl rfl (by decide +kernel) ⟨Nat.le_of_ble_eq_true rfl, Nat.le_of_ble_eq_true rfl⟩) (sg_preS hA hK hP hS hZ) rfl rfl hl.1 rfl (lv_room (Nat.le_of_ble_eq_true rfl)) dX12_drawn_26 ⟨Nat.le_refl _, Nat.le_refl _⟩) hA hS (fun r_111 f_108 L_109 Q_110 H locs hq hP hS => ?_)
        obtain ⟨⟨ef9, eL9, eQ9⟩, hq⟩ := hq
        rw [ef9, eL9, eQ9] at hP; clear ef9 eL9 eQ9
        have k_112 : (0 : Int64).toInt = 0 := by decide
        have k_113 : (1 : Int64).toInt = 1 := by decide
        rcases hq with ⟨rfl, hq⟩ | ⟨rfl, hq⟩
        · skip
          have q_114 := hq
          refine lv_if_ne (tgt := 34) hx hb dX12_drawn_29 (by decide) (fun c => ?_) (fun c => absurd c (by decide))
          refine lv_aload_n hx hb dX12_drawn_34 rfl (lv_at hl 0 rfl) ?_
          refine lv_iload_n hx hb dX12_drawn_35 rfl (lv_at hl 1 rfl) ?_
          refine sg_calli (va_runV (As := [.int x0]) (rest := []) ⟨hx, hb, hml, hown, hts⟩ (kX12_bytesIs l D ca za h hh f L Q hI x0 H.size) (cwV 1 hts (gw_V (fun _ h => List.mem_cons_of_mem _ h) mw_685 mw_686 mw_687 mw_619 mw_684) rfl rfl rfl (by decide +kernel) ⟨Nat.le_of_ble_eq_true rfl, Nat.le_of_ble_eq_true rfl⟩) (sg_preV (ci := 12) (C := RX12) (T := TX12) (N := 55) hA hK hP hS hZ 0 (by decide) rfl rfl) rfl rfl hl.1 rfl (lv_room (Nat.le_of_ble_eq_true rfl)) dX12_drawn_36 ⟨Nat.le_refl _, Nat.le_refl _⟩) hA hS (fun r_118 f_115 L_116 Q_117 H locs hq hP hS => ?_)
          obtain ⟨⟨ef9, eL9, eQ9⟩, hq⟩ := hq
          rw [ef9, eL9, eQ9] at hP; clear ef9 eL9 eQ9
          rcases hq with ⟨rfl, hq⟩ | hq | ⟨rfl, hq⟩
          · skip
            have q_119 := hq
            refine lv_if_ge (tgt := 48) hx hb dX12_drawn_39 (by decide) (fun c => ?_) (fun c => absurd c (by decide))
            refine lv_iload_n hx hb dX12_drawn_48 rfl (lv_at hl 2 rfl) ?_
            refine lv_istore (lv' := [(5, .int x1), (0, .ref (h 0)), (1, .int x0), (2, .int x1), (3, .int x2), (4, .int x3)]) hx hb dX12_drawn_49 hl (by decide) rfl (fun ls hl => ?_)
            refine lv_iconst (v := 0) hx hb dX12_drawn_51 (by decide) ?_
            refine lv_istore (lv' := [(6, .int 0), (5, .int x1), (0, .ref (h 0)), (1, .int x0), (2, .int x1), (3, .int x2), (4, .int x3)]) hx hb dX12_drawn_52 hl (by decide) rfl (fun ls hl => ?_)
            refine lv_iconst (v := 0) hx hb dX12_drawn_54 (by decide) ?_
            refine lv_istore (lv' := [(7, .int 0), (6, .int 0), (5, .int x1), (0, .ref (h 0)), (1, .int x0), (2, .int x1), (3, .int x2), (4, .int x3)]) hx hb dX12_drawn_55 hl (by decide) rfl (fun ls hl => ?_)
            refine lv_iconst (v := 0) hx hb dX12_drawn_57 (by decide) ?_
            refine lv_istore (lv' := [(8, .int 0), (7, .int 0), (6, .int 0), (5, .int x1), (0, .ref (h 0)), (1, .int x0), (2, .int x1), (3, .int x2), (4, .int x3)]) hx hb dX12_drawn_58 hl (by decide) rfl (fun ls hl => ?_)
            exact loop_60 21 x1 0 0 0 f _ _ _ (by have kc1 : (0 : Int32).toInt = 0 := (by decide); have kc2 : (0 : Int32).toInt = 0 := (by decide); have kc3 : (0 : Int32).toInt = 0 := (by decide); omega) (by omega) (by omega) (by omega) (by decide) hI hF hP hS (lv_sub hl [4, 5, 7, 8, 3, 2, 1, 0] rfl)
          · skip
            have q_120 := hq
            refine lv_if_ge (tgt := 48) hx hb dX12_drawn_39 (by decide) (fun c => ?_) (fun c => ?_)
            · skip
              exfalso; have c_121 : 0 ≤ r_118.toInt := (by have z := bn_le c; have k1 : (0 : Int32).toInt = 0 := (by decide); omega); omega
            · skip
              have c_122 : r_118.toInt < 0 := (by have z := bn_nle c; have k1 : (0 : Int32).toInt = 0 := (by decide); omega)
              refine lv_aload_n hx hb dX12_drawn_42 rfl (lv_at hl 0 rfl) ?_
              refine lv_iload_n hx hb dX12_drawn_43 rfl (lv_at hl 1 rfl) ?_
              refine sg_calli (va_runV (As := [.int x0]) (rest := []) ⟨hx, hb, hml, hown, hts⟩ (kX12_bytesIs l D ca za h hh f L Q hI x0 H.size) (cwV 1 hts (gw_V (fun _ h => List.mem_cons_of_mem _ h) mw_685 mw_686 mw_687 mw_619 mw_684) rfl rfl rfl (by decide +kernel) ⟨Nat.le_of_ble_eq_true rfl, Nat.le_of_ble_eq_true rfl⟩) (sg_preV (ci := 12) (C := RX12) (T := TX12) (N := 55) hA hK hP hS hZ 0 (by decide) rfl rfl) rfl rfl hl.1 rfl (lv_room (Nat.le_of_ble_eq_true rfl)) dX12_drawn_44 ⟨Nat.le_refl _, Nat.le_refl _⟩) hA hS (fun r_126 f_123 L_124 Q_125 H locs hq hP hS => ?_)
              obtain ⟨⟨ef9, eL9, eQ9⟩, hq⟩ := hq
              rw [ef9, eL9, eQ9] at hP; clear ef9 eL9 eQ9
              rcases hq with ⟨rfl, hq⟩ | hq | ⟨rfl, hq⟩
              · skip
                have q_127 := hq
                have k99 : (1 : Int32).toInt = 1 := (by decide)
                exact hret _ _ _ _ (1) f L Q dX12_drawn_47 hP hS ⟨⟨hI, hF, rfl, rfl⟩, trivial⟩
              · skip
                have q_128 := hq
                exact hret _ _ _ _ (r_126) f L Q dX12_drawn_47 hP hS ⟨⟨hI, hF, rfl, rfl⟩, trivial⟩
              · skip
                have q_129 := hq
                have k99 : ((-1) : Int32).toInt = (-1) := (by decide)
                exact hret _ _ _ _ (-1) f L Q dX12_drawn_47 hP hS ⟨⟨hI, hF, rfl, rfl⟩, trivial⟩
          · skip
            have q_130 := hq
            refine lv_if_ge (tgt := 48) hx hb dX12_drawn_39 (by decide) (fun c => absurd c (by decide)) (fun c => ?_)
            refine lv_aload_n hx hb dX12_drawn_42 rfl (lv_at hl 0 rfl) ?_
            refine lv_iload_n hx hb dX12_drawn_43 rfl (lv_at hl 1 rfl) ?_
            refine sg_calli (va_runV (As := [.int x0]) (rest := []) ⟨hx, hb, hml, hown, hts⟩ (kX12_bytesIs l D ca za h hh f L Q hI x0 H.size) (cwV 1 hts (gw_V (fun _ h => List.mem_cons_of_mem _ h) mw_685 mw_686 mw_687 mw_619 mw_684) rfl rfl rfl (by decide +kernel) ⟨Nat.le_of_ble_eq_true rfl, Nat.le_of_ble_eq_true rfl⟩) (sg_preV (ci := 12) (C := RX12) (T := TX12) (N := 55) hA hK hP hS hZ 0 (by decide) rfl rfl) rfl rfl hl.1 rfl (lv_room (Nat.le_of_ble_eq_true rfl)) dX12_drawn_44 ⟨Nat.le_refl _, Nat.le_refl _⟩) hA hS (fun r_134 f_131 L_132 Q_133 H locs hq hP hS => ?_)
            obtain ⟨⟨ef9, eL9, eQ9⟩, hq⟩ := hq
            rw [ef9, eL9, eQ9] at hP; clear ef9 eL9 eQ9
            rcases hq with ⟨rfl, hq⟩ | hq | ⟨rfl, hq⟩
            · skip
              have q_135 := hq
              have k99 : (1 : Int32).toInt = 1 := (by decide)
              exact hret _ _ _ _ (1) f L Q dX12_drawn_47 hP hS ⟨⟨hI, hF, rfl, rfl⟩, trivial⟩
            · skip
              have q_136 := hq
              exact hret _ _ _ _ (r_134) f L Q dX12_drawn_47 hP hS ⟨⟨hI, hF, rfl, rfl⟩, trivial⟩
            · skip
              have q_137 := hq
              have k99 : ((-1) : Int32).toInt = (-1) := (by decide)
              exact hret _ _ _ _ (-1) f L Q dX12_drawn_47 hP hS ⟨⟨hI, hF, rfl, rfl⟩, trivial⟩
        · skip
          have q_138 := hq
          refine lv_if_ne (tgt := 34) hx hb dX12_drawn_29 (by decide) (fun c => absurd c (by decide)) (fun c => ?_)
          refine lv_iconst (v := (-1)) hx hb dX12_drawn_32 (by decide) ?_
          have k99 : ((-1) : Int32).toInt = (-1) := (by decide)
          exact hret _ _ _ _ (-1) f L Q dX12_drawn_33 hP hS ⟨⟨hI, hF, rfl, rfl⟩, trivial⟩
      · skip
        have q_139 := hq
        refine lv_if_eq (tgt := 32) hx hb dX12_drawn_18 (by decide) (fun c => ?_) (fun c => absurd c (by decide))
        refine lv_iconst (v := (-1)) hx hb dX12_drawn_32 (by decide) ?_
        have k99 : ((-1) : Int32).toInt = (-1) := (by decide)
        exact hret _ _ _ _ (-1) f L Q dX12_drawn_33 hP hS ⟨⟨hI, hF, rfl, rfl⟩, trivial⟩
  · skip
    have q_140 := hq
    refine lv_iconst (v := (-1)) hx hb dX12_drawn_5 (by decide) ?_
    refine lv_icmp_eq (tgt := 32) hx hb dX12_drawn_6 (by decide) (fun c => ?_) (fun c => absurd c (by decide))
    refine lv_iconst (v := (-1)) hx hb dX12_drawn_32 (by decide) ?_
    have k99 : ((-1) : Int32).toInt = (-1) := (by decide)
    exact hret _ _ _ _ (-1) f L Q dX12_drawn_33 hP hS ⟨⟨hI, hF, rfl, rfl⟩, trivial⟩

abbrev WkX12_sit : List (Nat × Nat × Option Nat) := [(0, 0, some 12), (0, 0, some 13), (0, 0, some 14), (0, 0, some 15), (0, 0, some 16), (0, 0, some 29), (0, 0, some 30), (0, 0, some 31), (0, 0, some 38), (0, 0, some 39), (0, 0, some 40), (0, 0, some 41), (0, 0, some 42), (5, 5, none), (8, 8, none), (12, 12, none)]
set_option maxHeartbeats 4000000 in
set_option maxRecDepth 100000 in
theorem kX12_sit (l : Launch) (D : va_G) (ca : Nat → ClassId) (za h : Nat → Nat) (hh : sgH 26 h) (f : sg_F) (L : sg_L) (Q : sg_Q) (hI : sgI loM hiM f) (x0 : Int32) (sz : Nat) : Met l yX12_sit gwX12_sit { frames := 46, cells := 0, slots := 0, locals := 1055 } (sgP D vwCl (tyX ca) 26 h (eM ca h) zcM za f L Q sz [.ref (h 0), .int x0]) (sgQi D vwCl 26 h (eM ca h) sz (fun r f1 L1 Q1 => ((sgI loM hiM f1 ∧ sgK WkX12_sit f f1 ∧ L1 = L ∧ Q1 = Q) ∧ True))) 0 0 (sgA 26 h sz) := by
  refine sg_ofWi (cc := cX12_sit) (maxL := 3) RX12 (by decide) rfl rfl (Nat.le_of_ble_eq_true rfl) ?_
  intro p e s m below meth cd Qz ls hx hb hml hown hts hK hZ hP hS hl hret
  have hA := sgY.self (n := 26) (h := h) (sz := s.heap.size)
  have hl : lv_has ls 3 [(0, .ref (h 0)), (1, .int x0)] := hl
  obtain ⟨H, hH⟩ : ∃ z : Heap, z = s.heap := ⟨_, rfl⟩
  obtain ⟨locs, hlo⟩ : ∃ z : List Loc, z = [] := ⟨_, rfl⟩
  have hP : va_P D vwCl (sgw 26 h (eM ca h) f L Q) H := by rw [hH]; exact hP
  have hS : va_S (sgA 26 h s.heap.size) s.heap H locs := by rw [hH, hlo]; exact hS
  suffices hgo : W p l e ({ frames := 46, cells := 0, slots := 0, locals := 1055 }) s m ([.ref (h 0), .int x0] : List Value).toArray below meth cd H locs 0 0 Qz (F0 m 0 ls []) by rw [hH, hlo] at hgo; exact hgo
  clear hH hlo
  have hF : sgK WkX12_sit f f := sgK.rf
  have loop_22 : ∀ (n_22 : Nat) (y2_22 : Int32) (fp_22 : sg_F) (H : Heap) (locs : List Loc) (ls : Array Slot), 3 - y2_22.toInt < (n_22 : Int) → 0 ≤ x0.toInt ∧ x0.toInt ≤ 7 → 0 ≤ y2_22.toInt ∧ y2_22.toInt ≤ 3 → sgI loM hiM fp_22 → sgK WkX12_sit f fp_22 → va_P D vwCl (sgw 26 h (eM ca h) fp_22 L Q) H → va_S (sgA 26 h s.heap.size) s.heap H locs → lv_has ls 3 [(0, .ref (h 0)), (1, .int x0), (2, .int y2_22)] → W p l e ({ frames := 46, cells := 0, slots := 0, locals := 1055 }) s m ([.ref (h 0), .int x0] : List Value).toArray below meth cd H locs 0 0 Qz (F0 m 22 ls []) := by
    intro n_22
    induction n_22 with
    | zero => intro y2_22 fp_22 H locs ls hm_22 hy0_22 hy1_22 hI hF hP hS hl; exact absurd hm_22 (by omega)
    | succ n_22 ih_22 =>
      intro y2_22 fp_22 H locs ls hm_22 hy0_22 hy1_22 hI hF hP hS hl
      refine lv_iload_n hx hb dX12_sit_22 rfl (lv_at hl 2 rfl) ?_
      refine lv_iconst (v := 3) hx hb dX12_sit_23 (by decide) ?_
      refine lv_icmp_ge (tgt := 45) hx hb dX12_sit_24 (by decide) (fun c => ?_) (fun c => ?_)
      · skip
        have c_1 : 3 ≤ y2_22.toInt := (by have z := bn_le c; have k1 : (3 : Int32).toInt = 3 := (by decide); omega)
        refine lv_aload_n hx hb dX12_sit_45 rfl (lv_at hl 0 rfl) ?_
        refine sg_get (ci := 12) (v := .int (fp_22 0 31)) (C := RX12) (T := TX12) (N := 55) hx hb hts (fun w h => List.mem_cons_of_mem _ (gx_12 w h)) hown hK hP 0 (by decide) rfl rfl 31 (by decide) (hts _ (List.mem_cons_of_mem _ mw_708)) (fun _ h9 => h9) rfl dX12_sit_46 ?_
        refine lv_topi (fun v_3 ev_3 => ?_)
        refine lv_aload_n hx hb dX12_sit_49 rfl (lv_at hl 0 rfl) ?_
        refine sg_get (ci := 12) (v := .int (fp_22 0 30)) (C := RX12) (T := TX12) (N := 55) hx hb hts (fun w h => List.mem_cons_of_mem _ (gx_12 w h)) hown hK hP 0 (by decide) rfl rfl 30 (by decide) (hts _ (List.mem_cons_of_mem _ mw_707)) (fun _ h9 => h9) rfl dX12_sit_50 ?_
        refine lv_topi (fun v_4 ev_4 => ?_)
        refine lv_iadd hx hb dX12_sit_53 ?_
        refine lv_topi (fun v_5 ev_5 => ?_)
        refine lv_istore_n (lv' := [(2, .int v_5), (0, .ref (h 0)), (1, .int x0)]) hx hb dX12_sit_54 rfl hl (by decide) rfl (fun ls hl => ?_)
        refine lv_aload_n hx hb dX12_sit_55 rfl (lv_at hl 1 rfl) ?_
        refine lv_dup hx hb dX12_sit_56 rfl ?_
        refine sg_get (ci := 12) (v := .int (fp_22 0 38)) (C := RX12) (T := TX12) (N := 55) hx hb hts (fun w h => List.mem_cons_of_mem _ (gx_12 w h)) hown hK hP 0 (by decide) rfl rfl 38 (by decide) (hts _ (List.mem_cons_of_mem _ mw_608)) (fun _ h9 => h9) rfl dX12_sit_57 ?_
        refine lv_topi (fun v_6 ev_6 => ?_)
        refine lv_iconst (v := 1) hx hb dX12_sit_60 (by decide) ?_
        refine lv_iadd hx hb dX12_sit_61 ?_
        refine lv_topi (fun v_7 ev_7 => ?_)
        refine sg_put (ci := 12) (x := v_7) (ty := .int) (C := RX12) (T := TX12) (N := 55) hx hb hts (fun w h => List.mem_cons_of_mem _ (gx_12 w h)) tyX12 tyX12_ok nmX12 hown hh hA hK hP hS 0 (by decide) rfl rfl 38 (by decide) (hts _ (List.mem_cons_of_mem _ mw_608)) (fun _ h9 => h9) rfl rfl (by decide +kernel) rfl rfl (Nat.le_of_ble_eq_true rfl) dX12_sit_62 (fun f_8 H locs ef_8 hP hS => ?_)
        have hI : sgI loM hiM f_8 := by rw [ef_8]; exact sgI.put hI 0 38 (bn_top _)
        have hF : sgK WkX12_sit f f_8 := sgK.put hF ef_8 (by rfl)
        refine lv_aload_n hx hb dX12_sit_65 rfl (lv_at hl 1 rfl) ?_
        refine lv_dup hx hb dX12_sit_66 rfl ?_
        refine sg_get (ci := 12) (v := .int (f_8 0 39)) (C := RX12) (T := TX12) (N := 55) hx hb hts (fun w h => List.mem_cons_of_mem _ (gx_12 w h)) hown hK hP 0 (by decide) rfl rfl 39 (by decide) (hts _ (List.mem_cons_of_mem _ mw_609)) (fun _ h9 => h9) rfl dX12_sit_67 ?_
        refine lv_topi (fun v_9 ev_9 => ?_)
        refine lv_aload_n hx hb dX12_sit_70 rfl (lv_at hl 1 rfl) ?_
        refine sg_get (ci := 12) (v := .int (f_8 0 29)) (C := RX12) (T := TX12) (N := 55) hx hb hts (fun w h => List.mem_cons_of_mem _ (gx_12 w h)) hown hK hP 0 (by decide) rfl rfl 29 (by decide) (hts _ (List.mem_cons_of_mem _ mw_706)) (fun _ h9 => h9) rfl dX12_sit_71 ?_
        refine lv_topi (fun v_10 ev_10 => ?_)
        refine lv_iadd hx hb dX12_sit_74 ?_
        refine lv_topi (fun v_11 ev_11 => ?_)
        refine sg_put (ci := 12) (x := v_11) (ty := .int) (C := RX12) (T := TX12) (N := 55) hx hb hts (fun w h => List.mem_cons_of_mem _ (gx_12 w h)) tyX12 tyX12_ok nmX12 hown hh hA hK hP hS 0 (by decide) rfl rfl 39 (by decide) (hts _ (List.mem_cons_of_mem _ mw_609)) (fun _ h9 => h9) rfl rfl (by decide +kernel) rfl rfl (Nat.le_of_ble_eq_true rfl) dX12_sit_75 (fun f_12 H locs ef_12 hP hS => ?_)
        have hI : sgI loM hiM f_12 := by rw [ef_12]; exact sgI.put hI 0 39 (bn_top _)
        have hF : sgK WkX12_sit f f_12 := sgK.put hF ef_12 (by rfl)
        refine lv_aload_n hx hb dX12_sit_78 rfl (lv_at hl 1 rfl) ?_
        refine lv_dup hx hb dX12_sit_79 rfl ?_
        refine sg_get (ci := 12) (v := .int (f_12 0 40)) (C := RX12) (T := TX12) (N := 55) hx hb hts (fun w h => List.mem_cons_of_mem _ (gx_12 w h)) hown hK hP 0 (by decide) rfl rfl 40 (by decide) (hts _ (List.mem_cons_of_mem _ mw_610)) (fun _ h9 => h9) rfl dX12_sit_80 ?_
        refine lv_topi (fun v_13 ev_13 => ?_)
        refine lv_aload_n hx hb dX12_sit_83 rfl (lv_at hl 1 rfl) ?_
        refine sg_get (ci := 12) (v := .int v_4) (C := RX12) (T := TX12) (N := 55) hx hb hts (fun w h => List.mem_cons_of_mem _ (gx_12 w h)) hown hK hP 0 (by decide) rfl rfl 30 (by decide) (hts _ (List.mem_cons_of_mem _ mw_707)) (fun _ h9 => h9) (congrArg (fun z => some (Value.int z)) (show f_12 0 30 = v_4 from (by rw [ef_12, sg_up_s, sgu_n (by decide)]; exact (by rw [ef_8, sg_up_s, sgu_n (by decide)]; exact ev_4.symm)))) dX12_sit_84 ?_
        refine lv_iadd hx hb dX12_sit_87 ?_
        refine lv_topi (fun v_14 ev_14 => ?_)
        refine sg_put (ci := 12) (x := v_14) (ty := .int) (C := RX12) (T := TX12) (N := 55) hx hb hts (fun w h => List.mem_cons_of_mem _ (gx_12 w h)) tyX12 tyX12_ok nmX12 hown hh hA hK hP hS 0 (by decide) rfl rfl 40 (by decide) (hts _ (List.mem_cons_of_mem _ mw_610)) (fun _ h9 => h9) rfl rfl (by decide +kernel) rfl rfl (Nat.le_of_ble_eq_true rfl) dX12_sit_88 (fun f_15 H locs ef_15 hP hS => ?_)
        have hI : sgI loM hiM f_15 := by rw [ef_15]; exact sgI.put hI 0 40 (bn_top _)
        have hF : sgK WkX12_sit f f_15 := sgK.put hF ef_15 (by rfl)
        refine lv_aload_n hx hb dX12_sit_91 rfl (lv_at hl 1 rfl) ?_
        refine lv_iload_n hx hb dX12_sit_92 rfl (lv_at hl 0 rfl) ?_
        refine lv_aload_n hx hb dX12_sit_93 rfl (lv_at hl 1 rfl) ?_
        refine sg_get (ci := 12) (v := .int (f_15 0 41)) (C := RX12) (T := TX12) (N := 55) hx hb hts (fun w h => List.mem_cons_of_mem _ (gx_12 w h)) hown hK hP 0 (by decide) rfl rfl 41 (by decide) (hts _ (List.mem_cons_of_mem _ mw_611)) (fun _ h9 => h9) rfl dX12_sit_94 ?_
        refine lv_topi (fun v_16 ev_16 => ?_)
        refine lv_icmp_le (tgt := 104) hx hb dX12_sit_97 (by decide) (fun c => ?_) (fun c => ?_)
        · skip
          have c_17 : v_5.toInt ≤ v_16.toInt := (by have z := bn_le c; omega)
          refine lv_aload_n hx hb dX12_sit_104 rfl (lv_at hl 1 rfl) ?_
          refine sg_get (ci := 12) (v := .int (f_15 0 42)) (C := RX12) (T := TX12) (N := 55) hx hb hts (fun w h => List.mem_cons_of_mem _ (gx_12 w h)) hown hK hP 0 (by decide) rfl rfl 42 (by decide) (hts _ (List.mem_cons_of_mem _ mw_612)) (fun _ h9 => h9) rfl dX12_sit_105 ?_
          refine lv_topi (fun v_19 ev_19 => ?_)
          refine sg_put (ci := 12) (x := v_19) (ty := .int) (C := RX12) (T := TX12) (N := 55) hx hb hts (fun w h => List.mem_cons_of_mem _ (gx_12 w h)) tyX12 tyX12_ok nmX12 hown hh hA hK hP hS 0 (by decide) rfl rfl 42 (by decide) (hts _ (List.mem_cons_of_mem _ mw_612)) (fun _ h9 => h9) rfl rfl (by decide +kernel) rfl rfl (Nat.le_of_ble_eq_true rfl) dX12_sit_108 (fun f_20 H locs ef_20 hP hS => ?_)
          have hI : sgI loM hiM f_20 := by rw [ef_20]; exact sgI.put hI 0 42 (bn_top _)
          have hF : sgK WkX12_sit f f_20 := sgK.put hF ef_20 (by rfl)
          refine lv_aload_n hx hb dX12_sit_111 rfl (lv_at hl 1 rfl) ?_
          refine lv_iload_n hx hb dX12_sit_112 rfl (lv_at hl 0 rfl) ?_
          refine lv_aload_n hx hb dX12_sit_113 rfl (lv_at hl 1 rfl) ?_
          refine sg_get (ci := 12) (v := .int v_16) (C := RX12) (T := TX12) (N := 55) hx hb hts (fun w h => List.mem_cons_of_mem _ (gx_12 w h)) hown hK hP 0 (by decide) rfl rfl 41 (by decide) (hts _ (List.mem_cons_of_mem _ mw_611)) (fun _ h9 => h9) (congrArg (fun z => some (Value.int z)) (show f_20 0 41 = v_16 from (by rw [ef_20, sg_up_s, sgu_n (by decide)]; exact ev_16.symm))) dX12_sit_114 ?_
          refine lv_icmp_le (tgt := 124) hx hb dX12_sit_117 (by decide) (fun c => ?_) (fun c => ?_)
          · skip
            have c_21 : v_5.toInt ≤ v_16.toInt := (by have z := bn_le c; omega)
            refine lv_aload_n hx hb dX12_sit_124 rfl (lv_at hl 1 rfl) ?_
            refine sg_get (ci := 12) (v := .int v_16) (C := RX12) (T := TX12) (N := 55) hx hb hts (fun w h => List.mem_cons_of_mem _ (gx_12 w h)) hown hK hP 0 (by decide) rfl rfl 41 (by decide) (hts _ (List.mem_cons_of_mem _ mw_611)) (fun _ h9 => h9) (congrArg (fun z => some (Value.int z)) (show f_20 0 41 = v_16 from (by rw [ef_20, sg_up_s, sgu_n (by decide)]; exact ev_16.symm))) dX12_sit_125 ?_
            refine sg_put (ci := 12) (x := v_16) (ty := .int) (C := RX12) (T := TX12) (N := 55) hx hb hts (fun w h => List.mem_cons_of_mem _ (gx_12 w h)) tyX12 tyX12_ok nmX12 hown hh hA hK hP hS 0 (by decide) rfl rfl 41 (by decide) (hts _ (List.mem_cons_of_mem _ mw_611)) (fun _ h9 => h9) rfl rfl (by decide +kernel) rfl rfl (Nat.le_of_ble_eq_true rfl) dX12_sit_128 (fun f_23 H locs ef_23 hP hS => ?_)
            have hI : sgI loM hiM f_23 := by rw [ef_23]; exact sgI.put hI 0 41 (bn_top _)
            have hF : sgK WkX12_sit f f_23 := sgK.put hF ef_23 (by rfl)
            refine lv_iload_n hx hb dX12_sit_131 rfl (lv_at hl 0 rfl) ?_
            exact hret _ _ _ _ (v_5) f_23 L Q dX12_sit_132 hP hS ⟨⟨hI, hF, rfl, rfl⟩, trivial⟩
          · skip
            have c_22 : v_16.toInt < v_5.toInt := (by have z := bn_nle c; omega)
            refine lv_iload_n hx hb dX12_sit_120 rfl (lv_at hl 0 rfl) ?_
            refine lv_goto (tgt := 128) hx hb dX12_sit_121 (by decide) ?_
            refine sg_put (ci := 12) (x := v_5) (ty := .int) (C := RX12) (T := TX12) (N := 55) hx hb hts (fun w h => List.mem_cons_of_mem _ (gx_12 w h)) tyX12 tyX12_ok nmX12 hown hh hA hK hP hS 0 (by decide) rfl rfl 41 (by decide) (hts _ (List.mem_cons_of_mem _ mw_611)) (fun _ h9 => h9) rfl rfl (by decide +kernel) rfl rfl (Nat.le_of_ble_eq_true rfl) dX12_sit_128 (fun f_24 H locs ef_24 hP hS => ?_)
            have hI : sgI loM hiM f_24 := by rw [ef_24]; exact sgI.put hI 0 41 (bn_top _)
            have hF : sgK WkX12_sit f f_24 := sgK.put hF ef_24 (by rfl)
            refine lv_iload_n hx hb dX12_sit_131 rfl (lv_at hl 0 rfl) ?_
            exact hret _ _ _ _ (v_5) f_24 L Q dX12_sit_132 hP hS ⟨⟨hI, hF, rfl, rfl⟩, trivial⟩
        · skip
          have c_18 : v_16.toInt < v_5.toInt := (by have z := bn_nle c; omega)
          refine lv_iload_n hx hb dX12_sit_100 rfl (lv_at hl 2 rfl) ?_
          refine lv_goto (tgt := 108) hx hb dX12_sit_101 (by decide) ?_
          refine sg_put (ci := 12) (x := x0) (ty := .int) (C := RX12) (T := TX12) (N := 55) hx hb hts (fun w h => List.mem_cons_of_mem _ (gx_12 w h)) tyX12 tyX12_ok nmX12 hown hh hA hK hP hS 0 (by decide) rfl rfl 42 (by decide) (hts _ (List.mem_cons_of_mem _ mw_612)) (fun _ h9 => h9) rfl rfl (by decide +kernel) rfl rfl (Nat.le_of_ble_eq_true rfl) dX12_sit_108 (fun f_25 H locs ef_25 hP hS => ?_)
          have hI : sgI loM hiM f_25 := by rw [ef_25]; exact sgI.put hI 0 42 (bn_top _)
          have hF : sgK WkX12_sit f f_25 := sgK.put hF ef_25 (by rfl)
          refine lv_aload_n hx hb dX12_sit_111 rfl (lv_at hl 1 rfl) ?_
          refine lv_iload_n hx hb dX12_sit_112 rfl (lv_at hl 0 rfl) ?_
          refine lv_aload_n hx hb dX12_sit_113 rfl (lv_at hl 1 rfl) ?_
          refine sg_get (ci := 12) (v := .int v_16) (C := RX12) (T := TX12) (N := 55) hx hb hts (fun w h => List.mem_cons_of_mem _ (gx_12 w h)) hown hK hP 0 (by decide) rfl rfl 41 (by decide) (hts _ (List.mem_cons_of_mem _ mw_611)) (fun _ h9 => h9) (congrArg (fun z => some (Value.int z)) (show f_25 0 41 = v_16 from (by rw [ef_25, sg_up_s, sgu_n (by decide)]; exact ev_16.symm))) dX12_sit_114 ?_
          refine lv_icmp_le (tgt := 124) hx hb dX12_sit_117 (by decide) (fun c => ?_) (fun c => ?_)
          · skip
            have c_26 : v_5.toInt ≤ v_16.toInt := (by have z := bn_le c; omega)
            refine lv_aload_n hx hb dX12_sit_124 rfl (lv_at hl 1 rfl) ?_
            refine sg_get (ci := 12) (v := .int v_16) (C := RX12) (T := TX12) (N := 55) hx hb hts (fun w h => List.mem_cons_of_mem _ (gx_12 w h)) hown hK hP 0 (by decide) rfl rfl 41 (by decide) (hts _ (List.mem_cons_of_mem _ mw_611)) (fun _ h9 => h9) (congrArg (fun z => some (Value.int z)) (show f_25 0 41 = v_16 from (by rw [ef_25, sg_up_s, sgu_n (by decide)]; exact ev_16.symm))) dX12_sit_125 ?_
            refine sg_put (ci := 12) (x := v_16) (ty := .int) (C := RX12) (T := TX12) (N := 55) hx hb hts (fun w h => List.mem_cons_of_mem _ (gx_12 w h)) tyX12 tyX12_ok nmX12 hown hh hA hK hP hS 0 (by decide) rfl rfl 41 (by decide) (hts _ (List.mem_cons_of_mem _ mw_611)) (fun _ h9 => h9) rfl rfl (by decide +kernel) rfl rfl (Nat.le_of_ble_eq_true rfl) dX12_sit_128 (fun f_28 H locs ef_28 hP hS => ?_)
            have hI : sgI loM hiM f_28 := by rw [ef_28]; exact sgI.put hI 0 41 (bn_top _)
            have hF : sgK WkX12_sit f f_28 := sgK.put hF ef_28 (by rfl)
            refine lv_iload_n hx hb dX12_sit_131 rfl (lv_at hl 0 rfl) ?_
            exact hret _ _ _ _ (v_5) f_28 L Q dX12_sit_132 hP hS ⟨⟨hI, hF, rfl, rfl⟩, trivial⟩
          · skip
            have c_27 : v_16.toInt < v_5.toInt := (by have z := bn_nle c; omega)
            refine lv_iload_n hx hb dX12_sit_120 rfl (lv_at hl 0 rfl) ?_
            refine lv_goto (tgt := 128) hx hb dX12_sit_121 (by decide) ?_
            refine sg_put (ci := 12) (x := v_5) (ty := .int) (C := RX12) (T := TX12) (N := 55) hx hb hts (fun w h => List.mem_cons_of_mem _ (gx_12 w h)) tyX12 tyX12_ok nmX12 hown hh hA hK hP hS 0 (by decide) rfl rfl 41 (by decide) (hts _ (List.mem_cons_of_mem _ mw_611)) (fun _ h9 => h9) rfl rfl (by decide +kernel) rfl rfl (Nat.le_of_ble_eq_true rfl) dX12_sit_128 (fun f_29 H locs ef_29 hP hS => ?_)
            have hI : sgI loM hiM f_29 := by rw [ef_29]; exact sgI.put hI 0 41 (bn_top _)
            have hF : sgK WkX12_sit f f_29 := sgK.put hF ef_29 (by rfl)
            refine lv_iload_n hx hb dX12_sit_131 rfl (lv_at hl 0 rfl) ?_
            exact hret _ _ _ _ (v_5) f_29 L Q dX12_sit_132 hP hS ⟨⟨hI, hF, rfl, rfl⟩, trivial⟩
      · skip
        have c_2 : y2_22.toInt < 3 := (by have z := bn_nle c; have k1 : (3 : Int32).toInt = 3 := (by decide); omega)
        refine lv_aload_n hx hb dX12_sit_27 rfl (lv_at hl 0 rfl) ?_
        refine sg_get (ci := 12) (v := .ref (h 5)) (C := RX12) (T := TX12) (N := 55) hx hb hts (fun w h => List.mem_cons_of_mem _ (gx_12 w h)) hown hK hP 0 (by decide) rfl rfl 7 (by decide) (hts _ (List.mem_cons_of_mem _ mw_607)) (fun _ h9 => h9) rfl dX12_sit_28 ?_
        refine lv_iload_n hx hb dX12_sit_31 rfl (lv_at hl 2 rfl) ?_
        refine lv_aload_n hx hb dX12_sit_32 rfl (lv_at hl 0 rfl) ?_
        refine sg_get (ci := 12) (v := .ref (h 12)) (C := RX12) (T := TX12) (N := 55) hx hb hts (fun w h => List.mem_cons_of_mem _ (gx_12 w h)) hown hK hP 0 (by decide) rfl rfl 27 (by decide) (hts _ (List.mem_cons_of_mem _ mw_705)) (fun _ h9 => h9) rfl dX12_sit_33 ?_
        refine lv_iload_n hx hb dX12_sit_36 rfl (lv_at hl 2 rfl) ?_
        refine sg_iald hx hb hK hP 12 (by decide) 0 rfl rfl (i := y2_22) (vp_in_iff.mpr ⟨by omega, by omega⟩) dX12_sit_37 ?_
        refine lv_topi (fun v_30 ev_30 => ?_)
        have q_31 : 0 ≤ v_30.toInt ∧ v_30.toInt ≤ 60 := by rw [ev_30]; exact hI 12 _
        refine sg_iast hx hb hh hA hK hP hS 5 (by decide) 0 (fun _ => rfl) rfl (i := y2_22) (x := v_30) (vp_in_iff.mpr ⟨by omega, by omega⟩) dX12_sit_38 (fun f_32 H locs ef_32 hP hS => ?_)
        have hI : sgI loM hiM f_32 := by rw [ef_32]; exact sgI.put hI 5 y2_22.toNatClampNeg (show 0 ≤ (v_30 : Int32).toInt ∧ (v_30 : Int32).toInt ≤ 60 from by omega)
        have hF : sgK WkX12_sit f f_32 := sgK.put hF ef_32 (by rfl)
        obtain ⟨v_33, ev_33⟩ : ∃ z : Int32, z = y2_22 + 1 := ⟨_, rfl⟩
        have q_34 : v_33.toInt = y2_22.toInt + 1 := by rw [ev_33]; exact (bn_addc y2_22 1 (by decide) (by omega) (by omega))
        refine lv_iinc (v := v_33) (lv' := [(2, .int v_33), (0, .ref (h 0)), (1, .int x0)]) hx hb dX12_sit_39 hl (k := 2) rfl (by rw [ev_33]; rfl) (by decide) rfl (fun ls hl => ?_)
        refine lv_goto (tgt := 22) hx hb dX12_sit_42 (by decide) ?_
        exact ih_22 v_33 f_32 _ _ _ (by omega) (by omega) (by omega) hI hF hP hS (lv_sub hl [1, 2, 0] rfl)
  refine lv_aload_n hx hb dX12_sit_0 rfl (lv_at hl 0 rfl) ?_
  refine lv_iload_n hx hb dX12_sit_1 rfl (lv_at hl 1 rfl) ?_
  obtain ⟨w_35, ew_35⟩ : ∃ z : Int64, z = Int32.toInt64 x0 := ⟨_, rfl⟩
  have q_36 : w_35.toInt = x0.toInt := by rw [ew_35]; exact Int32.toInt_toInt64 _
  refine lv_i2l (v := w_35) hx hb dX12_sit_2 ew_35.symm ?_
  obtain ⟨v_37, ev_37⟩ : ∃ z : Int32, z = f 0 6 := ⟨_, rfl⟩
  have q_38 : 0 ≤ v_37.toInt ∧ v_37.toInt ≤ 8 := by rw [ev_37]; exact hI 0 6
  have q_39 : (f 0 6).toInt = v_37.toInt := (congrArg Int32.toInt (show f 0 6 = v_37 from ev_37.symm))
  have q_40 : (f 0 6).toInt = v_37.toInt := (congrArg Int32.toInt (show f 0 6 = v_37 from ev_37.symm))
  refine sg_calli (va_runV (As := [.long w_35]) (rest := []) ⟨hx, hb, hml, hown, hts⟩ (kX12_isSitter l D ca za h hh f L Q hI w_35 H.size) (cwV 1 hts (gw_V (fun _ h => List.mem_cons_of_mem _ h) mw_663 mw_664 mw_665 mw_619 mw_662) rfl rfl rfl (by decide +kernel) ⟨Nat.le_of_ble_eq_true rfl, Nat.le_of_ble_eq_true rfl⟩) (sg_preV (ci := 12) (C := RX12) (T := TX12) (N := 55) hA hK hP hS hZ 0 (by decide) rfl rfl) rfl rfl hl.1 rfl (lv_room (Nat.le_of_ble_eq_true rfl)) dX12_sit_3 ⟨Nat.le_refl _, Nat.le_refl _⟩) hA hS (fun r_44 f_41 L_42 Q_43 H locs hq hP hS => ?_)
  obtain ⟨⟨ef9, eL9, eQ9⟩, hq⟩ := hq
  rw [ef9, eL9, eQ9] at hP; clear ef9 eL9 eQ9
  rcases hq with ⟨rfl, hq⟩ | ⟨rfl, hq⟩
  · skip
    have q_45 := hq
    refine lv_if_ne (tgt := 11) hx hb dX12_sit_6 (by decide) (fun c => ?_) (fun c => absurd c (by decide))
    refine lv_aload_n hx hb dX12_sit_11 rfl (lv_at hl 0 rfl) ?_
    refine sg_callv (va_runV (As := []) (rest := []) ⟨hx, hb, hml, hown, hts⟩ (kX12_beginsWeek l D ca za h hh f L Q hI H.size) (cwV 0 hts (gw_V (fun _ h => List.mem_cons_of_mem _ h) mw_710 mw_711 mw_712 mw_619 mw_709) rfl rfl rfl (by decide +kernel) ⟨Nat.le_of_ble_eq_true rfl, Nat.le_of_ble_eq_true rfl⟩) (sg_preV (ci := 12) (C := RX12) (T := TX12) (N := 55) hA hK hP hS hZ 0 (by decide) rfl rfl) rfl rfl hl.1 rfl (lv_room (Nat.le_of_ble_eq_true rfl)) dX12_sit_12 ⟨Nat.le_refl _, Nat.le_refl _⟩) hA hS (fun f_46 L_47 Q_48 H locs hq hP hS => ?_)
    obtain ⟨hI, hk_f_46, eL9, eQ9⟩ := hq
    rw [eL9, eQ9] at hP; clear eL9 eQ9
    have hF : sgK WkX12_sit f f_46 := sgK.tr hF hk_f_46 (by decide)
    refine lv_aload_n hx hb dX12_sit_15 rfl (lv_at hl 0 rfl) ?_
    refine lv_iload_n hx hb dX12_sit_16 rfl (lv_at hl 1 rfl) ?_
    refine sg_callv (va_runV (As := [.int x0]) (rest := []) ⟨hx, hb, hml, hown, hts⟩ (kX12_comes l D ca za h hh f_46 L Q hI x0 (by omega) H.size) (cwV 1 hts (gw_V (fun _ h => List.mem_cons_of_mem _ h) mw_797 mw_798 mw_799 mw_619 mw_796) rfl rfl rfl (by decide +kernel) ⟨Nat.le_of_ble_eq_true rfl, Nat.le_of_ble_eq_true rfl⟩) (sg_preV (ci := 12) (C := RX12) (T := TX12) (N := 55) hA hK hP hS hZ 0 (by decide) rfl rfl) rfl rfl hl.1 rfl (lv_room (Nat.le_of_ble_eq_true rfl)) dX12_sit_17 ⟨Nat.le_refl _, Nat.le_refl _⟩) hA hS (fun f_49 L_50 Q_51 H locs hq hP hS => ?_)
    obtain ⟨hI, hk_f_49, eL9, eQ9⟩ := hq
    rw [eL9, eQ9] at hP; clear eL9 eQ9
    have hF : sgK WkX12_sit f f_49 := sgK.tr hF hk_f_49 (by decide)
    refine lv_iconst (v := 0) hx hb dX12_sit_20 (by decide) ?_
    refine lv_istore_n (lv' := [(2, .int 0), (0, .ref (h 0)), (1, .int x0)]) hx hb dX12_sit_21 rfl hl (by decide) rfl (fun ls hl => ?_)
    exact loop_22 4 0 f_49 _ _ _ (by have kc0 : (0 : Int32).toInt = 0 := (by decide); omega) (by omega) (by decide) hI hF hP hS (lv_sub hl [1, 2, 0] rfl)
  · skip
    have q_52 := hq
    refine lv_if_ne (tgt := 11) hx hb dX12_sit_6 (by decide) (fun c => absurd c (by decide)) (fun c => ?_)
    refine lv_iconst (v := (-1)) hx hb dX12_sit_9 (by decide) ?_
    have k99 : ((-1) : Int32).toInt = (-1) := (by decide)
    exact hret _ _ _ _ (-1) f L Q dX12_sit_10 hP hS ⟨⟨hI, hF, rfl, rfl⟩, trivial⟩

abbrev WkX12_set : List (Nat × Nat × Option Nat) := [(0, 0, some 39), (5, 5, none)]
set_option maxHeartbeats 4000000 in
set_option maxRecDepth 100000 in
theorem kX12_set (l : Launch) (D : va_G) (ca : Nat → ClassId) (za h : Nat → Nat) (hh : sgH 26 h) (f : sg_F) (L : sg_L) (Q : sg_Q) (hI : sgI loM hiM f) (x0 : Int32) (x1 : Int32) (sz : Nat) : Met l yX12_set gwX12_set { frames := 2, cells := 0, slots := 0, locals := 46 } (sgP D vwCl (tyX ca) 26 h (eM ca h) zcM za f L Q sz [.ref (h 0), .int x0, .int x1]) (sgQi D vwCl 26 h (eM ca h) sz (fun r f1 L1 Q1 => ((sgI loM hiM f1 ∧ sgK WkX12_set f f1 ∧ L1 = L ∧ Q1 = Q) ∧ ((-1) ≤ r.toInt ∧ r.toInt ≤ 60)))) 0 0 (sgA 26 h sz) := by
  refine sg_ofWi (cc := cX12_set) (maxL := 4) RX12 (by decide) rfl rfl (Nat.le_of_ble_eq_true rfl) ?_
  intro p e s m below meth cd Qz ls hx hb hml hown hts hK hZ hP hS hl hret
  have hA := sgY.self (n := 26) (h := h) (sz := s.heap.size)
  have hl : lv_has ls 4 [(0, .ref (h 0)), (1, .int x0), (2, .int x1)] := hl
  obtain ⟨H, hH⟩ : ∃ z : Heap, z = s.heap := ⟨_, rfl⟩
  obtain ⟨locs, hlo⟩ : ∃ z : List Loc, z = [] := ⟨_, rfl⟩
  have hP : va_P D vwCl (sgw 26 h (eM ca h) f L Q) H := by rw [hH]; exact hP
  have hS : va_S (sgA 26 h s.heap.size) s.heap H locs := by rw [hH, hlo]; exact hS
  suffices hgo : W p l e ({ frames := 2, cells := 0, slots := 0, locals := 46 }) s m ([.ref (h 0), .int x0, .int x1] : List Value).toArray below meth cd H locs 0 0 Qz (F0 m 0 ls []) by rw [hH, hlo] at hgo; exact hgo
  clear hH hlo
  have hF : sgK WkX12_set f f := sgK.rf
  refine lv_iload_n hx hb dX12_set_0 rfl (lv_at hl 1 rfl) ?_
  refine sg_calli (va_runS (As := [.int x0]) (rest := []) ⟨hx, hb, hml, hown, hts⟩ (kX12_isPart l D ca za h hh f L Q hI x0 H.size) (va_cwS 1 hts (gw_S (fun _ h => List.mem_cons_of_mem _ h) mw_636 mw_637 mw_619 mw_635) rfl rfl rfl (by decide +kernel) ⟨Nat.le_of_ble_eq_true rfl, Nat.le_of_ble_eq_true rfl⟩) (sg_preS hA hK hP hS hZ) rfl rfl hl.1 rfl (lv_room (Nat.le_of_ble_eq_true rfl)) dX12_set_1 ⟨Nat.le_refl _, Nat.le_refl _⟩) hA hS (fun r_4 f_1 L_2 Q_3 H locs hq hP hS => ?_)
  obtain ⟨⟨ef9, eL9, eQ9⟩, hq⟩ := hq
  rw [ef9, eL9, eQ9] at hP; clear ef9 eL9 eQ9
  rcases hq with ⟨rfl, hq⟩ | ⟨rfl, hq⟩
  · skip
    have q_5 := hq
    refine lv_if_eq (tgt := 15) hx hb dX12_set_4 (by decide) (fun c => absurd c (by decide)) (fun c => ?_)
    refine lv_iload_n hx hb dX12_set_7 rfl (lv_at hl 2 rfl) ?_
    obtain ⟨w_6, ew_6⟩ : ∃ z : Int64, z = Int32.toInt64 x1 := ⟨_, rfl⟩
    have q_7 : w_6.toInt = x1.toInt := by rw [ew_6]; exact Int32.toInt_toInt64 _
    refine lv_i2l (v := w_6) hx hb dX12_set_8 ew_6.symm ?_
    refine sg_calli (va_runS (As := [.long w_6]) (rest := []) ⟨hx, hb, hml, hown, hts⟩ (kX12_isSetting l D ca za h hh f L Q hI w_6 H.size) (va_cwS 1 hts (gw_S (fun _ h => List.mem_cons_of_mem _ h) mw_653 mw_654 mw_619 mw_652) rfl rfl rfl (by decide +kernel) ⟨Nat.le_of_ble_eq_true rfl, Nat.le_of_ble_eq_true rfl⟩) (sg_preS hA hK hP hS hZ) rfl rfl hl.1 rfl (lv_room (Nat.le_of_ble_eq_true rfl)) dX12_set_9 ⟨Nat.le_refl _, Nat.le_refl _⟩) hA hS (fun r_11 f_8 L_9 Q_10 H locs hq hP hS => ?_)
    obtain ⟨⟨ef9, eL9, eQ9⟩, hq⟩ := hq
    rw [ef9, eL9, eQ9] at hP; clear ef9 eL9 eQ9
    rcases hq with ⟨rfl, hq⟩ | ⟨rfl, hq⟩
    · skip
      have q_12 := hq
      refine lv_if_ne (tgt := 17) hx hb dX12_set_12 (by decide) (fun c => ?_) (fun c => absurd c (by decide))
      refine lv_iload_n hx hb dX12_set_17 rfl (lv_at hl 2 rfl) ?_
      refine lv_aload_n hx hb dX12_set_18 rfl (lv_at hl 0 rfl) ?_
      refine sg_get (ci := 12) (v := .ref (h 5)) (C := RX12) (T := TX12) (N := 55) hx hb hts (fun w h => List.mem_cons_of_mem _ (gx_12 w h)) hown hK hP 0 (by decide) rfl rfl 7 (by decide) (hts _ (List.mem_cons_of_mem _ mw_607)) (fun _ h9 => h9) rfl dX12_set_19 ?_
      refine lv_iload_n hx hb dX12_set_22 rfl (lv_at hl 1 rfl) ?_
      refine sg_iald hx hb hK hP 5 (by decide) 0 rfl rfl (i := x0) (vp_in_iff.mpr ⟨by omega, by omega⟩) dX12_set_23 ?_
      refine lv_topi (fun v_13 ev_13 => ?_)
      have q_14 : 0 ≤ v_13.toInt ∧ v_13.toInt ≤ 60 := by rw [ev_13]; exact hI 5 _
      refine lv_isub hx hb dX12_set_24 ?_
      refine lv_topi (fun v_15 ev_15 => ?_)
      have q_16 : v_15.toInt = x1.toInt - v_13.toInt := by rw [ev_15]; exact (bn_subI (by omega) (by omega)).trans (by omega)
      refine sg_calli (va_runS (As := [.int v_15]) (rest := []) ⟨hx, hb, hml, hown, hts⟩ (kX12_sizeOf l D ca za h hh f L Q hI v_15 (by omega) H.size) (va_cwS 1 hts (gw_S (fun _ h => List.mem_cons_of_mem _ h) mw_682 mw_683 mw_619 mw_681) rfl rfl rfl (by decide +kernel) ⟨Nat.le_of_ble_eq_true rfl, Nat.le_of_ble_eq_true rfl⟩) (sg_preS hA hK hP hS hZ) rfl rfl hl.1 rfl (lv_room (Nat.le_of_ble_eq_true rfl)) dX12_set_25 ⟨Nat.le_refl _, Nat.le_refl _⟩) hA hS (fun r_20 f_17 L_18 Q_19 H locs hq hP hS => ?_)
      obtain ⟨⟨ef9, eL9, eQ9⟩, hq⟩ := hq
      rw [ef9, eL9, eQ9] at hP; clear ef9 eL9 eQ9
      refine lv_istore_n (lv' := [(3, .int r_20), (0, .ref (h 0)), (1, .int x0), (2, .int x1)]) hx hb dX12_set_28 rfl hl (by decide) rfl (fun ls hl => ?_)
      refine lv_aload_n hx hb dX12_set_29 rfl (lv_at hl 1 rfl) ?_
      refine sg_get (ci := 12) (v := .ref (h 5)) (C := RX12) (T := TX12) (N := 55) hx hb hts (fun w h => List.mem_cons_of_mem _ (gx_12 w h)) hown hK hP 0 (by decide) rfl rfl 7 (by decide) (hts _ (List.mem_cons_of_mem _ mw_607)) (fun _ h9 => h9) rfl dX12_set_30 ?_
      refine lv_iload_n hx hb dX12_set_33 rfl (lv_at hl 2 rfl) ?_
      refine lv_iload_n hx hb dX12_set_34 rfl (lv_at hl 3 rfl) ?_
      refine sg_iast hx hb hh hA hK hP hS 5 (by decide) 0 (fun _ => rfl) rfl (i := x0) (x := x1) (vp_in_iff.mpr ⟨by omega, by omega⟩) dX12_set_35 (fun f_21 H locs ef_21 hP hS => ?_)
      have hI : sgI loM hiM f_21 := by rw [ef_21]; exact sgI.put hI 5 x0.toNatClampNeg (show 0 ≤ (x1 : Int32).toInt ∧ (x1 : Int32).toInt ≤ 60 from by omega)
      have hF : sgK WkX12_set f f_21 := sgK.put hF ef_21 (by rfl)
      refine lv_aload_n hx hb dX12_set_36 rfl (lv_at hl 1 rfl) ?_
      refine lv_dup hx hb dX12_set_37 rfl ?_
      refine sg_get (ci := 12) (v := .int (f_21 0 39)) (C := RX12) (T := TX12) (N := 55) hx hb hts (fun w h => List.mem_cons_of_mem _ (gx_12 w h)) hown hK hP 0 (by decide) rfl rfl 39 (by decide) (hts _ (List.mem_cons_of_mem _ mw_609)) (fun _ h9 => h9) rfl dX12_set_38 ?_
      refine lv_topi (fun v_22 ev_22 => ?_)
      refine lv_iload_n hx hb dX12_set_41 rfl (lv_at hl 0 rfl) ?_
      refine lv_iadd hx hb dX12_set_42 ?_
      refine lv_topi (fun v_23 ev_23 => ?_)
      refine sg_put (ci := 12) (x := v_23) (ty := .int) (C := RX12) (T := TX12) (N := 55) hx hb hts (fun w h => List.mem_cons_of_mem _ (gx_12 w h)) tyX12 tyX12_ok nmX12 hown hh hA hK hP hS 0 (by decide) rfl rfl 39 (by decide) (hts _ (List.mem_cons_of_mem _ mw_609)) (fun _ h9 => h9) rfl rfl (by decide +kernel) rfl rfl (Nat.le_of_ble_eq_true rfl) dX12_set_43 (fun f_24 H locs ef_24 hP hS => ?_)
      have hI : sgI loM hiM f_24 := by rw [ef_24]; exact sgI.put hI 0 39 (bn_top _)
      have hF : sgK WkX12_set f f_24 := sgK.put hF ef_24 (by rfl)
      refine lv_iload_n hx hb dX12_set_46 rfl (lv_at hl 0 rfl) ?_
      exact hret _ _ _ _ (r_20) f_24 L Q dX12_set_47 hP hS ⟨⟨hI, hF, rfl, rfl⟩, (by omega)⟩
    · skip
      have q_25 := hq
      refine lv_if_ne (tgt := 17) hx hb dX12_set_12 (by decide) (fun c => absurd c (by decide)) (fun c => ?_)
      refine lv_iconst (v := (-1)) hx hb dX12_set_15 (by decide) ?_
      have k99 : ((-1) : Int32).toInt = (-1) := (by decide)
      exact hret _ _ _ _ (-1) f L Q dX12_set_16 hP hS ⟨⟨hI, hF, rfl, rfl⟩, (by decide)⟩
  · skip
    have q_26 := hq
    refine lv_if_eq (tgt := 15) hx hb dX12_set_4 (by decide) (fun c => ?_) (fun c => absurd c (by decide))
    refine lv_iconst (v := (-1)) hx hb dX12_set_15 (by decide) ?_
    have k99 : ((-1) : Int32).toInt = (-1) := (by decide)
    exact hret _ _ _ _ (-1) f L Q dX12_set_16 hP hS ⟨⟨hI, hF, rfl, rfl⟩, (by decide)⟩
