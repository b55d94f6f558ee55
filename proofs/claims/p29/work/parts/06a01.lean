/-! contracts of any state. Laid by a program (wip/tool) -/
set_option maxHeartbeats 4000000 in
set_option maxRecDepth 100000 in
theorem kX11_isSetting (l : Launch) (D : va_G) (ca : Nat → ClassId) (za h : Nat → Nat) (hh : sgH 52 h) (f : sg_F) (L : sg_L) (Q : sg_Q) (hI : sgI loX hiX f) (x0 : Int32) (sz : Nat) : Met l yX11_isSetting gwX11_isSetting { frames := 0, cells := 0, slots := 0, locals := 0 } (sgP D vwCl (tyX ca) 52 h (eX ca h) zcX za f L Q sz [.int x0]) (sgQi D vwCl 52 h (eX ca h) sz (fun r f1 L1 Q1 => ((f1 = f ∧ L1 = L ∧ Q1 = Q) ∧ ((r = 1 ∧ (0 ≤ x0.toInt ∧ x0.toInt ≤ 60)) ∨ (r = 0 ∧ (¬ (0 ≤ x0.toInt ∧ x0.toInt ≤ 60)))) ∧ (r) = sX11_isSetting x0 f L))) 0 0 (sgA 52 h sz) := by
  refine sg_ofWz (cc := cX11_isSetting) (maxL := 1) RX11 (by decide) rfl rfl (Nat.le_of_ble_eq_true rfl) ?_
  intro p e s m below meth cd Qz ls hx hb hml hown hts hK hZ hP hS hl hret
  have hA := sgY.self (n := 52) (h := h) (sz := s.heap.size)
  have hl : lv_has ls 1 [(0, .int x0)] := hl
  obtain ⟨H, hH⟩ : ∃ z : Heap, z = s.heap := ⟨_, rfl⟩
  obtain ⟨locs, hlo⟩ : ∃ z : List Loc, z = [] := ⟨_, rfl⟩
  have hP : va_P D vwCl (sgw 52 h (eX ca h) f L Q) H := by rw [hH]; exact hP
  have hS : va_S (sgA 52 h s.heap.size) s.heap H locs := by rw [hH, hlo]; exact hS
  suffices hgo : W p l e ({ frames := 0, cells := 0, slots := 0, locals := 0 }) s m ([.int x0] : List Value).toArray below meth cd H locs 0 0 Qz (F0 m 0 ls []) by rw [hH, hlo] at hgo; exact hgo
  clear hH hlo
  obtain ⟨sp, hsp⟩ : ∃ z : Int32, z = sX11_isSetting x0 f L := ⟨_, rfl⟩
  have hs : sp = sX11_isSetting x0 f L := hsp
  refine lv_iload_n hx hb dX11_isSetting_0 rfl (lv_at hl 0 rfl) ?_
  refine lv_if_lt (tgt := 14) hx hb dX11_isSetting_1 (by decide) (fun c => ?_) (fun c => ?_)
  · skip
    have c_1 : x0.toInt < 0 := (by first | exact (cm_lt1 ti_0 c) | (have z := bn_lt c; have k1 : (0 : Int32).toInt = 0 := ti_0; omega))
    refine lv_iconst (v := 0) hx hb dX11_isSetting_14 ic_0 ?_
    have k99 : (0 : Int32).toInt = 0 := ti_0
    exact hret _ _ _ _ (0) f L Q dX11_isSetting_15 (by decide) hP hS ⟨⟨rfl, rfl, rfl⟩, Or.inr (⟨rfl, by omega⟩), (Eq.trans (Eq.symm (hs.trans (((if_pos c_1).trans rfl)))) hsp)⟩
  · skip
    have c_2 : 0 ≤ x0.toInt := (by first | exact (cm_nlt1 ti_0 c) | (have z := bn_nlt c; have k1 : (0 : Int32).toInt = 0 := ti_0; omega))
    replace hs := hs.trans ((if_neg (Int.not_lt.mpr c_2)).trans rfl)
    refine lv_iload_n hx hb dX11_isSetting_4 rfl (lv_at hl 0 rfl) ?_
    refine lv_bipush (v := 60) hx hb dX11_isSetting_5 bp_60 ?_
    refine lv_icmp_gt (tgt := 14) hx hb dX11_isSetting_7 (by decide) (fun c => ?_) (fun c => ?_)
    · skip
      have c_3 : 60 < x0.toInt := (by first | exact (cm_lt0 ti_60 c) | (have z := bn_lt c; have k1 : (60 : Int32).toInt = 60 := ti_60; omega))
      refine lv_iconst (v := 0) hx hb dX11_isSetting_14 ic_0 ?_
      have k99 : (0 : Int32).toInt = 0 := ti_0
      exact hret _ _ _ _ (0) f L Q dX11_isSetting_15 (by decide) hP hS ⟨⟨rfl, rfl, rfl⟩, Or.inr (⟨rfl, by omega⟩), (Eq.trans (Eq.symm (hs.trans ((if_pos c_3).trans rfl))) hsp)⟩
    · skip
      have c_4 : x0.toInt ≤ 60 := (by first | exact (cm_nlt0 ti_60 c) | (have z := bn_nlt c; have k1 : (60 : Int32).toInt = 60 := ti_60; omega))
      refine lv_iconst (v := 1) hx hb dX11_isSetting_10 ic_1 ?_
      refine lv_goto (tgt := 15) hx hb dX11_isSetting_11 (by decide) ?_
      have k99 : (1 : Int32).toInt = 1 := ti_1
      exact hret _ _ _ _ (1) f L Q dX11_isSetting_15 (by decide) hP hS ⟨⟨rfl, rfl, rfl⟩, Or.inl ⟨rfl, by omega⟩, (Eq.trans (Eq.symm (hs.trans ((if_neg (Int.not_lt.mpr c_4)).trans rfl))) hsp)⟩

set_option maxHeartbeats 4000000 in
set_option maxRecDepth 100000 in
theorem kX11_fits (l : Launch) (D : va_G) (ca : Nat → ClassId) (za h : Nat → Nat) (hh : sgH 52 h) (f : sg_F) (L : sg_L) (Q : sg_Q) (hI : sgI loX hiX f) (x0 : Int32) (x1 : Int32) (sz : Nat) : Met l yX11_fits gwX11_fits { frames := 0, cells := 0, slots := 0, locals := 0 } (sgP D vwCl (tyX ca) 52 h (eX ca h) zcX za f L Q sz [.int x0, .int x1]) (sgQi D vwCl 52 h (eX ca h) sz (fun r f1 L1 Q1 => ((f1 = f ∧ L1 = L ∧ Q1 = Q) ∧ ((r = 1 ∧ (0 ≤ x0.toInt ∧ x0.toInt ≤ 10 ∧ 0 ≤ x1.toInt ∧ x1.toInt ≤ 99 ∧ (x0.toInt ≠ 10 → x1.toInt ≤ 60))) ∨ (r = 0 ∧ (True))) ∧ (r) = sX11_fits x0 x1 f L))) 0 0 (sgA 52 h sz) := by
  refine sg_ofWz (cc := cX11_fits) (maxL := 2) RX11 (by decide) rfl rfl (Nat.le_of_ble_eq_true rfl) ?_
  intro p e s m below meth cd Qz ls hx hb hml hown hts hK hZ hP hS hl hret
  have hA := sgY.self (n := 52) (h := h) (sz := s.heap.size)
  have hl : lv_has ls 2 [(0, .int x0), (1, .int x1)] := hl
  obtain ⟨H, hH⟩ : ∃ z : Heap, z = s.heap := ⟨_, rfl⟩
  obtain ⟨locs, hlo⟩ : ∃ z : List Loc, z = [] := ⟨_, rfl⟩
  have hP : va_P D vwCl (sgw 52 h (eX ca h) f L Q) H := by rw [hH]; exact hP
  have hS : va_S (sgA 52 h s.heap.size) s.heap H locs := by rw [hH, hlo]; exact hS
  suffices hgo : W p l e ({ frames := 0, cells := 0, slots := 0, locals := 0 }) s m ([.int x0, .int x1] : List Value).toArray below meth cd H locs 0 0 Qz (F0 m 0 ls []) by rw [hH, hlo] at hgo; exact hgo
  clear hH hlo
  obtain ⟨sp, hsp⟩ : ∃ z : Int32, z = sX11_fits x0 x1 f L := ⟨_, rfl⟩
  have hs : sp = sX11_fits x0 x1 f L := hsp
  refine lv_iload_n hx hb dX11_fits_0 rfl (lv_at hl 0 rfl) ?_
  refine lv_if_lt (tgt := 34) hx hb dX11_fits_1 (by decide) (fun c => ?_) (fun c => ?_)
  · skip
    have c_1 : x0.toInt < 0 := (by first | exact (cm_lt1 ti_0 c) | (have z := bn_lt c; have k1 : (0 : Int32).toInt = 0 := ti_0; omega))
    refine lv_iconst (v := 0) hx hb dX11_fits_34 ic_0 ?_
    have k99 : (0 : Int32).toInt = 0 := ti_0
    exact hret _ _ _ _ (0) f L Q dX11_fits_35 (by decide) hP hS ⟨⟨rfl, rfl, rfl⟩, Or.inr (⟨rfl, trivial⟩), (Eq.trans (Eq.symm (hs.trans (((if_pos c_1).trans rfl)))) hsp)⟩
  · skip
    have c_2 : 0 ≤ x0.toInt := (by first | exact (cm_nlt1 ti_0 c) | (have z := bn_nlt c; have k1 : (0 : Int32).toInt = 0 := ti_0; omega))
    replace hs := hs.trans ((if_neg (Int.not_lt.mpr c_2)).trans rfl)
    refine lv_iload_n hx hb dX11_fits_4 rfl (lv_at hl 0 rfl) ?_
    refine sg_gets hx hb hZ 1 rfl hS hown (hts _ (List.mem_cons_of_mem _ mw_94)) (fun _ h9 => h9) dX11_fits_5 ?_
    refine sg_slen hx hb hZ 1 rfl hS (v := 11) (by decide) dX11_fits_8 ?_
    refine lv_icmp_ge (tgt := 34) hx hb dX11_fits_9 (by decide) (fun c => ?_) (fun c => ?_)
    · skip
      have c_3 : 11 ≤ x0.toInt := (by first | exact (cm_le0 ti_11 c) | (have z := bn_le c; have k1 : (11 : Int32).toInt = 11 := ti_11; omega))
      refine lv_iconst (v := 0) hx hb dX11_fits_34 ic_0 ?_
      have k99 : (0 : Int32).toInt = 0 := ti_0
      exact hret _ _ _ _ (0) f L Q dX11_fits_35 (by decide) hP hS ⟨⟨rfl, rfl, rfl⟩, Or.inr (⟨rfl, trivial⟩), (Eq.trans (Eq.symm (hs.trans ((if_neg (Int.not_lt.mpr c_3)).trans rfl))) hsp)⟩
    · skip
      have c_4 : x0.toInt < 11 := (by first | exact (cm_nle0 ti_11 c) | (have z := bn_nle c; have k1 : (11 : Int32).toInt = 11 := ti_11; omega))
      refine lv_iload_n hx hb dX11_fits_12 rfl (lv_at hl 1 rfl) ?_
      refine sg_gets hx hb hZ 0 rfl hS hown (hts _ (List.mem_cons_of_mem _ mw_95)) (fun _ h9 => h9) dX11_fits_13 ?_
      refine lv_iload_n hx hb dX11_fits_16 rfl (lv_at hl 0 rfl) ?_
      refine sg_sald hx hb hZ 0 rfl hS (y := x0) (N := 11) (vp_in_iff.mpr ⟨by omega, by omega⟩) dX11_fits_17 ?_
      refine lv_topi (fun v_5 ev_5 => ?_)
      replace hs := hs.trans ((if_pos c_4).trans (spl_e ev_5 rfl))
      have q_6 : 0 ≤ v_5.toInt ∧ v_5.toInt ≤ 1 := by rw [ev_5]; exact zLEAST_b (by omega) (by omega)
      refine lv_icmp_lt (tgt := 34) hx hb dX11_fits_18 (by decide) (fun c => ?_) (fun c => ?_)
      · skip
        have c_7 : x1.toInt < v_5.toInt := (by first | exact (bn_lt c) | (have z := bn_lt c; omega))
        refine lv_iconst (v := 0) hx hb dX11_fits_34 ic_0 ?_
        have k99 : (0 : Int32).toInt = 0 := ti_0
        exact hret _ _ _ _ (0) f L Q dX11_fits_35 (by decide) hP hS ⟨⟨rfl, rfl, rfl⟩, Or.inr (⟨rfl, trivial⟩), (Eq.trans (Eq.symm (hs.trans ((if_pos c_7).trans rfl))) hsp)⟩
      · skip
        have c_8 : v_5.toInt ≤ x1.toInt := (by first | exact (bn_nlt c) | (have z := bn_nlt c; omega))
        refine lv_iload_n hx hb dX11_fits_21 rfl (lv_at hl 1 rfl) ?_
        refine sg_gets hx hb hZ 1 rfl hS hown (hts _ (List.mem_cons_of_mem _ mw_94)) (fun _ h9 => h9) dX11_fits_22 ?_
        refine lv_iload_n hx hb dX11_fits_25 rfl (lv_at hl 0 rfl) ?_
        refine sg_sald hx hb hZ 1 rfl hS (y := x0) (N := 11) (vp_in_iff.mpr ⟨by omega, by omega⟩) dX11_fits_26 ?_
        refine lv_topi (fun v_9 ev_9 => ?_)
        replace hs := hs.trans ((if_neg (Int.not_lt.mpr c_8)).trans (spl_e ev_9 rfl))
        have q_10 : 3 ≤ v_9.toInt ∧ v_9.toInt ≤ 99 ∧ (x0.toInt ≠ 10 → v_9.toInt ≤ 60) := by rw [ev_9]; exact zMOST_b (by omega) (by omega)
        refine lv_icmp_gt (tgt := 34) hx hb dX11_fits_27 (by decide) (fun c => ?_) (fun c => ?_)
        · skip
          have c_11 : v_9.toInt < x1.toInt := (by first | exact (bn_lt c) | (have z := bn_lt c; omega))
          refine lv_iconst (v := 0) hx hb dX11_fits_34 ic_0 ?_
          have k99 : (0 : Int32).toInt = 0 := ti_0
          exact hret _ _ _ _ (0) f L Q dX11_fits_35 (by decide) hP hS ⟨⟨rfl, rfl, rfl⟩, Or.inr (⟨rfl, trivial⟩), (Eq.trans (Eq.symm (hs.trans ((if_pos c_11).trans rfl))) hsp)⟩
        · skip
          have c_12 : x1.toInt ≤ v_9.toInt := (by first | exact (bn_nlt c) | (have z := bn_nlt c; omega))
          refine lv_iconst (v := 1) hx hb dX11_fits_30 ic_1 ?_
          refine lv_goto (tgt := 35) hx hb dX11_fits_31 (by decide) ?_
          have k99 : (1 : Int32).toInt = 1 := ti_1
          exact hret _ _ _ _ (1) f L Q dX11_fits_35 (by decide) hP hS ⟨⟨rfl, rfl, rfl⟩, Or.inl ⟨rfl, by omega⟩, (Eq.trans (Eq.symm (hs.trans ((if_neg (Int.not_lt.mpr c_12)).trans rfl))) hsp)⟩

abbrev WkX0_forget : List (Nat × Nat × Option Nat) := [(9, 9, none)]
set_option maxHeartbeats 4000000 in
set_option maxRecDepth 100000 in
theorem kX0_forget (l : Launch) (D : va_G) (ca : Nat → ClassId) (za h : Nat → Nat) (hh : sgH 52 h) (f : sg_F) (L : sg_L) (Q : sg_Q) (hI : sgI loX hiX f) (x0 : Int32) (b0 : 0 ≤ x0.toInt ∧ x0.toInt ≤ 7) (sz : Nat) : Met l yX0_forget gwX0_forget { frames := 0, cells := 0, slots := 0, locals := 0 } (sgP D vwCl (tyX ca) 52 h (eX ca h) zcX za f L Q sz [.ref (h 1), .int x0]) (sgQv D vwCl 52 h (eX ca h) sz (fun f1 L1 Q1 => ((sgI loX hiX f1 ∧ sgK WkX0_forget f f1 ∧ L1 = L ∧ Q1 = Q) ∧ (f1) = sX0_forget x0 f L))) 0 0 (sgA 52 h sz) := by
  refine sg_ofWv (cc := cX0_forget) (maxL := 4) RX0 (by decide) rfl rfl (Nat.le_of_ble_eq_true rfl) ?_
  intro p e s m below meth cd Qz ls hx hb hml hown hts hK hZ hP hS hl hret
  have hA := sgY.self (n := 52) (h := h) (sz := s.heap.size)
  have hl : lv_has ls 4 [(0, .ref (h 1)), (1, .int x0)] := hl
  obtain ⟨H, hH⟩ : ∃ z : Heap, z = s.heap := ⟨_, rfl⟩
  obtain ⟨locs, hlo⟩ : ∃ z : List Loc, z = [] := ⟨_, rfl⟩
  have hP : va_P D vwCl (sgw 52 h (eX ca h) f L Q) H := by rw [hH]; exact hP
  have hS : va_S (sgA 52 h s.heap.size) s.heap H locs := by rw [hH, hlo]; exact hS
  suffices hgo : W p l e ({ frames := 0, cells := 0, slots := 0, locals := 0 }) s m ([.ref (h 1), .int x0] : List Value).toArray below meth cd H locs 0 0 Qz (F0 m 0 ls []) by rw [hH, hlo] at hgo; exact hgo
  clear hH hlo
  obtain ⟨sp, hsp⟩ : ∃ z : sg_F, z = sX0_forget x0 f L := ⟨_, rfl⟩
  have hs : sp = sX0_forget x0 f L := hsp
  have hF : sgK WkX0_forget f f := sgK.rf
  have loop_14 : ∀ (n_14 : Nat) (y2_14 : Int32) (y3_14 : Int32) (fp_14 : sg_F) (H : Heap) (locs : List Loc) (ls : Array Slot), sp = sX0_forget_l14 x0 n_14 y2_14 y3_14 fp_14 L → 1464 - y3_14.toInt < (n_14 : Int) → 183 ≤ y2_14.toInt ∧ y2_14.toInt ≤ 1464 → 0 ≤ y3_14.toInt ∧ y3_14.toInt ≤ 1464 → sgI loX hiX fp_14 → sgK WkX0_forget f fp_14 → va_P D vwCl (sgw 52 h (eX ca h) fp_14 L Q) H → va_S (sgA 52 h s.heap.size) s.heap H locs → lv_has ls 4 [(0, .ref (h 1)), (2, .int y2_14), (3, .int y3_14)] → W p l e ({ frames := 0, cells := 0, slots := 0, locals := 0 }) s m ([.ref (h 1), .int x0] : List Value).toArray below meth cd H locs 0 0 Qz (F0 m 14 ls []) := by
    intro n_14
    induction n_14 with
    | zero => intro y2_14 y3_14 fp_14 H locs ls hs hm_14 hy0_14 hy1_14 hI hF hP hS hl; exact absurd hm_14 (by omega)
    | succ n_14 ih_14 =>
      intro y2_14 y3_14 fp_14 H locs ls hs hm_14 hy0_14 hy1_14 hI hF hP hS hl
      have hs : sp = sX0_forget_h14 x0 (sX0_forget_l14 x0 n_14) y2_14 y3_14 fp_14 L := hs
      refine lv_iload_n hx hb dX0_forget_14 rfl (lv_at hl 2 rfl) ?_
      refine lv_iload_n hx hb dX0_forget_15 rfl (lv_at hl 1 rfl) ?_
      refine lv_icmp_ge (tgt := 32) hx hb dX0_forget_16 (by decide) (fun c => ?_) (fun c => ?_)
      · skip
        have c_1 : y2_14.toInt ≤ y3_14.toInt := (by first | exact (bn_le c) | (have z := bn_le c; omega))
        exact hret _ _ _ _ fp_14 L Q dX0_forget_32 hP hS ⟨⟨hI, hF, rfl, rfl⟩, (Eq.trans (Eq.symm (hs.trans (((if_neg (Int.not_lt.mpr c_1)).trans rfl)))) hsp)⟩
      · skip
        have c_2 : y3_14.toInt < y2_14.toInt := (by first | exact (bn_nle c) | (have z := bn_nle c; omega))
        refine lv_aload_n hx hb dX0_forget_19 rfl (lv_at hl 0 rfl) ?_
        refine sl_gX_1_4_0 hx hb hts hown hK hP dX0_forget_20 ?_
        refine lv_iload_n hx hb dX0_forget_23 rfl (lv_at hl 2 rfl) ?_
        refine lv_iconst (v := (-1)) hx hb dX0_forget_24 ic_m1 ?_
        refine sg_iast hx hb hh hA hK hP hS 9 (by decide) 0 (fun _ => rfl) rfl (i := y3_14) (x := (-1)) (vp_in_iff.mpr ⟨by omega, by omega⟩) dX0_forget_25 (fun f_3 H locs ef_3 hP hS => ?_)
        have hI : sgI loX hiX f_3 := by rw [ef_3]; exact sgI.put hI 9 y3_14.toNatClampNeg (show (-1) ≤ ((-1) : Int32).toInt ∧ ((-1) : Int32).toInt ≤ 10000 from by decide)
        have hF : sgK WkX0_forget f f_3 := sgK.put hF ef_3 (by rfl)
        obtain ⟨v_4, ev_4⟩ : ∃ z : Int32, z = y3_14 + 1 := ⟨_, rfl⟩
        have q_5 : v_4.toInt = y3_14.toInt + 1 := by rw [ev_4]; exact (bn_addc y3_14 1 (by decide) (by omega) (by omega))
        refine lv_iinc (v := v_4) (lv' := [(3, .int v_4), (0, .ref (h 1)), (2, .int y2_14)]) hx hb dX0_forget_26 hl (k := 2) rfl (by rw [ev_4]; rfl) (by decide) rfl (fun ls hl => ?_)
        refine lv_goto (tgt := 14) hx hb dX0_forget_29 (by decide) ?_
        exact ih_14 y2_14 v_4 f_3 _ _ _ (hs.trans (((if_pos c_2).trans (spl_e ef_3 (spl_e ev_4 rfl))))) (by omega) hy0_14 ⟨by omega, by omega⟩ hI hF hP hS (lv_sub hl [1, 2, 0] rfl)
  refine lv_iload_n hx hb dX0_forget_0 rfl (lv_at hl 1 rfl) ?_
  refine lv_iconst (v := 1) hx hb dX0_forget_1 ic_1 ?_
  refine lv_iadd hx hb dX0_forget_2 ?_
  refine lv_topi (fun v_6 ev_6 => ?_)
  have q_7 : v_6.toInt = x0.toInt + 1 := by rw [ev_6]; first | exact cm_add ti_1 (by omega) (by omega) | (have k1 : (1 : Int32).toInt = 1 := ti_1; exact (bn_addI (by omega) (by omega)).trans (by omega))
  refine lv_sipush (v := 183) hx hb dX0_forget_3 (by decide) ?_
  refine lv_imul hx hb dX0_forget_6 ?_
  refine lv_topi (fun v_8 ev_8 => ?_)
  have q_9 : v_8.toInt = v_6.toInt * 183 := by rw [ev_8]; exact bn_mulI (by decide) (by omega) (by omega)
  refine lv_istore_n (lv' := [(2, .int v_8), (0, .ref (h 1)), (1, .int x0)]) hx hb dX0_forget_7 rfl hl (by decide) rfl (fun ls hl => ?_)
  refine lv_iload_n hx hb dX0_forget_8 rfl (lv_at hl 2 rfl) ?_
  refine lv_sipush (v := 183) hx hb dX0_forget_9 (by decide) ?_
  refine lv_imul hx hb dX0_forget_12 ?_
  refine lv_topi (fun v_10 ev_10 => ?_)
  have q_11 : v_10.toInt = x0.toInt * 183 := by rw [ev_10]; exact bn_mulI (by decide) (by omega) (by omega)
  refine lv_istore_n (lv' := [(3, .int v_10), (2, .int v_8), (0, .ref (h 1)), (1, .int x0)]) hx hb dX0_forget_13 rfl hl (by decide) rfl (fun ls hl => ?_)
  exact loop_14 1465 v_8 v_10 f _ _ _ (hs.trans ((spl_e ev_6 (spl_e ev_8 (spl_e ev_10 rfl))))) (by omega) ⟨by omega, by omega⟩ ⟨by omega, by omega⟩ hI hF hP hS (lv_sub hl [2, 1, 0] rfl)

abbrev WkX0_comes : List (Nat × Nat × Option Nat) := [(1, 1, some 3), (2, 2, none), (9, 9, none)]
set_option maxHeartbeats 4000000 in
set_option maxRecDepth 100000 in
theorem kX0_comes (l : Launch) (D : va_G) (ca : Nat → ClassId) (za h : Nat → Nat) (hh : sgH 52 h) (f : sg_F) (L : sg_L) (Q : sg_Q) (hI : sgI loX hiX f) (x0 : Int32) (x1 : Int32) (x2 : Int32) (x3 : Int32) (b0 : 0 ≤ x0.toInt ∧ x0.toInt ≤ 60) (b1 : 0 ≤ x1.toInt ∧ x1.toInt ≤ 60) (b2 : 0 ≤ x2.toInt ∧ x2.toInt ≤ 60) (b3 : 0 ≤ x3.toInt ∧ x3.toInt ≤ 60) (sz : Nat) : Met l yX0_comes gwX0_comes { frames := 1, cells := 0, slots := 0, locals := 23 } (sgP D vwCl (tyX ca) 52 h (eX ca h) zcX za f L Q sz [.ref (h 1), .int x0, .int x1, .int x2, .int x3]) (sgQi D vwCl 52 h (eX ca h) sz (fun r f1 L1 Q1 => ((sgI loX hiX f1 ∧ sgK WkX0_comes f f1 ∧ L1 = L ∧ Q1 = Q) ∧ ((-3) ≤ r.toInt ∧ r.toInt ≤ 7) ∧ (r, f1) = sX0_comes x0 x1 x2 x3 f L))) 0 0 (sgA 52 h sz) := by
  refine sg_ofWi (cc := cX0_comes) (maxL := 6) RX0 (by decide) rfl rfl (Nat.le_of_ble_eq_true rfl) ?_
  intro p e s m below meth cd Qz ls hx hb hml hown hts hK hZ hP hS hl hret
  have hA := sgY.self (n := 52) (h := h) (sz := s.heap.size)
  have hl : lv_has ls 6 [(0, .ref (h 1)), (1, .int x0), (2, .int x1), (3, .int x2), (4, .int x3)] := hl
  obtain ⟨H, hH⟩ : ∃ z : Heap, z = s.heap := ⟨_, rfl⟩
  obtain ⟨locs, hlo⟩ : ∃ z : List Loc, z = [] := ⟨_, rfl⟩
  have hP : va_P D vwCl (sgw 52 h (eX ca h) f L Q) H := by rw [hH]; exact hP
  have hS : va_S (sgA 52 h s.heap.size) s.heap H locs := by rw [hH, hlo]; exact hS
  suffices hgo : W p l e ({ frames := 1, cells := 0, slots := 0, locals := 23 }) s m ([.ref (h 1), .int x0, .int x1, .int x2, .int x3] : List Value).toArray below meth cd H locs 0 0 Qz (F0 m 0 ls []) by rw [hH, hlo] at hgo; exact hgo
  clear hH hlo
  obtain ⟨sp, hsp⟩ : ∃ z : Int32 × sg_F, z = sX0_comes x0 x1 x2 x3 f L := ⟨_, rfl⟩
  have hs : sp = sX0_comes x0 x1 x2 x3 f L := hsp
  have hF : sgK WkX0_comes f f := sgK.rf
  refine lv_aload_n hx hb dX0_comes_0 rfl (lv_at hl 0 rfl) ?_
  refine sl_gX_1_3_0 (v := (f 1 3)) hx hb hts hown hK hP rfl dX0_comes_1 ?_
  refine lv_topi (fun v_1 ev_1 => ?_)
  replace hs := hs.trans (spl_e ev_1 rfl)
  have q_2 : 0 ≤ v_1.toInt ∧ v_1.toInt ≤ 8 := by rw [ev_1]; exact hI 1 3
  refine lv_bipush (v := 8) hx hb dX0_comes_4 bp_8 ?_
  refine lv_icmp_lt (tgt := 12) hx hb dX0_comes_6 (by decide) (fun c => ?_) (fun c => ?_)
  · skip
    have c_3 : v_1.toInt < 8 := (by first | exact (cm_lt1 ti_8 c) | (have z := bn_lt c; have k1 : (8 : Int32).toInt = 8 := ti_8; omega))
    refine lv_aload_n hx hb dX0_comes_12 rfl (lv_at hl 0 rfl) ?_
    refine sl_gX_1_3_0 (v := v_1) hx hb hts hown hK hP (show f 1 3 = v_1 from ev_1.symm) dX0_comes_13 ?_
    refine lv_bipush (v := 8) hx hb dX0_comes_16 bp_8 ?_
    refine lv_imul hx hb dX0_comes_18 ?_
    refine lv_topi (fun v_5 ev_5 => ?_)
    have q_6 : v_5.toInt = v_1.toInt * 8 := by rw [ev_5]; exact bn_mulI (by decide) (by omega) (by omega)
    refine lv_istore (lv' := [(5, .int v_5), (0, .ref (h 1)), (1, .int x0), (2, .int x1), (3, .int x2), (4, .int x3)]) hx hb dX0_comes_19 hl (by decide) rfl (fun ls hl => ?_)
    refine lv_aload_n hx hb dX0_comes_21 rfl (lv_at hl 1 rfl) ?_
    refine sl_gX_1_0_0 hx hb hts hown hK hP dX0_comes_22 ?_
    refine lv_iload hx hb dX0_comes_25 (lv_at hl 0 rfl) ?_
    refine lv_iload_n hx hb dX0_comes_27 rfl (lv_at hl 2 rfl) ?_
    refine sg_iast hx hb hh hA hK hP hS 2 (by decide) 0 (fun _ => rfl) rfl (i := v_5) (x := x0) (vp_in_iff.mpr ⟨by omega, by omega⟩) dX0_comes_28 (fun f_7 H locs ef_7 hP hS => ?_)
    have hI : sgI loX hiX f_7 := by rw [ef_7]; exact sgI.put hI 2 v_5.toNatClampNeg (segX2_w x0 (by have z := bn_clI (x := v_5) (by omega); omega))
    have hF : sgK WkX0_comes f f_7 := sgK.put hF ef_7 (by rfl)
    refine lv_aload_n hx hb dX0_comes_29 rfl (lv_at hl 1 rfl) ?_
    refine sl_gX_1_0_0 hx hb hts hown hK hP dX0_comes_30 ?_
    refine lv_iload hx hb dX0_comes_33 (lv_at hl 0 rfl) ?_
    refine lv_iconst (v := 1) hx hb dX0_comes_35 ic_1 ?_
    refine lv_iadd hx hb dX0_comes_36 ?_
    refine lv_topi (fun v_8 ev_8 => ?_)
    have q_9 : v_8.toInt = v_5.toInt + 1 := by rw [ev_8]; first | exact cm_add ti_1 (by omega) (by omega) | (have k1 : (1 : Int32).toInt = 1 := ti_1; exact (bn_addI (by omega) (by omega)).trans (by omega))
    refine lv_iload_n hx hb dX0_comes_37 rfl (lv_at hl 3 rfl) ?_
    refine sg_iast hx hb hh hA hK hP hS 2 (by decide) 0 (fun _ => rfl) rfl (i := v_8) (x := x1) (vp_in_iff.mpr ⟨by omega, by omega⟩) dX0_comes_38 (fun f_10 H locs ef_10 hP hS => ?_)
    have hI : sgI loX hiX f_10 := by rw [ef_10]; exact sgI.put hI 2 v_8.toNatClampNeg (segX2_w x1 (by have z := bn_clI (x := v_8) (by omega); omega))
    have hF : sgK WkX0_comes f f_10 := sgK.put hF ef_10 (by rfl)
    refine lv_aload_n hx hb dX0_comes_39 rfl (lv_at hl 1 rfl) ?_
    refine sl_gX_1_0_0 hx hb hts hown hK hP dX0_comes_40 ?_
    refine lv_iload hx hb dX0_comes_43 (lv_at hl 0 rfl) ?_
    refine lv_iconst (v := 2) hx hb dX0_comes_45 ic_2 ?_
    refine lv_iadd hx hb dX0_comes_46 ?_
    refine lv_topi (fun v_11 ev_11 => ?_)
    have q_12 : v_11.toInt = v_5.toInt + 2 := by rw [ev_11]; first | exact cm_add ti_2 (by omega) (by omega) | (have k1 : (2 : Int32).toInt = 2 := ti_2; exact (bn_addI (by omega) (by omega)).trans (by omega))
    refine lv_iload_n hx hb dX0_comes_47 rfl (lv_at hl 4 rfl) ?_
    refine sg_iast hx hb hh hA hK hP hS 2 (by decide) 0 (fun _ => rfl) rfl (i := v_11) (x := x2) (vp_in_iff.mpr ⟨by omega, by omega⟩) dX0_comes_48 (fun f_13 H locs ef_13 hP hS => ?_)
    have hI : sgI loX hiX f_13 := by rw [ef_13]; exact sgI.put hI 2 v_11.toNatClampNeg (segX2_w x2 (by have z := bn_clI (x := v_11) (by omega); omega))
    have hF : sgK WkX0_comes f f_13 := sgK.put hF ef_13 (by rfl)
    refine lv_aload_n hx hb dX0_comes_49 rfl (lv_at hl 1 rfl) ?_
    refine sl_gX_1_0_0 hx hb hts hown hK hP dX0_comes_50 ?_
    refine lv_iload hx hb dX0_comes_53 (lv_at hl 0 rfl) ?_
    refine lv_iconst (v := 3) hx hb dX0_comes_55 ic_3 ?_
    refine lv_iadd hx hb dX0_comes_56 ?_
    refine lv_topi (fun v_14 ev_14 => ?_)
    have q_15 : v_14.toInt = v_5.toInt + 3 := by rw [ev_14]; first | exact cm_add ti_3 (by omega) (by omega) | (have k1 : (3 : Int32).toInt = 3 := ti_3; exact (bn_addI (by omega) (by omega)).trans (by omega))
    refine lv_iconst (v := 1) hx hb dX0_comes_57 ic_1 ?_
    refine sg_iast hx hb hh hA hK hP hS 2 (by decide) 0 (fun _ => rfl) rfl (i := v_14) (x := 1) (vp_in_iff.mpr ⟨by omega, by omega⟩) dX0_comes_58 (fun f_16 H locs ef_16 hP hS => ?_)
    have hI : sgI loX hiX f_16 := by rw [ef_16]; exact sgI.put hI 2 v_14.toNatClampNeg (segX2_w 1 (by have z := bn_clI (x := v_14) (by omega); have k0 : (1 : Int32).toInt = 1 := ti_1; omega))
    have hF : sgK WkX0_comes f f_16 := sgK.put hF ef_16 (by rfl)
    refine lv_aload_n hx hb dX0_comes_59 rfl (lv_at hl 1 rfl) ?_
    refine sl_gX_1_0_0 hx hb hts hown hK hP dX0_comes_60 ?_
    refine lv_iload hx hb dX0_comes_63 (lv_at hl 0 rfl) ?_
    refine lv_iconst (v := 4) hx hb dX0_comes_65 ic_4 ?_
    refine lv_iadd hx hb dX0_comes_66 ?_
    refine lv_topi (fun v_17 ev_17 => ?_)
    have q_18 : v_17.toInt = v_5.toInt + 4 := by rw [ev_17]; first | exact cm_add ti_4 (by omega) (by omega) | (have k1 : (4 : Int32).toInt = 4 := ti_4; exact (bn_addI (by omega) (by omega)).trans (by omega))
    refine lv_iconst (v := 1) hx hb dX0_comes_67 ic_1 ?_
    refine sg_iast hx hb hh hA hK hP hS 2 (by decide) 0 (fun _ => rfl) rfl (i := v_17) (x := 1) (vp_in_iff.mpr ⟨by omega, by omega⟩) dX0_comes_68 (fun f_19 H locs ef_19 hP hS => ?_)
    have hI : sgI loX hiX f_19 := by rw [ef_19]; exact sgI.put hI 2 v_17.toNatClampNeg (segX2_w 1 (by have z := bn_clI (x := v_17) (by omega); have k0 : (1 : Int32).toInt = 1 := ti_1; omega))
    have hF : sgK WkX0_comes f f_19 := sgK.put hF ef_19 (by rfl)
    refine lv_aload_n hx hb dX0_comes_69 rfl (lv_at hl 1 rfl) ?_
    refine sl_gX_1_0_0 hx hb hts hown hK hP dX0_comes_70 ?_
    refine lv_iload hx hb dX0_comes_73 (lv_at hl 0 rfl) ?_
    refine lv_iconst (v := 5) hx hb dX0_comes_75 ic_5 ?_
    refine lv_iadd hx hb dX0_comes_76 ?_
    refine lv_topi (fun v_20 ev_20 => ?_)
    have q_21 : v_20.toInt = v_5.toInt + 5 := by rw [ev_20]; first | exact cm_add ti_5 (by omega) (by omega) | (have k1 : (5 : Int32).toInt = 5 := ti_5; exact (bn_addI (by omega) (by omega)).trans (by omega))
    refine lv_iload hx hb dX0_comes_77 (lv_at hl 5 rfl) ?_
    refine sg_iast hx hb hh hA hK hP hS 2 (by decide) 0 (fun _ => rfl) rfl (i := v_20) (x := x3) (vp_in_iff.mpr ⟨by omega, by omega⟩) dX0_comes_79 (fun f_22 H locs ef_22 hP hS => ?_)
    have hI : sgI loX hiX f_22 := by rw [ef_22]; exact sgI.put hI 2 v_20.toNatClampNeg (segX2_w x3 (by have z := bn_clI (x := v_20) (by omega); omega))
    have hF : sgK WkX0_comes f f_22 := sgK.put hF ef_22 (by rfl)
    refine lv_aload_n hx hb dX0_comes_80 rfl (lv_at hl 1 rfl) ?_
    refine lv_aload_n hx hb dX0_comes_81 rfl (lv_at hl 1 rfl) ?_
    refine sl_gX_1_3_0 (v := v_1) hx hb hts hown hK hP (show f_22 1 3 = v_1 from (by rw [ef_22, sg_up_n (by decide)]; exact (by rw [ef_19, sg_up_n (by decide)]; exact (by rw [ef_16, sg_up_n (by decide)]; exact (by rw [ef_13, sg_up_n (by decide)]; exact (by rw [ef_10, sg_up_n (by decide)]; exact (by rw [ef_7, sg_up_n (by decide)]; exact ev_1.symm))))))) dX0_comes_82 ?_
    refine sg_callv (va_runV (As := [.int v_1]) (rest := []) ⟨hx, hb, hml, hown, hts⟩ (kX0_forget l D ca za h hh f_22 L Q hI v_1 ⟨by omega, by omega⟩ H.size) (sl_c0_forget_0_0_0_0_0 hts ⟨Nat.le_of_ble_eq_true rfl, Nat.le_of_ble_eq_true rfl⟩) (sl_vX_1 hA hK hP hS hZ) rfl rfl hl.1 rfl (lv_room (Nat.le_of_ble_eq_true rfl)) dX0_comes_85 ⟨Nat.le_refl _, Nat.le_refl _⟩) hA hS (fun f_23 L_24 Q_25 H locs hq hP hS => ?_)
    obtain ⟨⟨hI, hk_f_23, eL9, eQ9⟩, u_26⟩ := hq
    rw [eL9, eQ9] at hP; clear eL9 eQ9
    have hF : sgK WkX0_comes f f_23 := sgK.tr hF hk_f_23 (by decide +kernel)
    refine lv_aload_n hx hb dX0_comes_88 rfl (lv_at hl 1 rfl) ?_
    refine lv_dup hx hb dX0_comes_89 rfl ?_
    refine sl_gX_1_3_0 (v := v_1) hx hb hts hown hK hP (show f_23 1 3 = v_1 from ((hk_f_23 1 3 (by decide)).trans (by rw [ef_22, sg_up_n (by decide)]; exact (by rw [ef_19, sg_up_n (by decide)]; exact (by rw [ef_16, sg_up_n (by decide)]; exact (by rw [ef_13, sg_up_n (by decide)]; exact (by rw [ef_10, sg_up_n (by decide)]; exact (by rw [ef_7, sg_up_n (by decide)]; exact ev_1.symm)))))))) dX0_comes_90 ?_
    refine lv_iconst (v := 1) hx hb dX0_comes_93 ic_1 ?_
    refine lv_iadd hx hb dX0_comes_94 ?_
    refine lv_topi (fun v_27 ev_27 => ?_)
    have q_28 : v_27.toInt = v_1.toInt + 1 := by rw [ev_27]; first | exact cm_add ti_1 (by omega) (by omega) | (have k1 : (1 : Int32).toInt = 1 := ti_1; exact (bn_addI (by omega) (by omega)).trans (by omega))
    refine sl_pX_1_3_0 (x := v_27) hx hb hts hown hh hA hK hP hS dX0_comes_95 (fun f_29 H locs ef_29 hP hS => ?_)
    have hI : sgI loX hiX f_29 := by rw [ef_29]; exact sgI.put hI 1 3 (show 0 ≤ (v_27 : Int32).toInt ∧ (v_27 : Int32).toInt ≤ 8 from ⟨by omega, by omega⟩)
    have hF : sgK WkX0_comes f f_29 := sgK.put hF ef_29 (by rfl)
    refine lv_aload_n hx hb dX0_comes_98 rfl (lv_at hl 1 rfl) ?_
    refine sl_gX_1_3_0 (v := v_27) hx hb hts hown hK hP (show f_29 1 3 = v_27 from (by rw [ef_29, sg_up_s, sgu_s])) dX0_comes_99 ?_
    refine lv_iconst (v := 1) hx hb dX0_comes_102 ic_1 ?_
    refine lv_isub hx hb dX0_comes_103 ?_
    refine lv_topi (fun v_30 ev_30 => ?_)
    have q_31 : v_30.toInt = v_27.toInt - 1 := by rw [ev_30]; first | exact cm_sub ti_1 (by omega) (by omega) | (have k1 : (1 : Int32).toInt = 1 := ti_1; exact (bn_subI (by omega) (by omega)).trans (by omega))
    exact hret _ _ _ _ (v_30) f_29 L Q dX0_comes_104 hP hS ⟨⟨hI, hF, rfl, rfl⟩, ⟨by omega, by omega⟩, (Eq.trans (Eq.symm (hs.trans ((if_pos c_3).trans (spl_e ev_5 (spl_e ef_7 (spl_e ev_8 (spl_e ef_10 (spl_e ev_11 (spl_e ef_13 (spl_e ev_14 (spl_e ef_16 (spl_e ev_17 (spl_e ef_19 (spl_e ev_20 (spl_e ef_22 (spl_e u_26 (spl_e ev_27 (spl_e ef_29 (spl_e ev_30 rfl))))))))))))))))))) hsp)⟩
  · skip
    have c_4 : 8 ≤ v_1.toInt := (by first | exact (cm_nlt1 ti_8 c) | (have z := bn_nlt c; have k1 : (8 : Int32).toInt = 8 := ti_8; omega))
    refine lv_bipush (v := (-3)) hx hb dX0_comes_9 bp_m3 ?_
    have k99 : ((-3) : Int32).toInt = (-3) := ti_m3
    exact hret _ _ _ _ (-3) f L Q dX0_comes_11 hP hS ⟨⟨hI, hF, rfl, rfl⟩, (by decide), (Eq.trans (Eq.symm (hs.trans ((if_neg (Int.not_lt.mpr c_4)).trans rfl))) hsp)⟩

abbrev WkX11_sitter : List (Nat × Nat × Option Nat) := [(1, 1, some 3), (2, 2, none), (9, 9, none)]
set_option maxHeartbeats 4000000 in
set_option maxRecDepth 100000 in
theorem kX11_sitter (l : Launch) (D : va_G) (ca : Nat → ClassId) (za h : Nat → Nat) (hh : sgH 52 h) (f : sg_F) (L : sg_L) (Q : sg_Q) (hI : sgI loX hiX f) (x0 : Int32) (x1 : Int32) (sz : Nat) : Met l yX11_sitter gwX11_sitter { frames := 2, cells := 0, slots := 0, locals := 48 } (sgP D vwCl (tyX ca) 52 h (eX ca h) zcX za f L Q sz [.ref (h 0), .int x0, .int x1]) (sgQi D vwCl 52 h (eX ca h) sz (fun r f1 L1 Q1 => ((sgI loX hiX f1 ∧ sgK WkX11_sitter f f1 ∧ L1 = L ∧ Q1 = Q) ∧ ((-3) ≤ r.toInt ∧ r.toInt ≤ 7) ∧ (r, f1) = sX11_sitter x0 x1 f L))) 0 0 (sgA 52 h sz) := by
  refine sg_ofWi (cc := cX11_sitter) (maxL := 3) RX11 (by decide) rfl rfl (Nat.le_of_ble_eq_true rfl) ?_
  intro p e s m below meth cd Qz ls hx hb hml hown hts hK hZ hP hS hl hret
  have hA := sgY.self (n := 52) (h := h) (sz := s.heap.size)
  have hl : lv_has ls 3 [(0, .ref (h 0)), (1, .int x0), (2, .int x1)] := hl
  obtain ⟨H, hH⟩ : ∃ z : Heap, z = s.heap := ⟨_, rfl⟩
  obtain ⟨locs, hlo⟩ : ∃ z : List Loc, z = [] := ⟨_, rfl⟩
  have hP : va_P D vwCl (sgw 52 h (eX ca h) f L Q) H := by rw [hH]; exact hP
  have hS : va_S (sgA 52 h s.heap.size) s.heap H locs := by rw [hH, hlo]; exact hS
  suffices hgo : W p l e ({ frames := 2, cells := 0, slots := 0, locals := 48 }) s m ([.ref (h 0), .int x0, .int x1] : List Value).toArray below meth cd H locs 0 0 Qz (F0 m 0 ls []) by rw [hH, hlo] at hgo; exact hgo
  clear hH hlo
  obtain ⟨sp, hsp⟩ : ∃ z : Int32 × sg_F, z = sX11_sitter x0 x1 f L := ⟨_, rfl⟩
  have hs : sp = sX11_sitter x0 x1 f L := hsp
  have hF : sgK WkX11_sitter f f := sgK.rf
  refine lv_iload_n hx hb dX11_sitter_0 rfl (lv_at hl 1 rfl) ?_
  refine sg_calli (va_runS (As := [.int x0]) (rest := []) ⟨hx, hb, hml, hown, hts⟩ (kX11_isSetting l D ca za h hh f L Q hI x0 H.size) (va_cwS 1 hts (gw_S (fun _ h => List.mem_cons_of_mem _ h) mw_61 mw_62 mw_37 mw_60) rfl rfl rfl hd_yX11_isSetting.2 ⟨Nat.le_of_ble_eq_true rfl, Nat.le_of_ble_eq_true rfl⟩) (sg_preS hA hK hP hS hZ) rfl rfl hl.1 rfl (lv_room (Nat.le_of_ble_eq_true rfl)) dX11_sitter_1 ⟨Nat.le_refl _, Nat.le_refl _⟩) hA hS (fun r_4 f_1 L_2 Q_3 H locs hq hP hS => ?_)
  obtain ⟨⟨ef9, eL9, eQ9⟩, hq, u_5⟩ := hq
  replace hs := hs.trans (spl_e u_5 rfl)
  rw [ef9, eL9, eQ9] at hP; clear ef9 eL9 eQ9
  rcases hq with ⟨rfl, hq⟩ | ⟨rfl, hq⟩
  · skip
    have hc_6 := hq
    refine lv_if_eq (tgt := 15) hx hb dX11_sitter_4 (by decide) (fun c => absurd c (by decide)) (fun c => ?_)
    refine lv_iconst (v := 5) hx hb dX11_sitter_7 ic_5 ?_
    refine lv_iload_n hx hb dX11_sitter_8 rfl (lv_at hl 2 rfl) ?_
    refine sg_calli (va_runS (As := [.int 5, .int x1]) (rest := []) ⟨hx, hb, hml, hown, hts⟩ (kX11_fits l D ca za h hh f L Q hI 5 x1 H.size) (va_cwS 2 hts (gw_S (fun _ h => List.mem_cons_of_mem _ h) mw_149 mw_150 mw_37 mw_148) rfl rfl rfl hd_yX11_fits.2 ⟨Nat.le_of_ble_eq_true rfl, Nat.le_of_ble_eq_true rfl⟩) (sg_preS hA hK hP hS hZ) rfl rfl hl.1 rfl (lv_room (Nat.le_of_ble_eq_true rfl)) dX11_sitter_9 ⟨Nat.le_refl _, Nat.le_refl _⟩) hA hS (fun r_10 f_7 L_8 Q_9 H locs hq hP hS => ?_)
    obtain ⟨⟨ef9, eL9, eQ9⟩, hq, u_11⟩ := hq
    replace hs := hs.trans ((if_pos rfl).trans (spl_e u_11 rfl))
    rw [ef9, eL9, eQ9] at hP; clear ef9 eL9 eQ9
    have k_12 : (5 : Int32).toInt = 5 := by decide
    rcases hq with ⟨rfl, hq⟩ | ⟨rfl, hq⟩
    · skip
      have hc_13 := hq
      refine lv_if_ne (tgt := 17) hx hb dX11_sitter_12 (by decide) (fun c => ?_) (fun c => absurd c (by decide))
      refine lv_aload_n hx hb dX11_sitter_17 rfl (lv_at hl 0 rfl) ?_
      refine sl_gX_0_0_11 hx hb hts hown hK hP dX11_sitter_18 ?_
      refine lv_iload_n hx hb dX11_sitter_21 rfl (lv_at hl 1 rfl) ?_
      refine lv_iload_n hx hb dX11_sitter_22 rfl (lv_at hl 1 rfl) ?_
      refine lv_iload_n hx hb dX11_sitter_23 rfl (lv_at hl 1 rfl) ?_
      refine lv_iload_n hx hb dX11_sitter_24 rfl (lv_at hl 2 rfl) ?_
      refine sg_calli (va_runV (As := [.int x0, .int x0, .int x0, .int x1]) (rest := []) ⟨hx, hb, hml, hown, hts⟩ (kX0_comes l D ca za h hh f L Q hI x0 x0 x0 x1 ⟨by omega, by omega⟩ ⟨by omega, by omega⟩ ⟨by omega, by omega⟩ ⟨by omega, by omega⟩ H.size) (sl_c0_comes_1_0_0_23_11 hts ⟨Nat.le_of_ble_eq_true rfl, Nat.le_of_ble_eq_true rfl⟩) (sl_vX_1 hA hK hP hS hZ) rfl rfl hl.1 rfl (lv_room (Nat.le_of_ble_eq_true rfl)) dX11_sitter_25 ⟨Nat.le_refl _, Nat.le_refl _⟩) hA hS (fun r_17 f_14 L_15 Q_16 H locs hq hP hS => ?_)
      obtain ⟨⟨hI, hk_f_14, eL9, eQ9⟩, hq, u_18⟩ := hq
      rw [eL9, eQ9] at hP; clear eL9 eQ9
      have hF : sgK WkX11_sitter f f_14 := sgK.tr hF hk_f_14 (by decide +kernel)
      exact hret _ _ _ _ (r_17) f_14 L Q dX11_sitter_28 hP hS ⟨⟨hI, hF, rfl, rfl⟩, ⟨by omega, by omega⟩, (Eq.trans (Eq.symm (hs.trans ((if_pos rfl).trans (spl2_e u_18 rfl)))) hsp)⟩
    · skip
      have hc_13 := hq
      refine lv_if_ne (tgt := 17) hx hb dX11_sitter_12 (by decide) (fun c => absurd c (by decide)) (fun c => ?_)
      refine lv_iconst (v := (-1)) hx hb dX11_sitter_15 ic_m1 ?_
      have k99 : ((-1) : Int32).toInt = (-1) := ti_m1
      exact hret _ _ _ _ (-1) f L Q dX11_sitter_16 hP hS ⟨⟨hI, hF, rfl, rfl⟩, (by decide), (Eq.trans (Eq.symm (hs.trans ((if_neg (by decide)).trans rfl))) hsp)⟩
  · skip
    have hc_6 := hq
    refine lv_if_eq (tgt := 15) hx hb dX11_sitter_4 (by decide) (fun c => ?_) (fun c => absurd c (by decide))
    refine lv_iconst (v := (-1)) hx hb dX11_sitter_15 ic_m1 ?_
    have k99 : ((-1) : Int32).toInt = (-1) := ti_m1
    exact hret _ _ _ _ (-1) f L Q dX11_sitter_16 hP hS ⟨⟨hI, hF, rfl, rfl⟩, (by decide), (Eq.trans (Eq.symm (hs.trans ((if_neg (by decide)).trans rfl))) hsp)⟩

set_option maxHeartbeats 4000000 in
set_option maxRecDepth 100000 in
theorem kX11_isShelf (l : Launch) (D : va_G) (ca : Nat → ClassId) (za h : Nat → Nat) (hh : sgH 52 h) (f : sg_F) (L : sg_L) (Q : sg_Q) (hI : sgI loX hiX f) (x0 : Int32) (sz : Nat) : Met l yX11_isShelf gwX11_isShelf { frames := 0, cells := 0, slots := 0, locals := 0 } (sgP D vwCl (tyX ca) 52 h (eX ca h) zcX za f L Q sz [.int x0]) (sgQi D vwCl 52 h (eX ca h) sz (fun r f1 L1 Q1 => ((f1 = f ∧ L1 = L ∧ Q1 = Q) ∧ ((r = 1 ∧ (0 ≤ x0.toInt ∧ x0.toInt ≤ 5)) ∨ (r = 0 ∧ (¬ (0 ≤ x0.toInt ∧ x0.toInt ≤ 5)))) ∧ (r) = sX11_isShelf x0 f L))) 0 0 (sgA 52 h sz) := by
  refine sg_ofWz (cc := cX11_isShelf) (maxL := 1) RX11 (by decide) rfl rfl (Nat.le_of_ble_eq_true rfl) ?_
  intro p e s m below meth cd Qz ls hx hb hml hown hts hK hZ hP hS hl hret
  have hA := sgY.self (n := 52) (h := h) (sz := s.heap.size)
  have hl : lv_has ls 1 [(0, .int x0)] := hl
  obtain ⟨H, hH⟩ : ∃ z : Heap, z = s.heap := ⟨_, rfl⟩
  obtain ⟨locs, hlo⟩ : ∃ z : List Loc, z = [] := ⟨_, rfl⟩
  have hP : va_P D vwCl (sgw 52 h (eX ca h) f L Q) H := by rw [hH]; exact hP
  have hS : va_S (sgA 52 h s.heap.size) s.heap H locs := by rw [hH, hlo]; exact hS
  suffices hgo : W p l e ({ frames := 0, cells := 0, slots := 0, locals := 0 }) s m ([.int x0] : List Value).toArray below meth cd H locs 0 0 Qz (F0 m 0 ls []) by rw [hH, hlo] at hgo; exact hgo
  clear hH hlo
  obtain ⟨sp, hsp⟩ : ∃ z : Int32, z = sX11_isShelf x0 f L := ⟨_, rfl⟩
  have hs : sp = sX11_isShelf x0 f L := hsp
  refine lv_iload_n hx hb dX11_isShelf_0 rfl (lv_at hl 0 rfl) ?_
  refine lv_if_lt (tgt := 14) hx hb dX11_isShelf_1 (by decide) (fun c => ?_) (fun c => ?_)
  · skip
    have c_1 : x0.toInt < 0 := (by first | exact (cm_lt1 ti_0 c) | (have z := bn_lt c; have k1 : (0 : Int32).toInt = 0 := ti_0; omega))
    refine lv_iconst (v := 0) hx hb dX11_isShelf_14 ic_0 ?_
    have k99 : (0 : Int32).toInt = 0 := ti_0
    exact hret _ _ _ _ (0) f L Q dX11_isShelf_15 (by decide) hP hS ⟨⟨rfl, rfl, rfl⟩, Or.inr (⟨rfl, by omega⟩), (Eq.trans (Eq.symm (hs.trans (((if_pos c_1).trans rfl)))) hsp)⟩
  · skip
    have c_2 : 0 ≤ x0.toInt := (by first | exact (cm_nlt1 ti_0 c) | (have z := bn_nlt c; have k1 : (0 : Int32).toInt = 0 := ti_0; omega))
    replace hs := hs.trans ((if_neg (Int.not_lt.mpr c_2)).trans rfl)
    refine lv_iload_n hx hb dX11_isShelf_4 rfl (lv_at hl 0 rfl) ?_
    refine lv_bipush (v := 6) hx hb dX11_isShelf_5 bp_6 ?_
    refine lv_icmp_ge (tgt := 14) hx hb dX11_isShelf_7 (by decide) (fun c => ?_) (fun c => ?_)
    · skip
      have c_3 : 6 ≤ x0.toInt := (by first | exact (cm_le0 ti_6 c) | (have z := bn_le c; have k1 : (6 : Int32).toInt = 6 := ti_6; omega))
      refine lv_iconst (v := 0) hx hb dX11_isShelf_14 ic_0 ?_
      have k99 : (0 : Int32).toInt = 0 := ti_0
      exact hret _ _ _ _ (0) f L Q dX11_isShelf_15 (by decide) hP hS ⟨⟨rfl, rfl, rfl⟩, Or.inr (⟨rfl, by omega⟩), (Eq.trans (Eq.symm (hs.trans ((if_neg (Int.not_lt.mpr c_3)).trans rfl))) hsp)⟩
    · skip
      have c_4 : x0.toInt < 6 := (by first | exact (cm_nle0 ti_6 c) | (have z := bn_nle c; have k1 : (6 : Int32).toInt = 6 := ti_6; omega))
      refine lv_iconst (v := 1) hx hb dX11_isShelf_10 ic_1 ?_
      refine lv_goto (tgt := 15) hx hb dX11_isShelf_11 (by decide) ?_
      have k99 : (1 : Int32).toInt = 1 := ti_1
      exact hret _ _ _ _ (1) f L Q dX11_isShelf_15 (by decide) hP hS ⟨⟨rfl, rfl, rfl⟩, Or.inl ⟨rfl, by omega⟩, (Eq.trans (Eq.symm (hs.trans ((if_pos c_4).trans rfl))) hsp)⟩

set_option maxHeartbeats 4000000 in
set_option maxRecDepth 100000 in
theorem kX7_hasPlaces (l : Launch) (D : va_G) (ca : Nat → ClassId) (za h : Nat → Nat) (hh : sgH 52 h) (f : sg_F) (L : sg_L) (Q : sg_Q) (hI : sgI loX hiX f) (x0 : Int32) (x1 : Int32) (t : Nat) (ht_t : t < 6) (sz : Nat) : Met l yX7_hasPlaces gwX7_hasPlaces { frames := 0, cells := 0, slots := 0, locals := 0 } (sgP D vwCl (tyX ca) 52 h (eX ca h) zcX za f L Q sz [.ref (h (40 + 2 * t)), .int x0, .int x1]) (sgQi D vwCl 52 h (eX ca h) sz (fun r f1 L1 Q1 => ((f1 = f ∧ L1 = L ∧ Q1 = Q) ∧ ((r = 1 ∧ (0 ≤ x0.toInt ∧ 0 ≤ x1.toInt ∧ x0.toInt + x1.toInt ≤ (f (40 + 2 * t) 2).toInt)) ∨ (r = 0 ∧ (True))) ∧ (r) = sX7_hasPlaces x0 x1 t f L))) 0 0 (sgA 52 h sz) := by
  refine sg_ofWz (cc := cX7_hasPlaces) (maxL := 3) RX7 (by decide) rfl rfl (Nat.le_of_ble_eq_true rfl) ?_
  intro p e s m below meth cd Qz ls hx hb hml hown hts hK hZ hP hS hl hret
  have hA := sgY.self (n := 52) (h := h) (sz := s.heap.size)
  have hl : lv_has ls 3 [(0, .ref (h (40 + 2 * t))), (1, .int x0), (2, .int x1)] := hl
  obtain ⟨H, hH⟩ : ∃ z : Heap, z = s.heap := ⟨_, rfl⟩
  obtain ⟨locs, hlo⟩ : ∃ z : List Loc, z = [] := ⟨_, rfl⟩
  have hP : va_P D vwCl (sgw 52 h (eX ca h) f L Q) H := by rw [hH]; exact hP
  have hS : va_S (sgA 52 h s.heap.size) s.heap H locs := by rw [hH, hlo]; exact hS
  suffices hgo : W p l e ({ frames := 0, cells := 0, slots := 0, locals := 0 }) s m ([.ref (h (40 + 2 * t)), .int x0, .int x1] : List Value).toArray below meth cd H locs 0 0 Qz (F0 m 0 ls []) by rw [hH, hlo] at hgo; exact hgo
  clear hH hlo
  obtain ⟨sp, hsp⟩ : ∃ z : Int32, z = sX7_hasPlaces x0 x1 t f L := ⟨_, rfl⟩
  have hs : sp = sX7_hasPlaces x0 x1 t f L := hsp
  obtain ⟨v_1, ev_1⟩ : ∃ z : Int32, z = f (40 + 2 * t) 2 := ⟨_, rfl⟩
  replace hs := hs.trans (spl_e ev_1 rfl)
  have q_2 : 0 ≤ v_1.toInt ∧ v_1.toInt ≤ 60 := by rw [ev_1]; exact shb_2 hI ht_t
  have o_3 : (f (40 + 2 * t) 2).toInt = v_1.toInt := (congrArg Int32.toInt (show f (40 + 2 * t) 2 = v_1 from ev_1.symm))
  refine lv_iload_n hx hb dX7_hasPlaces_0 rfl (lv_at hl 1 rfl) ?_
  refine lv_if_lt (tgt := 30) hx hb dX7_hasPlaces_1 (by decide) (fun c => ?_) (fun c => ?_)
  · skip
    have c_4 : x0.toInt < 0 := (by first | exact (cm_lt1 ti_0 c) | (have z := bn_lt c; have k1 : (0 : Int32).toInt = 0 := ti_0; omega))
    refine lv_iconst (v := 0) hx hb dX7_hasPlaces_30 ic_0 ?_
    have k99 : (0 : Int32).toInt = 0 := ti_0
    exact hret _ _ _ _ (0) f L Q dX7_hasPlaces_31 (by decide) hP hS ⟨⟨rfl, rfl, rfl⟩, Or.inr (⟨rfl, trivial⟩), (Eq.trans (Eq.symm (hs.trans ((if_pos c_4).trans rfl))) hsp)⟩
  · skip
    have c_5 : 0 ≤ x0.toInt := (by first | exact (cm_nlt1 ti_0 c) | (have z := bn_nlt c; have k1 : (0 : Int32).toInt = 0 := ti_0; omega))
    replace hs := hs.trans ((if_neg (Int.not_lt.mpr c_5)).trans rfl)
    refine lv_iload_n hx hb dX7_hasPlaces_4 rfl (lv_at hl 2 rfl) ?_
    refine lv_if_lt (tgt := 30) hx hb dX7_hasPlaces_5 (by decide) (fun c => ?_) (fun c => ?_)
    · skip
      have c_6 : x1.toInt < 0 := (by first | exact (cm_lt1 ti_0 c) | (have z := bn_lt c; have k1 : (0 : Int32).toInt = 0 := ti_0; omega))
      refine lv_iconst (v := 0) hx hb dX7_hasPlaces_30 ic_0 ?_
      have k99 : (0 : Int32).toInt = 0 := ti_0
      exact hret _ _ _ _ (0) f L Q dX7_hasPlaces_31 (by decide) hP hS ⟨⟨rfl, rfl, rfl⟩, Or.inr (⟨rfl, trivial⟩), (Eq.trans (Eq.symm (hs.trans ((if_pos c_6).trans rfl))) hsp)⟩
    · skip
      have c_7 : 0 ≤ x1.toInt := (by first | exact (cm_nlt1 ti_0 c) | (have z := bn_nlt c; have k1 : (0 : Int32).toInt = 0 := ti_0; omega))
      replace hs := hs.trans ((if_neg (Int.not_lt.mpr c_7)).trans rfl)
      refine lv_iload_n hx hb dX7_hasPlaces_8 rfl (lv_at hl 1 rfl) ?_
      refine lv_aload_n hx hb dX7_hasPlaces_9 rfl (lv_at hl 0 rfl) ?_
      refine sg_get (ci := 7) (v := .int v_1) (C := RX7) (T := TX7) (N := 4) hx hb hts (fun w h => List.mem_cons_of_mem _ (gx_7 w h)) hown hK hP (40 + 2 * t) (by have := ht_t; omega) (eX_sh ca h ht_t _ _ _) rfl 2 (by decide) (hts _ (List.mem_cons_of_mem _ mw_85)) (fun _ h9 => h9) (congrArg (fun z => some (Value.int z)) (show f (40 + 2 * t) 2 = v_1 from ev_1.symm)) dX7_hasPlaces_10 ?_
      refine lv_icmp_gt (tgt := 30) hx hb dX7_hasPlaces_13 (by decide) (fun c => ?_) (fun c => ?_)
      · skip
        have c_8 : v_1.toInt < x0.toInt := (by first | exact (bn_lt c) | (have z := bn_lt c; omega))
        refine lv_iconst (v := 0) hx hb dX7_hasPlaces_30 ic_0 ?_
        have k99 : (0 : Int32).toInt = 0 := ti_0
        exact hret _ _ _ _ (0) f L Q dX7_hasPlaces_31 (by decide) hP hS ⟨⟨rfl, rfl, rfl⟩, Or.inr (⟨rfl, trivial⟩), (Eq.trans (Eq.symm (hs.trans ((if_pos c_8).trans rfl))) hsp)⟩
      · skip
        have c_9 : x0.toInt ≤ v_1.toInt := (by first | exact (bn_nlt c) | (have z := bn_nlt c; omega))
        refine lv_iload_n hx hb dX7_hasPlaces_16 rfl (lv_at hl 2 rfl) ?_
        refine lv_aload_n hx hb dX7_hasPlaces_17 rfl (lv_at hl 0 rfl) ?_
        refine sg_get (ci := 7) (v := .int v_1) (C := RX7) (T := TX7) (N := 4) hx hb hts (fun w h => List.mem_cons_of_mem _ (gx_7 w h)) hown hK hP (40 + 2 * t) (by have := ht_t; omega) (eX_sh ca h ht_t _ _ _) rfl 2 (by decide) (hts _ (List.mem_cons_of_mem _ mw_85)) (fun _ h9 => h9) (congrArg (fun z => some (Value.int z)) (show f (40 + 2 * t) 2 = v_1 from ev_1.symm)) dX7_hasPlaces_18 ?_
        refine lv_iload_n hx hb dX7_hasPlaces_21 rfl (lv_at hl 1 rfl) ?_
        refine lv_isub hx hb dX7_hasPlaces_22 ?_
        refine lv_topi (fun v_10 ev_10 => ?_)
        replace hs := hs.trans ((if_neg (Int.not_lt.mpr c_9)).trans (spl_e ev_10 rfl))
        have q_11 : v_10.toInt = v_1.toInt - x0.toInt := by rw [ev_10]; first | exact bn_subI (by omega) (by omega) | exact (bn_subI (by omega) (by omega)).trans (by omega)
        refine lv_icmp_gt (tgt := 30) hx hb dX7_hasPlaces_23 (by decide) (fun c => ?_) (fun c => ?_)
        · skip
          have c_12 : v_10.toInt < x1.toInt := (by first | exact (bn_lt c) | (have z := bn_lt c; omega))
          refine lv_iconst (v := 0) hx hb dX7_hasPlaces_30 ic_0 ?_
          have k99 : (0 : Int32).toInt = 0 := ti_0
          exact hret _ _ _ _ (0) f L Q dX7_hasPlaces_31 (by decide) hP hS ⟨⟨rfl, rfl, rfl⟩, Or.inr (⟨rfl, trivial⟩), (Eq.trans (Eq.symm (hs.trans ((if_pos c_12).trans rfl))) hsp)⟩
        · skip
          have c_13 : x1.toInt ≤ v_10.toInt := (by first | exact (bn_nlt c) | (have z := bn_nlt c; omega))
          refine lv_iconst (v := 1) hx hb dX7_hasPlaces_26 ic_1 ?_
          refine lv_goto (tgt := 31) hx hb dX7_hasPlaces_27 (by decide) ?_
          have k99 : (1 : Int32).toInt = 1 := ti_1
          exact hret _ _ _ _ (1) f L Q dX7_hasPlaces_31 (by decide) hP hS ⟨⟨rfl, rfl, rfl⟩, Or.inl ⟨rfl, by omega⟩, (Eq.trans (Eq.symm (hs.trans ((if_neg (Int.not_lt.mpr c_13)).trans rfl))) hsp)⟩

abbrev WkX11_comesFrom : List (Nat × Nat × Option Nat) := [(1, 1, some 3), (2, 2, none), (9, 9, none)]
set_option maxHeartbeats 4000000 in
set_option maxRecDepth 100000 in
theorem kX11_comesFrom (l : Launch) (D : va_G) (ca : Nat → ClassId) (za h : Nat → Nat) (hh : sgH 52 h) (f : sg_F) (L : sg_L) (Q : sg_Q) (hI : sgI loX hiX f) (t : Nat) (ht_t : t < 6) (x1 : Int32) (b1 : 0 ≤ x1.toInt ∧ x1.toInt ≤ 56) (sz : Nat) : Met l yX11_comesFrom gwX11_comesFrom { frames := 2, cells := 0, slots := 0, locals := 48 } (sgP D vwCl (tyX ca) 52 h (eX ca h) zcX za f L Q sz [.ref (h 0), .ref (h (40 + 2 * t)), .int x1]) (sgQi D vwCl 52 h (eX ca h) sz (fun r f1 L1 Q1 => ((sgI loX hiX f1 ∧ sgK WkX11_comesFrom f f1 ∧ L1 = L ∧ Q1 = Q) ∧ (0 ≤ r.toInt ∧ r.toInt ≤ 1) ∧ (r, f1) = sX11_comesFrom t x1 f L))) 0 0 (sgA 52 h sz) := by
  refine sg_ofWz (cc := cX11_comesFrom) (maxL := 6) RX11 (by decide) rfl rfl (Nat.le_of_ble_eq_true rfl) ?_
  intro p e s m below meth cd Qz ls hx hb hml hown hts hK hZ hP hS hl hret
  have hA := sgY.self (n := 52) (h := h) (sz := s.heap.size)
  have hl : lv_has ls 6 [(0, .ref (h 0)), (1, .ref (h (40 + 2 * t))), (2, .int x1)] := hl
  obtain ⟨H, hH⟩ : ∃ z : Heap, z = s.heap := ⟨_, rfl⟩
  obtain ⟨locs, hlo⟩ : ∃ z : List Loc, z = [] := ⟨_, rfl⟩
  have hP : va_P D vwCl (sgw 52 h (eX ca h) f L Q) H := by rw [hH]; exact hP
  have hS : va_S (sgA 52 h s.heap.size) s.heap H locs := by rw [hH, hlo]; exact hS
  suffices hgo : W p l e ({ frames := 2, cells := 0, slots := 0, locals := 48 }) s m ([.ref (h 0), .ref (h (40 + 2 * t)), .int x1] : List Value).toArray below meth cd H locs 0 0 Qz (F0 m 0 ls []) by rw [hH, hlo] at hgo; exact hgo
  clear hH hlo
  obtain ⟨sp, hsp⟩ : ∃ z : Int32 × sg_F, z = sX11_comesFrom t x1 f L := ⟨_, rfl⟩
  have hs : sp = sX11_comesFrom t x1 f L := hsp
  have hF : sgK WkX11_comesFrom f f := sgK.rf
  refine lv_aload_n hx hb dX11_comesFrom_0 rfl (lv_at hl 1 rfl) ?_
  refine sg_get (ci := 7) (v := .ref (h (41 + 2 * t))) (C := RX7) (T := TX7) (N := 4) hx hb hts (fun w h => List.mem_cons_of_mem _ (gx_7 w h)) hown hK hP (40 + 2 * t) (by have := ht_t; omega) (eX_sh ca h ht_t _ _ _) rfl 0 (by decide) (hts _ (List.mem_cons_of_mem _ mw_115)) (fun _ h9 => h9) rfl dX11_comesFrom_1 ?_
  refine lv_iload_n hx hb dX11_comesFrom_4 rfl (lv_at hl 2 rfl) ?_
  refine lv_iconst (v := 3) hx hb dX11_comesFrom_5 ic_3 ?_
  refine lv_iadd hx hb dX11_comesFrom_6 ?_
  refine lv_topi (fun v_1 ev_1 => ?_)
  have q_2 : v_1.toInt = x1.toInt + 3 := by rw [ev_1]; first | exact cm_add ti_3 (by omega) (by omega) | (have k1 : (3 : Int32).toInt = 3 := ti_3; exact (bn_addI (by omega) (by omega)).trans (by omega))
  refine sg_lald hx hb hK hP (41 + 2 * t) (by have := ht_t; omega) 1 (eX_el ca h ht_t _ _ _) rfl (i := v_1) (vp_in_iff.mpr ⟨by omega, by omega⟩) dX11_comesFrom_7 ?_
  obtain ⟨w_3, ew_3⟩ : ∃ z : Int64, z = L (41 + 2 * t) (Int32.toNatClampNeg v_1) := ⟨_, rfl⟩
  rw [← ew_3]
  obtain ⟨v_4, ev_4⟩ : ∃ z : Int32, z = Int64.toInt32 w_3 := ⟨_, rfl⟩
  refine lv_l2i (v := v_4) hx hb dX11_comesFrom_8 ev_4.symm ?_
  refine lv_istore_n (lv' := [(3, .int v_4), (0, .ref (h 0)), (1, .ref (h (40 + 2 * t))), (2, .int x1)]) hx hb dX11_comesFrom_9 rfl hl (by decide) rfl (fun ls hl => ?_)
  refine lv_iconst (v := 0) hx hb dX11_comesFrom_10 ic_0 ?_
  refine lv_istore (lv' := [(4, .int 0), (3, .int v_4), (0, .ref (h 0)), (1, .ref (h (40 + 2 * t))), (2, .int x1)]) hx hb dX11_comesFrom_11 hl (by decide) rfl (fun ls hl => ?_)
  refine lv_iload hx hb dX11_comesFrom_13 (lv_at hl 0 rfl) ?_
  refine lv_iconst (v := 3) hx hb dX11_comesFrom_15 ic_3 ?_
  refine lv_icmp_ge (tgt := 43) hx hb dX11_comesFrom_16 (by decide) (fun c => absurd c (by decide)) (fun c => ?_)
  refine lv_aload_n hx hb dX11_comesFrom_19 rfl (lv_at hl 3 rfl) ?_
  refine sg_get (ci := 7) (v := .ref (h (41 + 2 * t))) (C := RX7) (T := TX7) (N := 4) hx hb hts (fun w h => List.mem_cons_of_mem _ (gx_7 w h)) hown hK hP (40 + 2 * t) (by have := ht_t; omega) (eX_sh ca h ht_t _ _ _) rfl 0 (by decide) (hts _ (List.mem_cons_of_mem _ mw_115)) (fun _ h9 => h9) rfl dX11_comesFrom_20 ?_
  refine lv_iload_n hx hb dX11_comesFrom_23 rfl (lv_at hl 4 rfl) ?_
  refine lv_iload hx hb dX11_comesFrom_24 (lv_at hl 0 rfl) ?_
  refine lv_iadd hx hb dX11_comesFrom_26 ?_
  refine W.eq (g2 := F0 m 27 ls [.int x1, .ref (h (41 + 2 * t))]) (by rw [Int32.add_zero]) ?_
  refine sg_lald hx hb hK hP (41 + 2 * t) (by have := ht_t; omega) 1 (eX_el ca h ht_t _ _ _) rfl (i := x1) (vp_in_iff.mpr ⟨by omega, by omega⟩) dX11_comesFrom_27 ?_
  obtain ⟨w_5, ew_5⟩ : ∃ z : Int64, z = L (41 + 2 * t) (Int32.toNatClampNeg x1) := ⟨_, rfl⟩
  rw [← ew_5]
  obtain ⟨v_6, ev_6⟩ : ∃ z : Int32, z = Int64.toInt32 w_5 := ⟨_, rfl⟩
  refine lv_l2i (v := v_6) hx hb dX11_comesFrom_28 ev_6.symm ?_
  refine sg_calli (va_runS (As := [.int v_6]) (rest := []) ⟨hx, hb, hml, hown, hts⟩ (kX11_isSetting l D ca za h hh f L Q hI v_6 H.size) (va_cwS 1 hts (gw_S (fun _ h => List.mem_cons_of_mem _ h) mw_61 mw_62 mw_37 mw_60) rfl rfl rfl hd_yX11_isSetting.2 ⟨Nat.le_of_ble_eq_true rfl, Nat.le_of_ble_eq_true rfl⟩) (sg_preS hA hK hP hS hZ) rfl rfl hl.1 rfl (lv_room (Nat.le_of_ble_eq_true rfl)) dX11_comesFrom_29 ⟨Nat.le_refl _, Nat.le_refl _⟩) hA hS (fun r_10 f_7 L_8 Q_9 H locs hq hP hS => ?_)
  obtain ⟨⟨ef9, eL9, eQ9⟩, hq, u_11⟩ := hq
  replace hs := hs.trans (spl_e ev_1 (spl_e ew_3 (spl_e ev_4 (spl_e ew_5 (spl_e ev_6 (spl_e u_11 rfl))))))
  rw [ef9, eL9, eQ9] at hP; clear ef9 eL9 eQ9
  rcases hq with ⟨rfl, hq⟩ | ⟨rfl, hq⟩
  · skip
    have hc_12 := hq
    refine lv_if_ne (tgt := 37) hx hb dX11_comesFrom_32 (by decide) (fun c => ?_) (fun c => absurd c (by decide))
    refine lv_iinc (v := 1) (lv' := [(4, .int 1), (3, .int v_4), (0, .ref (h 0)), (1, .ref (h (40 + 2 * t))), (2, .int x1)]) hx hb dX11_comesFrom_37 hl (k := 0) rfl (by decide) (by decide) rfl (fun ls hl => ?_)
    refine lv_goto (tgt := 13) hx hb dX11_comesFrom_40 (by decide) ?_
    refine lv_iload hx hb dX11_comesFrom_13 (lv_at hl 0 rfl) ?_
    refine lv_iconst (v := 3) hx hb dX11_comesFrom_15 ic_3 ?_
    refine lv_icmp_ge (tgt := 43) hx hb dX11_comesFrom_16 (by decide) (fun c => absurd c (by decide)) (fun c => ?_)
    refine lv_aload_n hx hb dX11_comesFrom_19 rfl (lv_at hl 3 rfl) ?_
    refine sg_get (ci := 7) (v := .ref (h (41 + 2 * t))) (C := RX7) (T := TX7) (N := 4) hx hb hts (fun w h => List.mem_cons_of_mem _ (gx_7 w h)) hown hK hP (40 + 2 * t) (by have := ht_t; omega) (eX_sh ca h ht_t _ _ _) rfl 0 (by decide) (hts _ (List.mem_cons_of_mem _ mw_115)) (fun _ h9 => h9) rfl dX11_comesFrom_20 ?_
    refine lv_iload_n hx hb dX11_comesFrom_23 rfl (lv_at hl 4 rfl) ?_
    refine lv_iload hx hb dX11_comesFrom_24 (lv_at hl 0 rfl) ?_
    refine lv_iadd hx hb dX11_comesFrom_26 ?_
    refine lv_topi (fun v_13 ev_13 => ?_)
    have q_14 : v_13.toInt = x1.toInt + 1 := by rw [ev_13]; first | exact cm_add ti_1 (by omega) (by omega) | (have k1 : (1 : Int32).toInt = 1 := ti_1; exact (bn_addI (by omega) (by omega)).trans (by omega))
    refine sg_lald hx hb hK hP (41 + 2 * t) (by have := ht_t; omega) 1 (eX_el ca h ht_t _ _ _) rfl (i := v_13) (vp_in_iff.mpr ⟨by omega, by omega⟩) dX11_comesFrom_27 ?_
    obtain ⟨w_15, ew_15⟩ : ∃ z : Int64, z = L (41 + 2 * t) (Int32.toNatClampNeg v_13) := ⟨_, rfl⟩
    rw [← ew_15]
    obtain ⟨v_16, ev_16⟩ : ∃ z : Int32, z = Int64.toInt32 w_15 := ⟨_, rfl⟩
    refine lv_l2i (v := v_16) hx hb dX11_comesFrom_28 ev_16.symm ?_
    refine sg_calli (va_runS (As := [.int v_16]) (rest := []) ⟨hx, hb, hml, hown, hts⟩ (kX11_isSetting l D ca za h hh f L Q hI v_16 H.size) (va_cwS 1 hts (gw_S (fun _ h => List.mem_cons_of_mem _ h) mw_61 mw_62 mw_37 mw_60) rfl rfl rfl hd_yX11_isSetting.2 ⟨Nat.le_of_ble_eq_true rfl, Nat.le_of_ble_eq_true rfl⟩) (sg_preS hA hK hP hS hZ) rfl rfl hl.1 rfl (lv_room (Nat.le_of_ble_eq_true rfl)) dX11_comesFrom_29 ⟨Nat.le_refl _, Nat.le_refl _⟩) hA hS (fun r_20 f_17 L_18 Q_19 H locs hq hP hS => ?_)
    obtain ⟨⟨ef9, eL9, eQ9⟩, hq, u_21⟩ := hq
    replace hs := hs.trans ((if_pos rfl).trans (spl_e ev_13 (spl_e ew_15 (spl_e ev_16 (spl_e u_21 rfl)))))
    rw [ef9, eL9, eQ9] at hP; clear ef9 eL9 eQ9
    rcases hq with ⟨rfl, hq⟩ | ⟨rfl, hq⟩
    · skip
      have hc_22 := hq
      refine lv_if_ne (tgt := 37) hx hb dX11_comesFrom_32 (by decide) (fun c => ?_) (fun c => absurd c (by decide))
      refine lv_iinc (v := 2) (lv' := [(4, .int 2), (3, .int v_4), (0, .ref (h 0)), (1, .ref (h (40 + 2 * t))), (2, .int x1)]) hx hb dX11_comesFrom_37 hl (k := 0) rfl (by decide) (by decide) rfl (fun ls hl => ?_)
      refine lv_goto (tgt := 13) hx hb dX11_comesFrom_40 (by decide) ?_
      refine lv_iload hx hb dX11_comesFrom_13 (lv_at hl 0 rfl) ?_
      refine lv_iconst (v := 3) hx hb dX11_comesFrom_15 ic_3 ?_
      refine lv_icmp_ge (tgt := 43) hx hb dX11_comesFrom_16 (by decide) (fun c => absurd c (by decide)) (fun c => ?_)
      refine lv_aload_n hx hb dX11_comesFrom_19 rfl (lv_at hl 3 rfl) ?_
      refine sg_get (ci := 7) (v := .ref (h (41 + 2 * t))) (C := RX7) (T := TX7) (N := 4) hx hb hts (fun w h => List.mem_cons_of_mem _ (gx_7 w h)) hown hK hP (40 + 2 * t) (by have := ht_t; omega) (eX_sh ca h ht_t _ _ _) rfl 0 (by decide) (hts _ (List.mem_cons_of_mem _ mw_115)) (fun _ h9 => h9) rfl dX11_comesFrom_20 ?_
      refine lv_iload_n hx hb dX11_comesFrom_23 rfl (lv_at hl 4 rfl) ?_
      refine lv_iload hx hb dX11_comesFrom_24 (lv_at hl 0 rfl) ?_
      refine lv_iadd hx hb dX11_comesFrom_26 ?_
      refine lv_topi (fun v_23 ev_23 => ?_)
      have q_24 : v_23.toInt = x1.toInt + 2 := by rw [ev_23]; first | exact cm_add ti_2 (by omega) (by omega) | (have k1 : (2 : Int32).toInt = 2 := ti_2; exact (bn_addI (by omega) (by omega)).trans (by omega))
      refine sg_lald hx hb hK hP (41 + 2 * t) (by have := ht_t; omega) 1 (eX_el ca h ht_t _ _ _) rfl (i := v_23) (vp_in_iff.mpr ⟨by omega, by omega⟩) dX11_comesFrom_27 ?_
      obtain ⟨w_25, ew_25⟩ : ∃ z : Int64, z = L (41 + 2 * t) (Int32.toNatClampNeg v_23) := ⟨_, rfl⟩
      rw [← ew_25]
      obtain ⟨v_26, ev_26⟩ : ∃ z : Int32, z = Int64.toInt32 w_25 := ⟨_, rfl⟩
      refine lv_l2i (v := v_26) hx hb dX11_comesFrom_28 ev_26.symm ?_
      refine sg_calli (va_runS (As := [.int v_26]) (rest := []) ⟨hx, hb, hml, hown, hts⟩ (kX11_isSetting l D ca za h hh f L Q hI v_26 H.size) (va_cwS 1 hts (gw_S (fun _ h => List.mem_cons_of_mem _ h) mw_61 mw_62 mw_37 mw_60) rfl rfl rfl hd_yX11_isSetting.2 ⟨Nat.le_of_ble_eq_true rfl, Nat.le_of_ble_eq_true rfl⟩) (sg_preS hA hK hP hS hZ) rfl rfl hl.1 rfl (lv_room (Nat.le_of_ble_eq_true rfl)) dX11_comesFrom_29 ⟨Nat.le_refl _, Nat.le_refl _⟩) hA hS (fun r_30 f_27 L_28 Q_29 H locs hq hP hS => ?_)
      obtain ⟨⟨ef9, eL9, eQ9⟩, hq, u_31⟩ := hq
      replace hs := hs.trans ((if_pos rfl).trans (spl_e ev_23 (spl_e ew_25 (spl_e ev_26 (spl_e u_31 rfl)))))
      rw [ef9, eL9, eQ9] at hP; clear ef9 eL9 eQ9
      rcases hq with ⟨rfl, hq⟩ | ⟨rfl, hq⟩
      · skip
        have hc_32 := hq
        refine lv_if_ne (tgt := 37) hx hb dX11_comesFrom_32 (by decide) (fun c => ?_) (fun c => absurd c (by decide))
        refine lv_iinc (v := 3) (lv' := [(4, .int 3), (3, .int v_4), (0, .ref (h 0)), (1, .ref (h (40 + 2 * t))), (2, .int x1)]) hx hb dX11_comesFrom_37 hl (k := 0) rfl (by decide) (by decide) rfl (fun ls hl => ?_)
        refine lv_goto (tgt := 13) hx hb dX11_comesFrom_40 (by decide) ?_
        refine lv_iload hx hb dX11_comesFrom_13 (lv_at hl 0 rfl) ?_
        refine lv_iconst (v := 3) hx hb dX11_comesFrom_15 ic_3 ?_
        refine lv_icmp_ge (tgt := 43) hx hb dX11_comesFrom_16 (by decide) (fun c => ?_) (fun c => absurd c (by decide))
        refine lv_iconst (v := 5) hx hb dX11_comesFrom_43 ic_5 ?_
        refine lv_iload_n hx hb dX11_comesFrom_44 rfl (lv_at hl 1 rfl) ?_
        refine sg_calli (va_runS (As := [.int 5, .int v_4]) (rest := []) ⟨hx, hb, hml, hown, hts⟩ (kX11_fits l D ca za h hh f L Q hI 5 v_4 H.size) (va_cwS 2 hts (gw_S (fun _ h => List.mem_cons_of_mem _ h) mw_149 mw_150 mw_37 mw_148) rfl rfl rfl hd_yX11_fits.2 ⟨Nat.le_of_ble_eq_true rfl, Nat.le_of_ble_eq_true rfl⟩) (sg_preS hA hK hP hS hZ) rfl rfl hl.1 rfl (lv_room (Nat.le_of_ble_eq_true rfl)) dX11_comesFrom_45 ⟨Nat.le_refl _, Nat.le_refl _⟩) hA hS (fun r_36 f_33 L_34 Q_35 H locs hq hP hS => ?_)
        obtain ⟨⟨ef9, eL9, eQ9⟩, hq, u_37⟩ := hq
        replace hs := hs.trans ((if_pos rfl).trans (spl_e u_37 rfl))
        rw [ef9, eL9, eQ9] at hP; clear ef9 eL9 eQ9
        have k_38 : (5 : Int32).toInt = 5 := by decide
        rcases hq with ⟨rfl, hq⟩ | ⟨rfl, hq⟩
        · skip
          have hc_39 := hq
          refine lv_if_ne (tgt := 53) hx hb dX11_comesFrom_48 (by decide) (fun c => ?_) (fun c => absurd c (by decide))
          refine lv_aload_n hx hb dX11_comesFrom_53 rfl (lv_at hl 3 rfl) ?_
          refine sg_get (ci := 7) (v := .ref (h (41 + 2 * t))) (C := RX7) (T := TX7) (N := 4) hx hb hts (fun w h => List.mem_cons_of_mem _ (gx_7 w h)) hown hK hP (40 + 2 * t) (by have := ht_t; omega) (eX_sh ca h ht_t _ _ _) rfl 0 (by decide) (hts _ (List.mem_cons_of_mem _ mw_115)) (fun _ h9 => h9) rfl dX11_comesFrom_54 ?_
          refine lv_iload_n hx hb dX11_comesFrom_57 rfl (lv_at hl 4 rfl) ?_
          refine sg_lald hx hb hK hP (41 + 2 * t) (by have := ht_t; omega) 1 (eX_el ca h ht_t _ _ _) rfl (i := x1) (vp_in_iff.mpr ⟨by omega, by omega⟩) dX11_comesFrom_58 ?_
          rw [← ew_5]
          refine lv_l2i (v := v_6) hx hb dX11_comesFrom_59 ev_6.symm ?_
          refine lv_istore (lv' := [(4, .int v_6), (3, .int v_4), (0, .ref (h 0)), (1, .ref (h (40 + 2 * t))), (2, .int x1)]) hx hb dX11_comesFrom_60 hl (by decide) rfl (fun ls hl => ?_)
          refine lv_aload_n hx hb dX11_comesFrom_62 rfl (lv_at hl 3 rfl) ?_
          refine sg_get (ci := 7) (v := .ref (h (41 + 2 * t))) (C := RX7) (T := TX7) (N := 4) hx hb hts (fun w h => List.mem_cons_of_mem _ (gx_7 w h)) hown hK hP (40 + 2 * t) (by have := ht_t; omega) (eX_sh ca h ht_t _ _ _) rfl 0 (by decide) (hts _ (List.mem_cons_of_mem _ mw_115)) (fun _ h9 => h9) rfl dX11_comesFrom_63 ?_
          refine lv_iload_n hx hb dX11_comesFrom_66 rfl (lv_at hl 4 rfl) ?_
          refine lv_iconst (v := 1) hx hb dX11_comesFrom_67 ic_1 ?_
          refine lv_iadd hx hb dX11_comesFrom_68 ?_
          rw [← ev_13]
          refine sg_lald hx hb hK hP (41 + 2 * t) (by have := ht_t; omega) 1 (eX_el ca h ht_t _ _ _) rfl (i := v_13) (vp_in_iff.mpr ⟨by omega, by omega⟩) dX11_comesFrom_69 ?_
          rw [← ew_15]
          refine lv_l2i (v := v_16) hx hb dX11_comesFrom_70 ev_16.symm ?_
          refine lv_istore (lv' := [(5, .int v_16), (4, .int v_6), (3, .int v_4), (0, .ref (h 0)), (1, .ref (h (40 + 2 * t))), (2, .int x1)]) hx hb dX11_comesFrom_71 hl (by decide) rfl (fun ls hl => ?_)
          refine lv_aload_n hx hb dX11_comesFrom_73 rfl (lv_at hl 3 rfl) ?_
          refine sl_gX_0_0_11 hx hb hts hown hK hP dX11_comesFrom_74 ?_
          refine lv_iload hx hb dX11_comesFrom_77 (lv_at hl 1 rfl) ?_
          refine lv_iload hx hb dX11_comesFrom_79 (lv_at hl 0 rfl) ?_
          refine lv_aload_n hx hb dX11_comesFrom_81 rfl (lv_at hl 4 rfl) ?_
          refine sg_get (ci := 7) (v := .ref (h (41 + 2 * t))) (C := RX7) (T := TX7) (N := 4) hx hb hts (fun w h => List.mem_cons_of_mem _ (gx_7 w h)) hown hK hP (40 + 2 * t) (by have := ht_t; omega) (eX_sh ca h ht_t _ _ _) rfl 0 (by decide) (hts _ (List.mem_cons_of_mem _ mw_115)) (fun _ h9 => h9) rfl dX11_comesFrom_82 ?_
          refine lv_iload_n hx hb dX11_comesFrom_85 rfl (lv_at hl 5 rfl) ?_
          refine lv_iconst (v := 2) hx hb dX11_comesFrom_86 ic_2 ?_
          refine lv_iadd hx hb dX11_comesFrom_87 ?_
          rw [← ev_23]
          refine sg_lald hx hb hK hP (41 + 2 * t) (by have := ht_t; omega) 1 (eX_el ca h ht_t _ _ _) rfl (i := v_23) (vp_in_iff.mpr ⟨by omega, by omega⟩) dX11_comesFrom_88 ?_
          rw [← ew_25]
          refine lv_l2i (v := v_26) hx hb dX11_comesFrom_89 ev_26.symm ?_
          refine lv_iload_n hx hb dX11_comesFrom_90 rfl (lv_at hl 2 rfl) ?_
          refine sg_calli (va_runV (As := [.int v_6, .int v_16, .int v_26, .int v_4]) (rest := []) ⟨hx, hb, hml, hown, hts⟩ (kX0_comes l D ca za h hh f L Q hI v_6 v_16 v_26 v_4 ⟨by omega, by omega⟩ ⟨by omega, by omega⟩ ⟨by omega, by omega⟩ ⟨by omega, by omega⟩ H.size) (sl_c0_comes_1_0_0_23_11 hts ⟨Nat.le_of_ble_eq_true rfl, Nat.le_of_ble_eq_true rfl⟩) (sl_vX_1 hA hK hP hS hZ) rfl rfl hl.1 rfl (lv_room (Nat.le_of_ble_eq_true rfl)) dX11_comesFrom_91 ⟨Nat.le_refl _, Nat.le_refl _⟩) hA hS (fun r_43 f_40 L_41 Q_42 H locs hq hP hS => ?_)
          obtain ⟨⟨hI, hk_f_40, eL9, eQ9⟩, hq, u_44⟩ := hq
          replace hs := hs.trans ((if_pos rfl).trans (spl2_e u_44 rfl))
          rw [eL9, eQ9] at hP; clear eL9 eQ9
          have hF : sgK WkX11_comesFrom f f_40 := sgK.tr hF hk_f_40 (by decide +kernel)
          refine lv_if_lt (tgt := 101) hx hb dX11_comesFrom_94 (by decide) (fun c => ?_) (fun c => ?_)
          · skip
            have c_45 : r_43.toInt < 0 := (by first | exact (cm_lt1 ti_0 c) | (have z := bn_lt c; have k1 : (0 : Int32).toInt = 0 := ti_0; omega))
            refine lv_iconst (v := 0) hx hb dX11_comesFrom_101 ic_0 ?_
            have k99 : (0 : Int32).toInt = 0 := ti_0
            exact hret _ _ _ _ (0) f_40 L Q dX11_comesFrom_102 (by decide) hP hS ⟨⟨hI, hF, rfl, rfl⟩, (by decide), (Eq.trans (Eq.symm (hs.trans ((if_pos c_45).trans rfl))) hsp)⟩
          · skip
            have c_46 : 0 ≤ r_43.toInt := (by first | exact (cm_nlt1 ti_0 c) | (have z := bn_nlt c; have k1 : (0 : Int32).toInt = 0 := ti_0; omega))
            refine lv_iconst (v := 1) hx hb dX11_comesFrom_97 ic_1 ?_
            refine lv_goto (tgt := 102) hx hb dX11_comesFrom_98 (by decide) ?_
            have k99 : (1 : Int32).toInt = 1 := ti_1
            exact hret _ _ _ _ (1) f_40 L Q dX11_comesFrom_102 (by decide) hP hS ⟨⟨hI, hF, rfl, rfl⟩, (by decide), (Eq.trans (Eq.symm (hs.trans ((if_neg (Int.not_lt.mpr c_46)).trans rfl))) hsp)⟩
        · skip
          have hc_39 := hq
          refine lv_if_ne (tgt := 53) hx hb dX11_comesFrom_48 (by decide) (fun c => absurd c (by decide)) (fun c => ?_)
          refine lv_iconst (v := 0) hx hb dX11_comesFrom_51 ic_0 ?_
          have k99 : (0 : Int32).toInt = 0 := ti_0
          exact hret _ _ _ _ (0) f L Q dX11_comesFrom_52 (by decide) hP hS ⟨⟨hI, hF, rfl, rfl⟩, (by decide), (Eq.trans (Eq.symm (hs.trans ((if_neg (by decide)).trans rfl))) hsp)⟩
      · skip
        have hc_32 := hq
        refine lv_if_ne (tgt := 37) hx hb dX11_comesFrom_32 (by decide) (fun c => absurd c (by decide)) (fun c => ?_)
        refine lv_iconst (v := 0) hx hb dX11_comesFrom_35 ic_0 ?_
        have k99 : (0 : Int32).toInt = 0 := ti_0
        exact hret _ _ _ _ (0) f L Q dX11_comesFrom_36 (by decide) hP hS ⟨⟨hI, hF, rfl, rfl⟩, (by decide), (Eq.trans (Eq.symm (hs.trans ((if_neg (by decide)).trans rfl))) hsp)⟩
    · skip
      have hc_22 := hq
      refine lv_if_ne (tgt := 37) hx hb dX11_comesFrom_32 (by decide) (fun c => absurd c (by decide)) (fun c => ?_)
      refine lv_iconst (v := 0) hx hb dX11_comesFrom_35 ic_0 ?_
      have k99 : (0 : Int32).toInt = 0 := ti_0
      exact hret _ _ _ _ (0) f L Q dX11_comesFrom_36 (by decide) hP hS ⟨⟨hI, hF, rfl, rfl⟩, (by decide), (Eq.trans (Eq.symm (hs.trans ((if_neg (by decide)).trans rfl))) hsp)⟩
  · skip
    have hc_12 := hq
    refine lv_if_ne (tgt := 37) hx hb dX11_comesFrom_32 (by decide) (fun c => absurd c (by decide)) (fun c => ?_)
    refine lv_iconst (v := 0) hx hb dX11_comesFrom_35 ic_0 ?_
    have k99 : (0 : Int32).toInt = 0 := ti_0
    exact hret _ _ _ _ (0) f L Q dX11_comesFrom_36 (by decide) hP hS ⟨⟨hI, hF, rfl, rfl⟩, (by decide), (Eq.trans (Eq.symm (hs.trans ((if_neg (by decide)).trans rfl))) hsp)⟩

abbrev WkX11_fromRow : List (Nat × Nat × Option Nat) := [(1, 1, some 3), (2, 2, none), (9, 9, none)]
set_option maxHeartbeats 4000000 in
set_option maxRecDepth 100000 in
theorem kX11_fromRow (l : Launch) (D : va_G) (ca : Nat → ClassId) (za h : Nat → Nat) (hh : sgH 52 h) (f : sg_F) (L : sg_L) (Q : sg_Q) (hI : sgI loX hiX f) (t : Nat) (ht_t : t < 6) (x1 : Int32) (x2 : Int32) (b2 : 1 ≤ x2.toInt ∧ x2.toInt ≤ 8) (sz : Nat) : Met l yX11_fromRow gwX11_fromRow { frames := 3, cells := 0, slots := 0, locals := 73 } (sgP D vwCl (tyX ca) 52 h (eX ca h) zcX za f L Q sz [.ref (h 0), .ref (h (40 + 2 * t)), .int x1, .int x2]) (sgQi D vwCl 52 h (eX ca h) sz (fun r f1 L1 Q1 => ((sgI loX hiX f1 ∧ sgK WkX11_fromRow f f1 ∧ L1 = L ∧ Q1 = Q) ∧ (0 ≤ r.toInt ∧ r.toInt ≤ 8) ∧ (r, f1) = sX11_fromRow t x1 x2 f L))) 0 0 (sgA 52 h sz) := by
  refine sg_ofWi (cc := cX11_fromRow) (maxL := 6) RX11 (by decide) rfl rfl (Nat.le_of_ble_eq_true rfl) ?_
  intro p e s m below meth cd Qz ls hx hb hml hown hts hK hZ hP hS hl hret
  have hA := sgY.self (n := 52) (h := h) (sz := s.heap.size)
  have hl : lv_has ls 6 [(0, .ref (h 0)), (1, .ref (h (40 + 2 * t))), (2, .int x1), (3, .int x2)] := hl
  obtain ⟨H, hH⟩ : ∃ z : Heap, z = s.heap := ⟨_, rfl⟩
  obtain ⟨locs, hlo⟩ : ∃ z : List Loc, z = [] := ⟨_, rfl⟩
  have hP : va_P D vwCl (sgw 52 h (eX ca h) f L Q) H := by rw [hH]; exact hP
  have hS : va_S (sgA 52 h s.heap.size) s.heap H locs := by rw [hH, hlo]; exact hS
  suffices hgo : W p l e ({ frames := 3, cells := 0, slots := 0, locals := 73 }) s m ([.ref (h 0), .ref (h (40 + 2 * t)), .int x1, .int x2] : List Value).toArray below meth cd H locs 0 0 Qz (F0 m 0 ls []) by rw [hH, hlo] at hgo; exact hgo
  clear hH hlo
  obtain ⟨sp, hsp⟩ : ∃ z : Int32 × sg_F, z = sX11_fromRow t x1 x2 f L := ⟨_, rfl⟩
  have hs : sp = sX11_fromRow t x1 x2 f L := hsp
  have hF : sgK WkX11_fromRow f f := sgK.rf
  have loop_6 : ∀ (n_6 : Nat) (y4_6 : Int32) (y5_6 : Int32) (fp_6 : sg_F) (H : Heap) (locs : List Loc) (ls : Array Slot), sp = sX11_fromRow_l6 t x1 x2 n_6 y4_6 y5_6 fp_6 L → 8 - y4_6.toInt < (n_6 : Int) → 0 ≤ y4_6.toInt ∧ y4_6.toInt ≤ 8 → sgI loX hiX fp_6 → sgK WkX11_fromRow f fp_6 → va_P D vwCl (sgw 52 h (eX ca h) fp_6 L Q) H → va_S (sgA 52 h s.heap.size) s.heap H locs → lv_has ls 6 [(0, .ref (h 0)), (1, .ref (h (40 + 2 * t))), (3, .int x2), (4, .int y4_6), (5, .int y5_6)] → W p l e ({ frames := 3, cells := 0, slots := 0, locals := 73 }) s m ([.ref (h 0), .ref (h (40 + 2 * t)), .int x1, .int x2] : List Value).toArray below meth cd H locs 0 0 Qz (F0 m 6 ls []) := by
    intro n_6
    induction n_6 with
    | zero => intro y4_6 y5_6 fp_6 H locs ls hs hm_6 hy0_6 hI hF hP hS hl; exact absurd hm_6 (by omega)
    | succ n_6 ih_6 =>
      intro y4_6 y5_6 fp_6 H locs ls hs hm_6 hy0_6 hI hF hP hS hl
      have hs : sp = sX11_fromRow_h6 t x1 x2 (sX11_fromRow_l6 t x1 x2 n_6) y4_6 y5_6 fp_6 L := hs
      refine lv_iload hx hb dX11_fromRow_6 (lv_at hl 3 rfl) ?_
      refine lv_iload_n hx hb dX11_fromRow_8 rfl (lv_at hl 2 rfl) ?_
      refine lv_icmp_ge (tgt := 44) hx hb dX11_fromRow_9 (by decide) (fun c => ?_) (fun c => ?_)
      · skip
        have c_1 : x2.toInt ≤ y4_6.toInt := (by first | exact (bn_le c) | (have z := bn_le c; omega))
        refine lv_iload hx hb dX11_fromRow_44 (lv_at hl 3 rfl) ?_
        exact hret _ _ _ _ (y4_6) fp_6 L Q dX11_fromRow_46 hP hS ⟨⟨hI, hF, rfl, rfl⟩, ⟨by omega, by omega⟩, (Eq.trans (Eq.symm (hs.trans (((if_neg (Int.not_lt.mpr c_1)).trans rfl)))) hsp)⟩
      · skip
        have c_2 : y4_6.toInt < x2.toInt := (by first | exact (bn_nle c) | (have z := bn_nle c; omega))
        refine lv_aload_n hx hb dX11_fromRow_12 rfl (lv_at hl 1 rfl) ?_
        refine lv_iload hx hb dX11_fromRow_13 (lv_at hl 4 rfl) ?_
        refine lv_iconst (v := 4) hx hb dX11_fromRow_15 ic_4 ?_
        obtain ⟨v_3, ev_3⟩ : ∃ z : Int32, z = fp_6 (40 + 2 * t) 2 := ⟨_, rfl⟩
        have q_4 : 0 ≤ v_3.toInt ∧ v_3.toInt ≤ 60 := by rw [ev_3]; exact shb_2 hI ht_t
        have q_5 : (fp_6 (40 + 2 * t) 2).toInt = v_3.toInt := (congrArg Int32.toInt (show fp_6 (40 + 2 * t) 2 = v_3 from ev_3.symm))
        refine sg_calli (va_runV (As := [.int y5_6, .int 4]) (rest := []) ⟨hx, hb, hml, hown, hts⟩ (kX7_hasPlaces l D ca za h hh fp_6 L Q hI y5_6 4 t ht_t H.size) (sl_c7_hasPlaces_0_0_0_0_11 hts ⟨Nat.le_of_ble_eq_true rfl, Nat.le_of_ble_eq_true rfl⟩) (sg_preV (ci := 7) (C := RX7) (T := TX7) (N := 4) hA hK hP hS hZ (40 + 2 * t) (by have := ht_t; omega) (eX_sh ca h ht_t _ _ _) rfl) rfl rfl hl.1 rfl (lv_room (Nat.le_of_ble_eq_true rfl)) dX11_fromRow_16 ⟨Nat.le_refl _, Nat.le_refl _⟩) hA hS (fun r_9 f_6 L_7 Q_8 H locs hq hP hS => ?_)
        obtain ⟨⟨ef9, eL9, eQ9⟩, hq, u_10⟩ := hq
        replace hs := hs.trans ((if_pos c_2).trans (spl_e ev_3 (spl_e u_10 rfl)))
        rw [ef9, eL9, eQ9] at hP; clear ef9 eL9 eQ9
        have k_11 : (4 : Int32).toInt = 4 := by decide
        rcases hq with ⟨rfl, hq⟩ | ⟨rfl, hq⟩
        · skip
          have hc_12 := hq
          refine lv_if_eq (tgt := 44) hx hb dX11_fromRow_19 (by decide) (fun c => absurd c (by decide)) (fun c => ?_)
          refine lv_aload_n hx hb dX11_fromRow_22 rfl (lv_at hl 0 rfl) ?_
          refine lv_aload_n hx hb dX11_fromRow_23 rfl (lv_at hl 1 rfl) ?_
          refine lv_iload hx hb dX11_fromRow_24 (lv_at hl 4 rfl) ?_
          refine sg_calli (va_runV (As := [.ref (h (40 + 2 * t)), .int y5_6]) (rest := []) ⟨hx, hb, hml, hown, hts⟩ (kX11_comesFrom l D ca za h hh fp_6 L Q hI t ht_t y5_6 ⟨by omega, by omega⟩ H.size) (sl_c11_comesFrom_2_0_0_48_11 hts ⟨Nat.le_of_ble_eq_true rfl, Nat.le_of_ble_eq_true rfl⟩) (sl_vX_0 hA hK hP hS hZ) rfl rfl hl.1 rfl (lv_room (Nat.le_of_ble_eq_true rfl)) dX11_fromRow_26 ⟨Nat.le_refl _, Nat.le_refl _⟩) hA hS (fun r_16 f_13 L_14 Q_15 H locs hq hP hS => ?_)
          obtain ⟨⟨hI, hk_f_13, eL9, eQ9⟩, hq, u_17⟩ := hq
          replace hs := hs.trans ((if_pos rfl).trans (spl2_e u_17 rfl))
          rw [eL9, eQ9] at hP; clear eL9 eQ9
          have hF : sgK WkX11_fromRow f f_13 := sgK.tr hF hk_f_13 (by decide +kernel)
          refine lv_if_ne (tgt := 35) hx hb dX11_fromRow_29 (by decide) (fun c => ?_) (fun c => ?_)
          · skip
            have c_18 : r_16.toInt ≠ 0 := (by first | exact (cm_ne1 ti_0 c) | (have z := bn_ne c; have k1 : (0 : Int32).toInt = 0 := ti_0; omega))
            obtain ⟨v_20, ev_20⟩ : ∃ z : Int32, z = y4_6 + 1 := ⟨_, rfl⟩
            have q_21 : v_20.toInt = y4_6.toInt + 1 := by rw [ev_20]; exact (bn_addc y4_6 1 (by decide) (by omega) (by omega))
            refine lv_iinc (v := v_20) (lv' := [(4, .int v_20), (0, .ref (h 0)), (1, .ref (h (40 + 2 * t))), (3, .int x2), (5, .int y5_6)]) hx hb dX11_fromRow_35 hl (k := 3) rfl (by rw [ev_20]; rfl) (by decide) rfl (fun ls hl => ?_)
            obtain ⟨v_22, ev_22⟩ : ∃ z : Int32, z = y5_6 + 4 := ⟨_, rfl⟩
            have q_23 : v_22.toInt = y5_6.toInt + 4 := by rw [ev_22]; exact (bn_addc y5_6 4 (by decide) (by omega) (by omega))
            refine lv_iinc (v := v_22) (lv' := [(5, .int v_22), (4, .int v_20), (0, .ref (h 0)), (1, .ref (h (40 + 2 * t))), (3, .int x2)]) hx hb dX11_fromRow_38 hl (k := 4) rfl (by rw [ev_22]; rfl) (by decide) rfl (fun ls hl => ?_)
            refine lv_goto (tgt := 6) hx hb dX11_fromRow_41 (by decide) ?_
            exact ih_6 v_20 v_22 f_13 _ _ _ (hs.trans ((if_neg c_18).trans (spl_e ev_20 (spl_e ev_22 rfl)))) (by omega) ⟨by omega, by omega⟩ hI hF hP hS (lv_sub hl [2, 3, 4, 1, 0] rfl)
          · skip
            have c_19 : r_16.toInt = 0 := (by first | exact (cm_eq1 ti_0 c) | (have z := Int32.toInt_inj.mpr c; have k1 : (0 : Int32).toInt = 0 := ti_0; omega))
            refine lv_iload hx hb dX11_fromRow_32 (lv_at hl 3 rfl) ?_
            exact hret _ _ _ _ (y4_6) f_13 L Q dX11_fromRow_34 hP hS ⟨⟨hI, hF, rfl, rfl⟩, ⟨by omega, by omega⟩, (Eq.trans (Eq.symm (hs.trans ((if_pos c_19).trans rfl))) hsp)⟩
        · skip
          have hc_12 := hq
          refine lv_if_eq (tgt := 44) hx hb dX11_fromRow_19 (by decide) (fun c => ?_) (fun c => absurd c (by decide))
          refine lv_iload hx hb dX11_fromRow_44 (lv_at hl 3 rfl) ?_
          exact hret _ _ _ _ (y4_6) fp_6 L Q dX11_fromRow_46 hP hS ⟨⟨hI, hF, rfl, rfl⟩, ⟨by omega, by omega⟩, (Eq.trans (Eq.symm (hs.trans ((if_neg (by decide)).trans rfl))) hsp)⟩
  refine lv_iconst (v := 0) hx hb dX11_fromRow_0 ic_0 ?_
  refine lv_istore (lv' := [(4, .int 0), (0, .ref (h 0)), (1, .ref (h (40 + 2 * t))), (2, .int x1), (3, .int x2)]) hx hb dX11_fromRow_1 hl (by decide) rfl (fun ls hl => ?_)
  refine lv_iload_n hx hb dX11_fromRow_3 rfl (lv_at hl 3 rfl) ?_
  refine lv_istore (lv' := [(5, .int x1), (4, .int 0), (0, .ref (h 0)), (1, .ref (h (40 + 2 * t))), (2, .int x1), (3, .int x2)]) hx hb dX11_fromRow_4 hl (by decide) rfl (fun ls hl => ?_)
  exact loop_6 9 0 x1 f _ _ _ hs (by have kc0 : (0 : Int32).toInt = 0 := ti_0; omega) (by decide) hI hF hP hS (lv_sub hl [2, 3, 5, 1, 0] rfl)

abbrev WkX11_sitters : List (Nat × Nat × Option Nat) := [(1, 1, some 3), (2, 2, none), (9, 9, none)]
set_option maxHeartbeats 4000000 in
set_option maxRecDepth 100000 in
theorem kX11_sitters (l : Launch) (D : va_G) (ca : Nat → ClassId) (za h : Nat → Nat) (hh : sgH 52 h) (f : sg_F) (L : sg_L) (Q : sg_Q) (hI : sgI loX hiX f) (x0 : Int32) (x1 : Int32) (x2 : Int32) (sz : Nat) : Met l yX11_sitters gwX11_sitters { frames := 4, cells := 0, slots := 0, locals := 98 } (sgP D vwCl (tyX ca) 52 h (eX ca h) zcX za f L Q sz [.ref (h 0), .int x0, .int x1, .int x2]) (sgQi D vwCl 52 h (eX ca h) sz (fun r f1 L1 Q1 => ((sgI loX hiX f1 ∧ sgK WkX11_sitters f f1 ∧ L1 = L ∧ Q1 = Q) ∧ ((-12) ≤ r.toInt ∧ r.toInt ≤ 8) ∧ (r, f1) = sX11_sitters x0 x1 x2 f L))) 0 0 (sgA 52 h sz) := by
  refine sg_ofWi (cc := cX11_sitters) (maxL := 5) RX11 (by decide) rfl rfl (Nat.le_of_ble_eq_true rfl) ?_
  intro p e s m below meth cd Qz ls hx hb hml hown hts hK hZ hP hS hl hret
  have hA := sgY.self (n := 52) (h := h) (sz := s.heap.size)
  have hl : lv_has ls 5 [(0, .ref (h 0)), (1, .int x0), (2, .int x1), (3, .int x2)] := hl
  obtain ⟨H, hH⟩ : ∃ z : Heap, z = s.heap := ⟨_, rfl⟩
  obtain ⟨locs, hlo⟩ : ∃ z : List Loc, z = [] := ⟨_, rfl⟩
  have hP : va_P D vwCl (sgw 52 h (eX ca h) f L Q) H := by rw [hH]; exact hP
  have hS : va_S (sgA 52 h s.heap.size) s.heap H locs := by rw [hH, hlo]; exact hS
  suffices hgo : W p l e ({ frames := 4, cells := 0, slots := 0, locals := 98 }) s m ([.ref (h 0), .int x0, .int x1, .int x2] : List Value).toArray below meth cd H locs 0 0 Qz (F0 m 0 ls []) by rw [hH, hlo] at hgo; exact hgo
  clear hH hlo
  obtain ⟨sp, hsp⟩ : ∃ z : Int32 × sg_F, z = sX11_sitters x0 x1 x2 f L := ⟨_, rfl⟩
  have hs : sp = sX11_sitters x0 x1 x2 f L := hsp
  have hF : sgK WkX11_sitters f f := sgK.rf
  refine lv_iload_n hx hb dX11_sitters_0 rfl (lv_at hl 1 rfl) ?_
  refine sg_calli (va_runS (As := [.int x0]) (rest := []) ⟨hx, hb, hml, hown, hts⟩ (kX11_isShelf l D ca za h hh f L Q hI x0 H.size) (va_cwS 1 hts (gw_S (fun _ h => List.mem_cons_of_mem _ h) mw_35 mw_36 mw_37 mw_34) rfl rfl rfl hd_yX11_isShelf.2 ⟨Nat.le_of_ble_eq_true rfl, Nat.le_of_ble_eq_true rfl⟩) (sg_preS hA hK hP hS hZ) rfl rfl hl.1 rfl (lv_room (Nat.le_of_ble_eq_true rfl)) dX11_sitters_1 ⟨Nat.le_refl _, Nat.le_refl _⟩) hA hS (fun r_4 f_1 L_2 Q_3 H locs hq hP hS => ?_)
  obtain ⟨⟨ef9, eL9, eQ9⟩, hq, u_5⟩ := hq
  replace hs := hs.trans (spl_e u_5 rfl)
  rw [ef9, eL9, eQ9] at hP; clear ef9 eL9 eQ9
  rcases hq with ⟨rfl, hq⟩ | ⟨rfl, hq⟩
  · skip
    have hc_6 := hq
    refine lv_if_eq (tgt := 18) hx hb dX11_sitters_4 (by decide) (fun c => absurd c (by decide)) (fun c => ?_)
    refine lv_iload_n hx hb dX11_sitters_7 rfl (lv_at hl 3 rfl) ?_
    refine lv_iconst (v := 1) hx hb dX11_sitters_8 ic_1 ?_
    refine lv_icmp_lt (tgt := 18) hx hb dX11_sitters_9 (by decide) (fun c => ?_) (fun c => ?_)
    · skip
      have c_7 : x2.toInt < 1 := (by first | exact (cm_lt1 ti_1 c) | (have z := bn_lt c; have k1 : (1 : Int32).toInt = 1 := ti_1; omega))
      refine lv_iconst (v := (-1)) hx hb dX11_sitters_18 ic_m1 ?_
      have k99 : ((-1) : Int32).toInt = (-1) := ti_m1
      exact hret _ _ _ _ (-1) f L Q dX11_sitters_19 hP hS ⟨⟨hI, hF, rfl, rfl⟩, (by decide), (Eq.trans (Eq.symm (hs.trans ((if_pos rfl).trans ((if_pos c_7).trans rfl)))) hsp)⟩
    · skip
      have c_8 : 1 ≤ x2.toInt := (by first | exact (cm_nlt1 ti_1 c) | (have z := bn_nlt c; have k1 : (1 : Int32).toInt = 1 := ti_1; omega))
      replace hs := hs.trans ((if_pos rfl).trans ((if_neg (Int.not_lt.mpr c_8)).trans rfl))
      refine lv_iload_n hx hb dX11_sitters_12 rfl (lv_at hl 3 rfl) ?_
      refine lv_bipush (v := 8) hx hb dX11_sitters_13 bp_8 ?_
      refine lv_icmp_le (tgt := 20) hx hb dX11_sitters_15 (by decide) (fun c => ?_) (fun c => ?_)
      · skip
        have c_9 : x2.toInt ≤ 8 := (by first | exact (cm_le1 ti_8 c) | (have z := bn_le c; have k1 : (8 : Int32).toInt = 8 := ti_8; omega))
        refine lv_aload_n hx hb dX11_sitters_20 rfl (lv_at hl 0 rfl) ?_
        refine sl_gX_0_9_11 hx hb hts hown hK hP dX11_sitters_21 ?_
        refine lv_iload_n hx hb dX11_sitters_24 rfl (lv_at hl 1 rfl) ?_
        obtain ⟨t_11, et_11⟩ : ∃ z : Nat, z = x0.toNatClampNeg := ⟨_, rfl⟩
        have ht_t_11 : t_11 < 6 := by rw [et_11]; exact bn_kI (by omega) (by omega)
        refine sg_aald hx hb hK hP 39 (by decide) 3 rfl rfl (i := x0) (a := (h (40 + 2 * t_11))) (vp_in_iff.mpr ⟨by omega, by omega⟩) (show (if x0.toNatClampNeg < 6 then some (h (40 + 2 * x0.toNatClampNeg)) else none) = some (h (40 + 2 * t_11)) from by rw [← et_11, if_pos ht_t_11]) dX11_sitters_25 ?_
        refine lv_astore (lv' := [(4, .ref (h (40 + 2 * t_11))), (0, .ref (h 0)), (1, .int x0), (2, .int x1), (3, .int x2)]) hx hb dX11_sitters_26 hl (by decide) rfl (fun ls hl => ?_)
        refine lv_aload hx hb dX11_sitters_28 (lv_at hl 0 rfl) ?_
        refine sg_get (ci := 7) (v := .int (f (40 + 2 * t_11) 1)) (C := RX7) (T := TX7) (N := 4) hx hb hts (fun w h => List.mem_cons_of_mem _ (gx_7 w h)) hown hK hP (40 + 2 * t_11) (by have := ht_t_11; omega) (eX_sh ca h ht_t_11 _ _ _) rfl 1 (by decide) (hts _ (List.mem_cons_of_mem _ mw_42)) (fun _ h9 => h9) rfl dX11_sitters_30 ?_
        refine lv_topi (fun v_12 ev_12 => ?_)
        replace hs := hs.trans ((if_neg (Int.not_lt.mpr c_9)).trans (spl_e et_11 (spl_e ev_12 rfl)))
        have q_13 : (-2) ≤ v_12.toInt ∧ v_12.toInt ≤ 4 := by rw [ev_12]; exact shb_1 hI ht_t_11
        refine lv_iconst (v := (-1)) hx hb dX11_sitters_33 ic_m1 ?_
        refine lv_icmp_ne (tgt := 39) hx hb dX11_sitters_34 (by decide) (fun c => ?_) (fun c => ?_)
        · skip
          have c_14 : v_12.toInt ≠ (-1) := (by first | exact (cm_ne1 ti_m1 c) | (have z := bn_ne c; have k1 : ((-1) : Int32).toInt = (-1) := ti_m1; omega))
          replace hs := hs.trans ((if_neg c_14).trans rfl)
          refine lv_aload hx hb dX11_sitters_39 (lv_at hl 0 rfl) ?_
          refine sg_get (ci := 7) (v := .int v_12) (C := RX7) (T := TX7) (N := 4) hx hb hts (fun w h => List.mem_cons_of_mem _ (gx_7 w h)) hown hK hP (40 + 2 * t_11) (by have := ht_t_11; omega) (eX_sh ca h ht_t_11 _ _ _) rfl 1 (by decide) (hts _ (List.mem_cons_of_mem _ mw_42)) (fun _ h9 => h9) (congrArg (fun z => some (Value.int z)) (show f (40 + 2 * t_11) 1 = v_12 from ev_12.symm)) dX11_sitters_41 ?_
          refine lv_if_ne (tgt := 58) hx hb dX11_sitters_44 (by decide) (fun c => ?_) (fun c => ?_)
          · skip
            have c_16 : v_12.toInt ≠ 0 := (by first | exact (cm_ne1 ti_0 c) | (have z := bn_ne c; have k1 : (0 : Int32).toInt = 0 := ti_0; omega))
            refine lv_bipush (v := (-12)) hx hb dX11_sitters_58 bp_m12 ?_
            have k99 : ((-12) : Int32).toInt = (-12) := ti_m12
            exact hret _ _ _ _ (-12) f L Q dX11_sitters_60 hP hS ⟨⟨hI, hF, rfl, rfl⟩, (by decide), (Eq.trans (Eq.symm (hs.trans ((if_neg c_16).trans rfl))) hsp)⟩
          · skip
            have c_17 : v_12.toInt = 0 := (by first | exact (cm_eq1 ti_0 c) | (have z := Int32.toInt_inj.mpr c; have k1 : (0 : Int32).toInt = 0 := ti_0; omega))
            refine lv_aload_n hx hb dX11_sitters_47 rfl (lv_at hl 1 rfl) ?_
            refine lv_aload hx hb dX11_sitters_48 (lv_at hl 0 rfl) ?_
            refine lv_iload_n hx hb dX11_sitters_50 rfl (lv_at hl 3 rfl) ?_
            refine lv_iload_n hx hb dX11_sitters_51 rfl (lv_at hl 4 rfl) ?_
            refine sg_calli (va_runV (As := [.ref (h (40 + 2 * t_11)), .int x1, .int x2]) (rest := []) ⟨hx, hb, hml, hown, hts⟩ (kX11_fromRow l D ca za h hh f L Q hI t_11 ht_t_11 x1 x2 ⟨by omega, by omega⟩ H.size) (sl_c11_fromRow_3_0_0_73_11 hts ⟨Nat.le_of_ble_eq_true rfl, Nat.le_of_ble_eq_true rfl⟩) (sl_vX_0 hA hK hP hS hZ) rfl rfl hl.1 rfl (lv_room (Nat.le_of_ble_eq_true rfl)) dX11_sitters_52 ⟨Nat.le_refl _, Nat.le_refl _⟩) hA hS (fun r_21 f_18 L_19 Q_20 H locs hq hP hS => ?_)
            obtain ⟨⟨hI, hk_f_18, eL9, eQ9⟩, hq, u_22⟩ := hq
            rw [eL9, eQ9] at hP; clear eL9 eQ9
            have hF : sgK WkX11_sitters f f_18 := sgK.tr hF hk_f_18 (by decide +kernel)
            refine lv_goto (tgt := 60) hx hb dX11_sitters_55 (by decide) ?_
            exact hret _ _ _ _ (r_21) f_18 L Q dX11_sitters_60 hP hS ⟨⟨hI, hF, rfl, rfl⟩, ⟨by omega, by omega⟩, (Eq.trans (Eq.symm (hs.trans ((if_pos c_17).trans (spl2_e u_22 rfl)))) hsp)⟩
        · skip
          have c_15 : v_12.toInt = (-1) := (by first | exact (cm_eq1 ti_m1 c) | (have z := Int32.toInt_inj.mpr c; have k1 : ((-1) : Int32).toInt = (-1) := ti_m1; omega))
          refine lv_iconst (v := 0) hx hb dX11_sitters_37 ic_0 ?_
          have k99 : (0 : Int32).toInt = 0 := ti_0
          exact hret _ _ _ _ (0) f L Q dX11_sitters_38 hP hS ⟨⟨hI, hF, rfl, rfl⟩, (by decide), (Eq.trans (Eq.symm (hs.trans ((if_pos c_15).trans rfl))) hsp)⟩
      · skip
        have c_10 : 8 < x2.toInt := (by first | exact (cm_nle1 ti_8 c) | (have z := bn_nle c; have k1 : (8 : Int32).toInt = 8 := ti_8; omega))
        refine lv_iconst (v := (-1)) hx hb dX11_sitters_18 ic_m1 ?_
        have k99 : ((-1) : Int32).toInt = (-1) := ti_m1
        exact hret _ _ _ _ (-1) f L Q dX11_sitters_19 hP hS ⟨⟨hI, hF, rfl, rfl⟩, (by decide), (Eq.trans (Eq.symm (hs.trans ((if_pos c_10).trans rfl))) hsp)⟩
  · skip
    have hc_6 := hq
    refine lv_if_eq (tgt := 18) hx hb dX11_sitters_4 (by decide) (fun c => ?_) (fun c => absurd c (by decide))
    refine lv_iconst (v := (-1)) hx hb dX11_sitters_18 ic_m1 ?_
    have k99 : ((-1) : Int32).toInt = (-1) := ti_m1
    exact hret _ _ _ _ (-1) f L Q dX11_sitters_19 hP hS ⟨⟨hI, hF, rfl, rfl⟩, (by decide), (Eq.trans (Eq.symm (hs.trans ((if_neg (by decide)).trans rfl))) hsp)⟩

set_option maxHeartbeats 4000000 in
set_option maxRecDepth 100000 in
theorem kX0_placeOf (l : Launch) (D : va_G) (ca : Nat → ClassId) (za h : Nat → Nat) (hh : sgH 52 h) (f : sg_F) (L : sg_L) (Q : sg_Q) (hI : sgI loX hiX f) (x0 : Int32) (x1 : Int32) (sz : Nat) : Met l yX0_placeOf gwX0_placeOf { frames := 0, cells := 0, slots := 0, locals := 0 } (sgP D vwCl (tyX ca) 52 h (eX ca h) zcX za f L Q sz [.ref (h 1), .int x0, .int x1]) (sgQi D vwCl 52 h (eX ca h) sz (fun r f1 L1 Q1 => ((f1 = f ∧ L1 = L ∧ Q1 = Q) ∧ ((-1) ≤ r.toInt ∧ r.toInt ≤ 70) ∧ (x1.toInt ≠ 10 ∨ r.toInt = 70 ∨ r.toInt = -1) ∧ (r) = sX0_placeOf x0 x1 f L))) 0 0 (sgA 52 h sz) := by
  refine sg_ofWi (cc := cX0_placeOf) (maxL := 3) RX0 (by decide) rfl rfl (Nat.le_of_ble_eq_true rfl) ?_
  intro p e s m below meth cd Qz ls hx hb hml hown hts hK hZ hP hS hl hret
  have hA := sgY.self (n := 52) (h := h) (sz := s.heap.size)
  have hl : lv_has ls 3 [(0, .ref (h 1)), (1, .int x0), (2, .int x1)] := hl
  obtain ⟨H, hH⟩ : ∃ z : Heap, z = s.heap := ⟨_, rfl⟩
  obtain ⟨locs, hlo⟩ : ∃ z : List Loc, z = [] := ⟨_, rfl⟩
  have hP : va_P D vwCl (sgw 52 h (eX ca h) f L Q) H := by rw [hH]; exact hP
  have hS : va_S (sgA 52 h s.heap.size) s.heap H locs := by rw [hH, hlo]; exact hS
  suffices hgo : W p l e ({ frames := 0, cells := 0, slots := 0, locals := 0 }) s m ([.ref (h 1), .int x0, .int x1] : List Value).toArray below meth cd H locs 0 0 Qz (F0 m 0 ls []) by rw [hH, hlo] at hgo; exact hgo
  clear hH hlo
  obtain ⟨sp, hsp⟩ : ∃ z : Int32, z = sX0_placeOf x0 x1 f L := ⟨_, rfl⟩
  have hs : sp = sX0_placeOf x0 x1 f L := hsp
  refine lv_iload_n hx hb dX0_placeOf_0 rfl (lv_at hl 1 rfl) ?_
  refine lv_if_lt (tgt := 14) hx hb dX0_placeOf_1 (by decide) (fun c => ?_) (fun c => ?_)
  · skip
    have c_1 : x0.toInt < 0 := (by first | exact (cm_lt1 ti_0 c) | (have z := bn_lt c; have k1 : (0 : Int32).toInt = 0 := ti_0; omega))
    refine lv_iconst (v := (-1)) hx hb dX0_placeOf_14 ic_m1 ?_
    have k99 : ((-1) : Int32).toInt = (-1) := ti_m1
    exact hret _ _ _ _ (-1) f L Q dX0_placeOf_15 hP hS ⟨⟨rfl, rfl, rfl⟩, (by decide), (by omega), (Eq.trans (Eq.symm (hs.trans (((if_pos c_1).trans rfl)))) hsp)⟩
  · skip
    have c_2 : 0 ≤ x0.toInt := (by first | exact (cm_nlt1 ti_0 c) | (have z := bn_nlt c; have k1 : (0 : Int32).toInt = 0 := ti_0; omega))
    replace hs := hs.trans ((if_neg (Int.not_lt.mpr c_2)).trans rfl)
    refine lv_iload_n hx hb dX0_placeOf_4 rfl (lv_at hl 2 rfl) ?_
    refine lv_if_lt (tgt := 14) hx hb dX0_placeOf_5 (by decide) (fun c => ?_) (fun c => ?_)
    · skip
      have c_3 : x1.toInt < 0 := (by first | exact (cm_lt1 ti_0 c) | (have z := bn_lt c; have k1 : (0 : Int32).toInt = 0 := ti_0; omega))
      refine lv_iconst (v := (-1)) hx hb dX0_placeOf_14 ic_m1 ?_
      have k99 : ((-1) : Int32).toInt = (-1) := ti_m1
      exact hret _ _ _ _ (-1) f L Q dX0_placeOf_15 hP hS ⟨⟨rfl, rfl, rfl⟩, (by decide), (by omega), (Eq.trans (Eq.symm (hs.trans ((if_pos c_3).trans rfl))) hsp)⟩
    · skip
      have c_4 : 0 ≤ x1.toInt := (by first | exact (cm_nlt1 ti_0 c) | (have z := bn_nlt c; have k1 : (0 : Int32).toInt = 0 := ti_0; omega))
      replace hs := hs.trans ((if_neg (Int.not_lt.mpr c_4)).trans rfl)
      refine lv_iload_n hx hb dX0_placeOf_8 rfl (lv_at hl 2 rfl) ?_
      refine lv_bipush (v := 10) hx hb dX0_placeOf_9 bp_10 ?_
      refine lv_icmp_le (tgt := 16) hx hb dX0_placeOf_11 (by decide) (fun c => ?_) (fun c => ?_)
      · skip
        have c_5 : x1.toInt ≤ 10 := (by first | exact (cm_le1 ti_10 c) | (have z := bn_le c; have k1 : (10 : Int32).toInt = 10 := ti_10; omega))
        replace hs := hs.trans ((if_neg (Int.not_lt.mpr c_5)).trans rfl)
        refine lv_iload_n hx hb dX0_placeOf_16 rfl (lv_at hl 2 rfl) ?_
        refine lv_bipush (v := 8) hx hb dX0_placeOf_17 bp_8 ?_
        refine lv_icmp_ge (tgt := 41) hx hb dX0_placeOf_19 (by decide) (fun c => ?_) (fun c => ?_)
        · skip
          have c_7 : 8 ≤ x1.toInt := (by first | exact (cm_le0 ti_8 c) | (have z := bn_le c; have k1 : (8 : Int32).toInt = 8 := ti_8; omega))
          replace hs := hs.trans ((if_neg (Int.not_lt.mpr c_7)).trans rfl)
          refine lv_iload_n hx hb dX0_placeOf_41 rfl (lv_at hl 2 rfl) ?_
          refine lv_bipush (v := 10) hx hb dX0_placeOf_42 bp_10 ?_
          refine lv_icmp_ne (tgt := 58) hx hb dX0_placeOf_44 (by decide) (fun c => ?_) (fun c => ?_)
          · skip
            have c_9 : x1.toInt ≠ 10 := (by first | exact (cm_ne1 ti_10 c) | (have z := bn_ne c; have k1 : (10 : Int32).toInt = 10 := ti_10; omega))
            replace hs := hs.trans ((if_neg c_9).trans rfl)
            refine lv_iload_n hx hb dX0_placeOf_58 rfl (lv_at hl 1 rfl) ?_
            refine lv_iconst (v := 3) hx hb dX0_placeOf_59 ic_3 ?_
            refine lv_icmp_lt (tgt := 65) hx hb dX0_placeOf_60 (by decide) (fun c => ?_) (fun c => ?_)
            · skip
              have c_11 : x0.toInt < 3 := (by first | exact (cm_lt1 ti_3 c) | (have z := bn_lt c; have k1 : (3 : Int32).toInt = 3 := ti_3; omega))
              replace hs := hs.trans ((if_pos c_11).trans rfl)
              refine lv_iload_n hx hb dX0_placeOf_65 rfl (lv_at hl 2 rfl) ?_
              refine lv_bipush (v := 9) hx hb dX0_placeOf_66 bp_9 ?_
              refine lv_icmp_ne (tgt := 76) hx hb dX0_placeOf_68 (by decide) (fun c => ?_) (fun c => ?_)
              · skip
                have c_13 : x1.toInt ≠ 9 := (by first | exact (cm_ne1 ti_9 c) | (have z := bn_ne c; have k1 : (9 : Int32).toInt = 9 := ti_9; omega))
                refine lv_bipush (v := 64) hx hb dX0_placeOf_76 bp_64 ?_
                refine lv_iload_n hx hb dX0_placeOf_78 rfl (lv_at hl 1 rfl) ?_
                refine lv_iadd hx hb dX0_placeOf_79 ?_
                refine lv_topi (fun v_15 ev_15 => ?_)
                have q_16 : v_15.toInt = 64 + x0.toInt := by rw [ev_15]; have k0 : (64 : Int32).toInt = 64 := ti_64; exact (bn_addI (by omega) (by omega)).trans (by omega)
                exact hret _ _ _ _ (v_15) f L Q dX0_placeOf_80 hP hS ⟨⟨rfl, rfl, rfl⟩, ⟨by omega, by omega⟩, (by omega), (Eq.trans (Eq.symm (hs.trans ((if_neg c_13).trans (spl_e ev_15 rfl)))) hsp)⟩
              · skip
                have c_14 : x1.toInt = 9 := (by first | exact (cm_eq1 ti_9 c) | (have z := Int32.toInt_inj.mpr c; have k1 : (9 : Int32).toInt = 9 := ti_9; omega))
                refine lv_bipush (v := 67) hx hb dX0_placeOf_71 bp_67 ?_
                refine lv_goto (tgt := 78) hx hb dX0_placeOf_73 (by decide) ?_
                refine lv_iload_n hx hb dX0_placeOf_78 rfl (lv_at hl 1 rfl) ?_
                refine lv_iadd hx hb dX0_placeOf_79 ?_
                refine lv_topi (fun v_17 ev_17 => ?_)
                have q_18 : v_17.toInt = 67 + x0.toInt := by rw [ev_17]; have k0 : (67 : Int32).toInt = 67 := ti_67; exact (bn_addI (by omega) (by omega)).trans (by omega)
                exact hret _ _ _ _ (v_17) f L Q dX0_placeOf_80 hP hS ⟨⟨rfl, rfl, rfl⟩, ⟨by omega, by omega⟩, (by omega), (Eq.trans (Eq.symm (hs.trans ((if_pos c_14).trans (spl_e ev_17 rfl)))) hsp)⟩
            · skip
              have c_12 : 3 ≤ x0.toInt := (by first | exact (cm_nlt1 ti_3 c) | (have z := bn_nlt c; have k1 : (3 : Int32).toInt = 3 := ti_3; omega))
              refine lv_iconst (v := (-1)) hx hb dX0_placeOf_63 ic_m1 ?_
              have k99 : ((-1) : Int32).toInt = (-1) := ti_m1
              exact hret _ _ _ _ (-1) f L Q dX0_placeOf_64 hP hS ⟨⟨rfl, rfl, rfl⟩, (by decide), (by omega), (Eq.trans (Eq.symm (hs.trans ((if_neg (Int.not_lt.mpr c_12)).trans rfl))) hsp)⟩
          · skip
            have c_10 : x1.toInt = 10 := (by first | exact (cm_eq1 ti_10 c) | (have z := Int32.toInt_inj.mpr c; have k1 : (10 : Int32).toInt = 10 := ti_10; omega))
            replace hs := hs.trans ((if_pos c_10).trans rfl)
            refine lv_iload_n hx hb dX0_placeOf_47 rfl (lv_at hl 1 rfl) ?_
            refine lv_if_ne (tgt := 56) hx hb dX0_placeOf_48 (by decide) (fun c => ?_) (fun c => ?_)
            · skip
              have c_19 : x0.toInt ≠ 0 := (by first | exact (cm_ne1 ti_0 c) | (have z := bn_ne c; have k1 : (0 : Int32).toInt = 0 := ti_0; omega))
              refine lv_iconst (v := (-1)) hx hb dX0_placeOf_56 ic_m1 ?_
              have k99 : ((-1) : Int32).toInt = (-1) := ti_m1
              exact hret _ _ _ _ (-1) f L Q dX0_placeOf_57 hP hS ⟨⟨rfl, rfl, rfl⟩, (by decide), (by omega), (Eq.trans (Eq.symm (hs.trans ((if_neg c_19).trans rfl))) hsp)⟩
            · skip
              have c_20 : x0.toInt = 0 := (by first | exact (cm_eq1 ti_0 c) | (have z := Int32.toInt_inj.mpr c; have k1 : (0 : Int32).toInt = 0 := ti_0; omega))
              refine lv_bipush (v := 70) hx hb dX0_placeOf_51 bp_70 ?_
              refine lv_goto (tgt := 57) hx hb dX0_placeOf_53 (by decide) ?_
              have k99 : (70 : Int32).toInt = 70 := ti_70
              exact hret _ _ _ _ (70) f L Q dX0_placeOf_57 hP hS ⟨⟨rfl, rfl, rfl⟩, (by decide), (by omega), (Eq.trans (Eq.symm (hs.trans ((if_pos c_20).trans rfl))) hsp)⟩
        · skip
          have c_8 : x1.toInt < 8 := (by first | exact (cm_nle0 ti_8 c) | (have z := bn_nle c; have k1 : (8 : Int32).toInt = 8 := ti_8; omega))
          refine lv_iload_n hx hb dX0_placeOf_22 rfl (lv_at hl 1 rfl) ?_
          refine lv_aload_n hx hb dX0_placeOf_23 rfl (lv_at hl 0 rfl) ?_
          refine sl_gX_1_3_0 (v := (f 1 3)) hx hb hts hown hK hP rfl dX0_placeOf_24 ?_
          refine lv_topi (fun v_21 ev_21 => ?_)
          replace hs := hs.trans ((if_pos c_8).trans (spl_e ev_21 rfl))
          have q_22 : 0 ≤ v_21.toInt ∧ v_21.toInt ≤ 8 := by rw [ev_21]; exact hI 1 3
          refine lv_icmp_ge (tgt := 39) hx hb dX0_placeOf_27 (by decide) (fun c => ?_) (fun c => ?_)
          · skip
            have c_23 : v_21.toInt ≤ x0.toInt := (by first | exact (bn_le c) | (have z := bn_le c; omega))
            refine lv_iconst (v := (-1)) hx hb dX0_placeOf_39 ic_m1 ?_
            have k99 : ((-1) : Int32).toInt = (-1) := ti_m1
            exact hret _ _ _ _ (-1) f L Q dX0_placeOf_40 hP hS ⟨⟨rfl, rfl, rfl⟩, (by decide), (by omega), (Eq.trans (Eq.symm (hs.trans ((if_neg (Int.not_lt.mpr c_23)).trans rfl))) hsp)⟩
          · skip
            have c_24 : x0.toInt < v_21.toInt := (by first | exact (bn_nle c) | (have z := bn_nle c; omega))
            refine lv_iload_n hx hb dX0_placeOf_30 rfl (lv_at hl 1 rfl) ?_
            refine lv_bipush (v := 8) hx hb dX0_placeOf_31 bp_8 ?_
            refine lv_imul hx hb dX0_placeOf_33 ?_
            refine lv_topi (fun v_25 ev_25 => ?_)
            have q_26 : v_25.toInt = x0.toInt * 8 := by rw [ev_25]; exact bn_mulI (by decide) (by omega) (by omega)
            refine lv_iload_n hx hb dX0_placeOf_34 rfl (lv_at hl 2 rfl) ?_
            refine lv_iadd hx hb dX0_placeOf_35 ?_
            refine lv_topi (fun v_27 ev_27 => ?_)
            have q_28 : v_27.toInt = v_25.toInt + x1.toInt := by rw [ev_27]; first | exact bn_addI (by omega) (by omega) | exact (bn_addI (by omega) (by omega)).trans (by omega)
            refine lv_goto (tgt := 40) hx hb dX0_placeOf_36 (by decide) ?_
            exact hret _ _ _ _ (v_27) f L Q dX0_placeOf_40 hP hS ⟨⟨rfl, rfl, rfl⟩, ⟨by omega, by omega⟩, (by omega), (Eq.trans (Eq.symm (hs.trans ((if_pos c_24).trans (spl_e ev_25 (spl_e ev_27 rfl))))) hsp)⟩
      · skip
        have c_6 : 10 < x1.toInt := (by first | exact (cm_nle1 ti_10 c) | (have z := bn_nle c; have k1 : (10 : Int32).toInt = 10 := ti_10; omega))
        refine lv_iconst (v := (-1)) hx hb dX0_placeOf_14 ic_m1 ?_
        have k99 : ((-1) : Int32).toInt = (-1) := ti_m1
        exact hret _ _ _ _ (-1) f L Q dX0_placeOf_15 hP hS ⟨⟨rfl, rfl, rfl⟩, (by decide), (by omega), (Eq.trans (Eq.symm (hs.trans ((if_pos c_6).trans rfl))) hsp)⟩

abbrev WkX1_dropOldest : List (Nat × Nat × Option Nat) := [(32, 32, some 3), (33, 33, none), (34, 34, none), (35, 35, none)]
set_option maxHeartbeats 4000000 in
set_option maxRecDepth 100000 in
theorem kX1_dropOldest (l : Launch) (D : va_G) (ca : Nat → ClassId) (za h : Nat → Nat) (hh : sgH 52 h) (f : sg_F) (L : sg_L) (Q : sg_Q) (hI : sgI loX hiX f) (hJ : JX f) (p0 : 40 ≤ (f 32 3).toInt ∧ (f 32 3).toInt ≤ 40) (sz : Nat) : Met l yX1_dropOldest gwX1_dropOldest { frames := 1, cells := 0, slots := 0, locals := 64 } (sgP D vwCl (tyX ca) 52 h (eX ca h) zcX za f L Q sz [.ref (h 32)]) (sgQv D vwCl 52 h (eX ca h) sz (fun f1 L1 Q1 => ((sgI loX hiX f1 ∧ sgK WkX1_dropOldest f f1 ∧ L1 = L ∧ Q1 = Q ∧ JX f1) ∧ (39 ≤ (f1 32 3).toInt ∧ (f1 32 3).toInt ≤ 39) ∧ (f1) = sX1_dropOldest f L))) 0 0 (sgA 52 h sz) := by
  refine sg_ofWv (cc := cX1_dropOldest) (maxL := 1) RX1 (by decide) rfl rfl (Nat.le_of_ble_eq_true rfl) ?_
  intro p e s m below meth cd Qz ls hx hb hml hown hts hK hZ hP hS hl hret
  have hA := sgY.self (n := 52) (h := h) (sz := s.heap.size)
  have hl : lv_has ls 1 [(0, .ref (h 32))] := hl
  obtain ⟨H, hH⟩ : ∃ z : Heap, z = s.heap := ⟨_, rfl⟩
  obtain ⟨locs, hlo⟩ : ∃ z : List Loc, z = [] := ⟨_, rfl⟩
  have hP : va_P D vwCl (sgw 52 h (eX ca h) f L Q) H := by rw [hH]; exact hP
  have hS : va_S (sgA 52 h s.heap.size) s.heap H locs := by rw [hH, hlo]; exact hS
  suffices hgo : W p l e ({ frames := 1, cells := 0, slots := 0, locals := 64 }) s m ([.ref (h 32)] : List Value).toArray below meth cd H locs 0 0 Qz (F0 m 0 ls []) by rw [hH, hlo] at hgo; exact hgo
  clear hH hlo
  obtain ⟨sp, hsp⟩ : ∃ z : sg_F, z = sX1_dropOldest f L := ⟨_, rfl⟩
  have hs : sp = sX1_dropOldest f L := hsp
  obtain ⟨v_1, ev_1⟩ : ∃ z : Int32, z = f 32 3 := ⟨_, rfl⟩
  have q_2 : 0 ≤ v_1.toInt ∧ v_1.toInt ≤ 40 := by rw [ev_1]; exact hI 32 3
  have o_3 : (f 32 3).toInt = v_1.toInt := (congrArg Int32.toInt (show f 32 3 = v_1 from ev_1.symm))
  have hF : sgK WkX1_dropOldest f f := sgK.rf
  refine lv_aload_n hx hb dX1_dropOldest_0 rfl (lv_at hl 0 rfl) ?_
  refine sl_gX_32_0_1 hx hb hts hown hK hP dX1_dropOldest_1 ?_
  refine lv_iconst (v := 1) hx hb dX1_dropOldest_4 ic_1 ?_
  refine lv_aload_n hx hb dX1_dropOldest_5 rfl (lv_at hl 0 rfl) ?_
  refine sl_gX_32_0_1 hx hb hts hown hK hP dX1_dropOldest_6 ?_
  refine lv_iconst (v := 0) hx hb dX1_dropOldest_9 ic_0 ?_
  refine lv_bipush (v := 39) hx hb dX1_dropOldest_10 bp_39 ?_
  refine sg_copyi hx hb (hml.trans hl.1.symm) hown (hts _ (List.mem_cons_of_mem _ mw_567)) (hts _ (List.mem_cons_of_mem _ mw_22)) (hts _ (List.mem_cons_of_mem _ mw_23)) (hts _ (List.mem_cons_of_mem _ mw_24)) hh hA hK hP hS 33 33 (by decide) (by decide) 0 0 rfl (fun _ => rfl) rfl rfl (sp := 1) (dp := 0) (nn := 39) (by decide) (by decide) (by decide) (by decide) (by decide) (Nat.le_of_ble_eq_true rfl) (Nat.le_of_ble_eq_true rfl) dX1_dropOldest_12 (fun f_4 H locs ef_4 hP hS => ?_)
  have hI : sgI loX hiX f_4 := by rw [ef_4]; exact sgI.cpy hI 33 33 (fun _ _ => ⟨by show (0 : Int) ≤ 0; decide, by show (70 : Int) ≤ 70; decide⟩)
  have hF : sgK WkX1_dropOldest f f_4 := sgK.row hF ef_4 (fun _ => by rfl)
  refine lv_aload_n hx hb dX1_dropOldest_15 rfl (lv_at hl 0 rfl) ?_
  refine sl_gX_32_1_1 hx hb hts hown hK hP dX1_dropOldest_16 ?_
  refine lv_iconst (v := 1) hx hb dX1_dropOldest_19 ic_1 ?_
  refine lv_aload_n hx hb dX1_dropOldest_20 rfl (lv_at hl 0 rfl) ?_
  refine sl_gX_32_1_1 hx hb hts hown hK hP dX1_dropOldest_21 ?_
  refine lv_iconst (v := 0) hx hb dX1_dropOldest_24 ic_0 ?_
  refine lv_bipush (v := 39) hx hb dX1_dropOldest_25 bp_39 ?_
  refine sg_copyi hx hb (hml.trans hl.1.symm) hown (hts _ (List.mem_cons_of_mem _ mw_567)) (hts _ (List.mem_cons_of_mem _ mw_22)) (hts _ (List.mem_cons_of_mem _ mw_23)) (hts _ (List.mem_cons_of_mem _ mw_24)) hh hA hK hP hS 34 34 (by decide) (by decide) 0 0 rfl (fun _ => rfl) rfl rfl (sp := 1) (dp := 0) (nn := 39) (by decide) (by decide) (by decide) (by decide) (by decide) (Nat.le_of_ble_eq_true rfl) (Nat.le_of_ble_eq_true rfl) dX1_dropOldest_27 (fun f_5 H locs ef_5 hP hS => ?_)
  have hI : sgI loX hiX f_5 := by rw [ef_5]; exact sgI.cpy hI 34 34 (fun _ _ => ⟨by show (0 : Int) ≤ 0; decide, by show (99 : Int) ≤ 99; decide⟩)
  have hF : sgK WkX1_dropOldest f f_5 := sgK.row hF ef_5 (fun _ => by rfl)
  refine lv_aload_n hx hb dX1_dropOldest_30 rfl (lv_at hl 0 rfl) ?_
  refine sl_gX_32_2_1 hx hb hts hown hK hP dX1_dropOldest_31 ?_
  refine lv_iconst (v := 1) hx hb dX1_dropOldest_34 ic_1 ?_
  refine lv_aload_n hx hb dX1_dropOldest_35 rfl (lv_at hl 0 rfl) ?_
  refine sl_gX_32_2_1 hx hb hts hown hK hP dX1_dropOldest_36 ?_
  refine lv_iconst (v := 0) hx hb dX1_dropOldest_39 ic_0 ?_
  refine lv_bipush (v := 39) hx hb dX1_dropOldest_40 bp_39 ?_
  refine sg_copyi hx hb (hml.trans hl.1.symm) hown (hts _ (List.mem_cons_of_mem _ mw_567)) (hts _ (List.mem_cons_of_mem _ mw_22)) (hts _ (List.mem_cons_of_mem _ mw_23)) (hts _ (List.mem_cons_of_mem _ mw_24)) hh hA hK hP hS 35 35 (by decide) (by decide) 0 0 rfl (fun _ => rfl) rfl rfl (sp := 1) (dp := 0) (nn := 39) (by decide) (by decide) (by decide) (by decide) (by decide) (Nat.le_of_ble_eq_true rfl) (Nat.le_of_ble_eq_true rfl) dX1_dropOldest_42 (fun f_6 H locs ef_6 hP hS => ?_)
  have hI : sgI loX hiX f_6 := by rw [ef_6]; exact sgI.cpy hI 35 35 (fun _ _ => ⟨by show (0 : Int) ≤ 0; decide, by show (99 : Int) ≤ 99; decide⟩)
  have hJ : JX f_6 := JX.drop hJ ef_4 ef_5 ef_6
  have hF : sgK WkX1_dropOldest f f_6 := sgK.row hF ef_6 (fun _ => by rfl)
  refine lv_aload_n hx hb dX1_dropOldest_45 rfl (lv_at hl 0 rfl) ?_
  refine lv_dup hx hb dX1_dropOldest_46 rfl ?_
  refine sl_gX_32_3_1 (v := v_1) hx hb hts hown hK hP (show f_6 32 3 = v_1 from (by rw [ef_6, sg_up_n (by decide)]; exact (by rw [ef_5, sg_up_n (by decide)]; exact (by rw [ef_4, sg_up_n (by decide)]; exact ev_1.symm)))) dX1_dropOldest_47 ?_
  refine lv_iconst (v := 1) hx hb dX1_dropOldest_50 ic_1 ?_
  refine lv_isub hx hb dX1_dropOldest_51 ?_
  refine lv_topi (fun v_7 ev_7 => ?_)
  have q_8 : v_7.toInt = v_1.toInt - 1 := by rw [ev_7]; first | exact cm_sub ti_1 (by omega) (by omega) | (have k1 : (1 : Int32).toInt = 1 := ti_1; exact (bn_subI (by omega) (by omega)).trans (by omega))
  refine sl_pX_32_3_1 (x := v_7) hx hb hts hown hh hA hK hP hS dX1_dropOldest_52 (fun f_9 H locs ef_9 hP hS => ?_)
  have hI : sgI loX hiX f_9 := by rw [ef_9]; exact sgI.put hI 32 3 (show 0 ≤ (v_7 : Int32).toInt ∧ (v_7 : Int32).toInt ≤ 40 from ⟨by omega, by omega⟩)
  have hJ : JX f_9 := JX.put hJ ef_9 (by decide)
  have hF : sgK WkX1_dropOldest f f_9 := sgK.put hF ef_9 (by rfl)
  have q_10 : (f_9 32 3).toInt = v_7.toInt := (congrArg Int32.toInt (show f_9 32 3 = v_7 from (by rw [ef_9, sg_up_s, sgu_s])))
  exact hret _ _ _ _ f_9 L Q dX1_dropOldest_55 hP hS ⟨⟨hI, hF, rfl, rfl, hJ⟩, ⟨by omega, by omega⟩, (Eq.trans (Eq.symm (hs.trans ((spl_e ev_1 (spl_e ef_4 (spl_e ef_5 (spl_e ef_6 (spl_e ev_7 (spl_e ef_9 rfl))))))))) hsp)⟩

abbrev WkX1_comes : List (Nat × Nat × Option Nat) := [(32, 32, some 3), (32, 32, some 4), (33, 33, none), (34, 34, none), (35, 35, none)]
set_option maxHeartbeats 4000000 in
set_option maxRecDepth 100000 in
theorem kX1_comes (l : Launch) (D : va_G) (ca : Nat → ClassId) (za h : Nat → Nat) (hh : sgH 52 h) (f : sg_F) (L : sg_L) (Q : sg_Q) (hI : sgI loX hiX f) (hJ : JX f) (x0 : Int32) (x1 : Int32) (x2 : Int32) (b0 : 0 ≤ x0.toInt ∧ x0.toInt ≤ 70) (b1 : 0 ≤ x1.toInt ∧ x1.toInt ≤ 99) (b2 : 0 ≤ x2.toInt ∧ x2.toInt ≤ 99) (p0 : 64 ≤ x0.toInt ∨ (x1.toInt ≤ 60 ∧ x2.toInt ≤ 60)) (sz : Nat) : Met l yX1_comes gwX1_comes { frames := 2, cells := 0, slots := 0, locals := 84 } (sgP D vwCl (tyX ca) 52 h (eX ca h) zcX za f L Q sz [.ref (h 32), .int x0, .int x1, .int x2]) (sgQv D vwCl 52 h (eX ca h) sz (fun f1 L1 Q1 => ((sgI loX hiX f1 ∧ sgK WkX1_comes f f1 ∧ L1 = L ∧ Q1 = Q ∧ JX f1) ∧ (f1) = sX1_comes x0 x1 x2 f L))) 0 0 (sgA 52 h sz) := by
  refine sg_ofWv (cc := cX1_comes) (maxL := 4) RX1 (by decide) rfl rfl (Nat.le_of_ble_eq_true rfl) ?_
  intro p e s m below meth cd Qz ls hx hb hml hown hts hK hZ hP hS hl hret
  have hA := sgY.self (n := 52) (h := h) (sz := s.heap.size)
  have hl : lv_has ls 4 [(0, .ref (h 32)), (1, .int x0), (2, .int x1), (3, .int x2)] := hl
  obtain ⟨H, hH⟩ : ∃ z : Heap, z = s.heap := ⟨_, rfl⟩
  obtain ⟨locs, hlo⟩ : ∃ z : List Loc, z = [] := ⟨_, rfl⟩
  have hP : va_P D vwCl (sgw 52 h (eX ca h) f L Q) H := by rw [hH]; exact hP
  have hS : va_S (sgA 52 h s.heap.size) s.heap H locs := by rw [hH, hlo]; exact hS
  suffices hgo : W p l e ({ frames := 2, cells := 0, slots := 0, locals := 84 }) s m ([.ref (h 32), .int x0, .int x1, .int x2] : List Value).toArray below meth cd H locs 0 0 Qz (F0 m 0 ls []) by rw [hH, hlo] at hgo; exact hgo
  clear hH hlo
  obtain ⟨sp, hsp⟩ : ∃ z : sg_F, z = sX1_comes x0 x1 x2 f L := ⟨_, rfl⟩
  have hs : sp = sX1_comes x0 x1 x2 f L := hsp
  have hF : sgK WkX1_comes f f := sgK.rf
  have blk_13 : ∀ (fp_13 : sg_F) (H : Heap) (locs : List Loc) (ls : Array Slot), sp = sX1_comes_b13 x0 x1 x2 fp_13 L → 0 ≤ (fp_13 32 3).toInt ∧ (fp_13 32 3).toInt ≤ 39 → sgI loX hiX fp_13 → sgK WkX1_comes f fp_13 → JX fp_13 → va_P D vwCl (sgw 52 h (eX ca h) fp_13 L Q) H → va_S (sgA 52 h s.heap.size) s.heap H locs → lv_has ls 4 [(0, .ref (h 32)), (1, .int x0), (2, .int x1), (3, .int x2)] → W p l e ({ frames := 2, cells := 0, slots := 0, locals := 84 }) s m ([.ref (h 32), .int x0, .int x1, .int x2] : List Value).toArray below meth cd H locs 0 0 Qz (F0 m 13 ls []) := by
    intro fp_13 H locs ls hs hy0_13 hI hF hJ hP hS hl
    obtain ⟨v_1, ev_1⟩ : ∃ z : Int32, z = fp_13 32 3 := ⟨_, rfl⟩
    have q_2 : 0 ≤ v_1.toInt ∧ v_1.toInt ≤ 40 := by rw [ev_1]; exact hI 32 3
    have q_3 : (fp_13 32 3).toInt = v_1.toInt := by rw [ev_1]
    refine lv_aload_n hx hb dX1_comes_13 rfl (lv_at hl 0 rfl) ?_
    refine sl_gX_32_0_1 hx hb hts hown hK hP dX1_comes_14 ?_
    refine lv_aload_n hx hb dX1_comes_17 rfl (lv_at hl 0 rfl) ?_
    refine sl_gX_32_3_1 (v := v_1) hx hb hts hown hK hP (show fp_13 32 3 = v_1 from ev_1.symm) dX1_comes_18 ?_
    refine lv_iload_n hx hb dX1_comes_21 rfl (lv_at hl 1 rfl) ?_
    refine sg_iast hx hb hh hA hK hP hS 33 (by decide) 0 (fun _ => rfl) rfl (i := v_1) (x := x0) (vp_in_iff.mpr ⟨by omega, by omega⟩) dX1_comes_22 (fun f_4 H locs ef_4 hP hS => ?_)
    have hI : sgI loX hiX f_4 := by rw [ef_4]; exact sgI.put hI 33 v_1.toNatClampNeg (show 0 ≤ (x0 : Int32).toInt ∧ (x0 : Int32).toInt ≤ 70 from b0)
    have hF : sgK WkX1_comes f f_4 := sgK.put hF ef_4 (by rfl)
    refine lv_aload_n hx hb dX1_comes_23 rfl (lv_at hl 0 rfl) ?_
    refine sl_gX_32_1_1 hx hb hts hown hK hP dX1_comes_24 ?_
    refine lv_aload_n hx hb dX1_comes_27 rfl (lv_at hl 0 rfl) ?_
    refine sl_gX_32_3_1 (v := v_1) hx hb hts hown hK hP (show f_4 32 3 = v_1 from (by rw [ef_4, sg_up_n (by decide)]; exact ev_1.symm)) dX1_comes_28 ?_
    refine lv_iload_n hx hb dX1_comes_31 rfl (lv_at hl 2 rfl) ?_
    refine sg_iast hx hb hh hA hK hP hS 34 (by decide) 0 (fun _ => rfl) rfl (i := v_1) (x := x1) (vp_in_iff.mpr ⟨by omega, by omega⟩) dX1_comes_32 (fun f_5 H locs ef_5 hP hS => ?_)
    have hI : sgI loX hiX f_5 := by rw [ef_5]; exact sgI.put hI 34 v_1.toNatClampNeg (show 0 ≤ (x1 : Int32).toInt ∧ (x1 : Int32).toInt ≤ 99 from b1)
    have hF : sgK WkX1_comes f f_5 := sgK.put hF ef_5 (by rfl)
    refine lv_aload_n hx hb dX1_comes_33 rfl (lv_at hl 0 rfl) ?_
    refine sl_gX_32_2_1 hx hb hts hown hK hP dX1_comes_34 ?_
    refine lv_aload_n hx hb dX1_comes_37 rfl (lv_at hl 0 rfl) ?_
    refine sl_gX_32_3_1 (v := v_1) hx hb hts hown hK hP (show f_5 32 3 = v_1 from (by rw [ef_5, sg_up_n (by decide)]; exact (by rw [ef_4, sg_up_n (by decide)]; exact ev_1.symm))) dX1_comes_38 ?_
    refine lv_iload_n hx hb dX1_comes_41 rfl (lv_at hl 3 rfl) ?_
    refine sg_iast hx hb hh hA hK hP hS 35 (by decide) 0 (fun _ => rfl) rfl (i := v_1) (x := x2) (vp_in_iff.mpr ⟨by omega, by omega⟩) dX1_comes_42 (fun f_6 H locs ef_6 hP hS => ?_)
    have hI : sgI loX hiX f_6 := by rw [ef_6]; exact sgI.put hI 35 v_1.toNatClampNeg (show 0 ≤ (x2 : Int32).toInt ∧ (x2 : Int32).toInt ≤ 99 from b2)
    have hJ : JX f_6 := JX.three hJ ef_4 ef_5 ef_6 (by omega)
    have hF : sgK WkX1_comes f f_6 := sgK.put hF ef_6 (by rfl)
    refine lv_aload_n hx hb dX1_comes_43 rfl (lv_at hl 0 rfl) ?_
    refine lv_dup hx hb dX1_comes_44 rfl ?_
    refine sl_gX_32_3_1 (v := v_1) hx hb hts hown hK hP (show f_6 32 3 = v_1 from (by rw [ef_6, sg_up_n (by decide)]; exact (by rw [ef_5, sg_up_n (by decide)]; exact (by rw [ef_4, sg_up_n (by decide)]; exact ev_1.symm)))) dX1_comes_45 ?_
    refine lv_iconst (v := 1) hx hb dX1_comes_48 ic_1 ?_
    refine lv_iadd hx hb dX1_comes_49 ?_
    refine lv_topi (fun v_7 ev_7 => ?_)
    have q_8 : v_7.toInt = v_1.toInt + 1 := by rw [ev_7]; first | exact cm_add ti_1 (by omega) (by omega) | (have k1 : (1 : Int32).toInt = 1 := ti_1; exact (bn_addI (by omega) (by omega)).trans (by omega))
    refine sl_pX_32_3_1 (x := v_7) hx hb hts hown hh hA hK hP hS dX1_comes_50 (fun f_9 H locs ef_9 hP hS => ?_)
    have hI : sgI loX hiX f_9 := by rw [ef_9]; exact sgI.put hI 32 3 (show 0 ≤ (v_7 : Int32).toInt ∧ (v_7 : Int32).toInt ≤ 40 from ⟨by omega, by omega⟩)
    have hJ : JX f_9 := JX.put hJ ef_9 (by decide)
    have hF : sgK WkX1_comes f f_9 := sgK.put hF ef_9 (by rfl)
    refine lv_aload_n hx hb dX1_comes_53 rfl (lv_at hl 0 rfl) ?_
    refine lv_aload_n hx hb dX1_comes_54 rfl (lv_at hl 0 rfl) ?_
    refine sl_gX_32_3_1 (v := v_7) hx hb hts hown hK hP (show f_9 32 3 = v_7 from (by rw [ef_9, sg_up_s, sgu_s])) dX1_comes_55 ?_
    refine sl_pX_32_4_1 (x := v_7) hx hb hts hown hh hA hK hP hS dX1_comes_58 (fun f_10 H locs ef_10 hP hS => ?_)
    have hI : sgI loX hiX f_10 := by rw [ef_10]; exact sgI.put hI 32 4 (show 0 ≤ (v_7 : Int32).toInt ∧ (v_7 : Int32).toInt ≤ 40 from ⟨by omega, by omega⟩)
    have hJ : JX f_10 := JX.put hJ ef_10 (by decide)
    have hF : sgK WkX1_comes f f_10 := sgK.put hF ef_10 (by rfl)
    exact hret _ _ _ _ f_10 L Q dX1_comes_61 hP hS ⟨⟨hI, hF, rfl, rfl, hJ⟩, (Eq.trans (Eq.symm (hs.trans ((spl_e ev_1 (spl_e ef_4 (spl_e ef_5 (spl_e ef_6 (spl_e ev_7 (spl_e ef_9 (spl_e ef_10 rfl)))))))))) hsp)⟩
  refine lv_aload_n hx hb dX1_comes_0 rfl (lv_at hl 0 rfl) ?_
  refine sl_gX_32_3_1 (v := (f 32 3)) hx hb hts hown hK hP rfl dX1_comes_1 ?_
  refine lv_topi (fun v_11 ev_11 => ?_)
  replace hs := hs.trans (spl_e ev_11 rfl)
  have q_12 : 0 ≤ v_11.toInt ∧ v_11.toInt ≤ 40 := by rw [ev_11]; exact hI 32 3
  refine lv_bipush (v := 40) hx hb dX1_comes_4 bp_40 ?_
  refine lv_icmp_ne (tgt := 13) hx hb dX1_comes_6 (by decide) (fun c => ?_) (fun c => ?_)
  · skip
    have c_13 : v_11.toInt ≠ 40 := (by first | exact (cm_ne1 ti_40 c) | (have z := bn_ne c; have k1 : (40 : Int32).toInt = 40 := ti_40; omega))
    exact blk_13 f _ _ _ (hs.trans ((if_neg c_13).trans rfl)) (by have zz32_3 : (f 32 3).toInt = v_11.toInt := (congrArg Int32.toInt (show f 32 3 = v_11 from ev_11.symm)); exact ⟨by omega, by omega⟩) hI hF hJ hP hS (lv_sub hl [0, 1, 2, 3] rfl)
  · skip
    have c_14 : v_11.toInt = 40 := (by first | exact (cm_eq1 ti_40 c) | (have z := Int32.toInt_inj.mpr c; have k1 : (40 : Int32).toInt = 40 := ti_40; omega))
    refine lv_aload_n hx hb dX1_comes_9 rfl (lv_at hl 0 rfl) ?_
    have q_15 : (f 32 3).toInt = v_11.toInt := (congrArg Int32.toInt (show f 32 3 = v_11 from ev_11.symm))
    refine sg_callv (va_runV (As := []) (rest := []) ⟨hx, hb, hml, hown, hts⟩ (kX1_dropOldest l D ca za h hh f L Q hI hJ (by omega) H.size) (sl_c1_dropOldest_1_0_0_64_1 hts ⟨Nat.le_of_ble_eq_true rfl, Nat.le_of_ble_eq_true rfl⟩) (sl_vX_32 hA hK hP hS hZ) rfl rfl hl.1 rfl (lv_room (Nat.le_of_ble_eq_true rfl)) dX1_comes_10 ⟨Nat.le_refl _, Nat.le_refl _⟩) hA hS (fun f_17 L_18 Q_19 H locs hq hP hS => ?_)
    obtain ⟨⟨hI, hk_f_17, eL9, eQ9, hJ⟩, p_20, u_21⟩ := hq
    rw [eL9, eQ9] at hP; clear eL9 eQ9
    have hF : sgK WkX1_comes f f_17 := sgK.tr hF hk_f_17 (by decide +kernel)
    obtain ⟨v_22, ev_22⟩ : ∃ z : Int32, z = f_17 32 3 := ⟨_, rfl⟩
    have q_23 : 0 ≤ v_22.toInt ∧ v_22.toInt ≤ 40 := by rw [ev_22]; exact hI 32 3
    have q_24 : (f_17 32 3).toInt = v_22.toInt := (congrArg Int32.toInt (show f_17 32 3 = v_22 from ev_22.symm))
    exact blk_13 f_17 _ _ _ (hs.trans ((if_pos c_14).trans (spl_e u_21 (spl_e ev_22 rfl)))) (by have zz32_3 : (f_17 32 3).toInt = v_22.toInt := (congrArg Int32.toInt (show f_17 32 3 = v_22 from ev_22.symm)); exact ⟨by omega, by omega⟩) hI hF hJ hP hS (lv_sub hl [0, 1, 2, 3] rfl)

abbrev WkX0_becomes : List (Nat × Nat × Option Nat) := [(2, 2, none), (9, 9, none)]
set_option maxHeartbeats 4000000 in
set_option maxRecDepth 100000 in
theorem kX0_becomes (l : Launch) (D : va_G) (ca : Nat → ClassId) (za h : Nat → Nat) (hh : sgH 52 h) (f : sg_F) (L : sg_L) (Q : sg_Q) (hI : sgI loX hiX f) (x0 : Int32) (x1 : Int32) (b0 : 0 ≤ x0.toInt ∧ x0.toInt ≤ 70) (b1 : 0 ≤ x1.toInt ∧ x1.toInt ≤ 99) (p0 : 64 ≤ x0.toInt ∨ x1.toInt ≤ 60) (sz : Nat) : Met l yX0_becomes gwX0_becomes { frames := 1, cells := 0, slots := 0, locals := 23 } (sgP D vwCl (tyX ca) 52 h (eX ca h) zcX za f L Q sz [.ref (h 1), .int x0, .int x1]) (sgQv D vwCl 52 h (eX ca h) sz (fun f1 L1 Q1 => ((sgI loX hiX f1 ∧ sgK WkX0_becomes f f1 ∧ L1 = L ∧ Q1 = Q) ∧ (f1) = sX0_becomes x0 x1 f L))) 0 0 (sgA 52 h sz) := by
  refine sg_ofWv (cc := cX0_becomes) (maxL := 3) RX0 (by decide) rfl rfl (Nat.le_of_ble_eq_true rfl) ?_
  intro p e s m below meth cd Qz ls hx hb hml hown hts hK hZ hP hS hl hret
  have hA := sgY.self (n := 52) (h := h) (sz := s.heap.size)
  have hl : lv_has ls 3 [(0, .ref (h 1)), (1, .int x0), (2, .int x1)] := hl
  obtain ⟨H, hH⟩ : ∃ z : Heap, z = s.heap := ⟨_, rfl⟩
  obtain ⟨locs, hlo⟩ : ∃ z : List Loc, z = [] := ⟨_, rfl⟩
  have hP : va_P D vwCl (sgw 52 h (eX ca h) f L Q) H := by rw [hH]; exact hP
  have hS : va_S (sgA 52 h s.heap.size) s.heap H locs := by rw [hH, hlo]; exact hS
  suffices hgo : W p l e ({ frames := 1, cells := 0, slots := 0, locals := 23 }) s m ([.ref (h 1), .int x0, .int x1] : List Value).toArray below meth cd H locs 0 0 Qz (F0 m 0 ls []) by rw [hH, hlo] at hgo; exact hgo
  clear hH hlo
  obtain ⟨sp, hsp⟩ : ∃ z : sg_F, z = sX0_becomes x0 x1 f L := ⟨_, rfl⟩
  have hs : sp = sX0_becomes x0 x1 f L := hsp
  have hF : sgK WkX0_becomes f f := sgK.rf
  refine lv_iload_n hx hb dX0_becomes_0 rfl (lv_at hl 1 rfl) ?_
  refine lv_if_lt (tgt := 10) hx hb dX0_becomes_1 (by decide) (fun c => ?_) (fun c => ?_)
  · skip
    exfalso; have c_1 : x0.toInt < 0 := (by first | exact (cm_lt1 ti_0 c) | (have z := bn_lt c; have k1 : (0 : Int32).toInt = 0 := ti_0; omega)); omega
  · skip
    have c_2 : 0 ≤ x0.toInt := (by first | exact (cm_nlt1 ti_0 c) | (have z := bn_nlt c; have k1 : (0 : Int32).toInt = 0 := ti_0; omega))
    refine lv_iload_n hx hb dX0_becomes_4 rfl (lv_at hl 1 rfl) ?_
    refine lv_bipush (v := 70) hx hb dX0_becomes_5 bp_70 ?_
    refine lv_icmp_le (tgt := 11) hx hb dX0_becomes_7 (by decide) (fun c => ?_) (fun c => ?_)
    · skip
      have c_3 : x0.toInt ≤ 70 := (by first | exact (cm_le1 ti_70 c) | (have z := bn_le c; have k1 : (70 : Int32).toInt = 70 := ti_70; omega))
      refine lv_aload_n hx hb dX0_becomes_11 rfl (lv_at hl 0 rfl) ?_
      refine sl_gX_1_0_0 hx hb hts hown hK hP dX0_becomes_12 ?_
      refine lv_iload_n hx hb dX0_becomes_15 rfl (lv_at hl 1 rfl) ?_
      refine lv_iload_n hx hb dX0_becomes_16 rfl (lv_at hl 2 rfl) ?_
      refine sg_iast hx hb hh hA hK hP hS 2 (by decide) 0 (fun _ => rfl) rfl (i := x0) (x := x1) (vp_in_iff.mpr ⟨by omega, by omega⟩) dX0_becomes_17 (fun f_5 H locs ef_5 hP hS => ?_)
      replace hs := hs.trans (spl_e ef_5 rfl)
      have hI : sgI loX hiX f_5 := by rw [ef_5]; exact sgI.put hI 2 x0.toNatClampNeg (segX2_w x1 (by have z := bn_clI (x := x0) (by omega); omega))
      have hF : sgK WkX0_becomes f f_5 := sgK.put hF ef_5 (by rfl)
      refine lv_iload_n hx hb dX0_becomes_18 rfl (lv_at hl 1 rfl) ?_
      refine lv_bipush (v := 64) hx hb dX0_becomes_19 bp_64 ?_
      refine lv_icmp_ge (tgt := 32) hx hb dX0_becomes_21 (by decide) (fun c => ?_) (fun c => ?_)
      · skip
        have c_6 : 64 ≤ x0.toInt := (by first | exact (cm_le0 ti_64 c) | (have z := bn_le c; have k1 : (64 : Int32).toInt = 64 := ti_64; omega))
        exact hret _ _ _ _ f_5 L Q dX0_becomes_32 hP hS ⟨⟨hI, hF, rfl, rfl⟩, (Eq.trans (Eq.symm (hs.trans ((if_neg (Int.not_lt.mpr c_6)).trans rfl))) hsp)⟩
      · skip
        have c_7 : x0.toInt < 64 := (by first | exact (cm_nle0 ti_64 c) | (have z := bn_nle c; have k1 : (64 : Int32).toInt = 64 := ti_64; omega))
        refine lv_aload_n hx hb dX0_becomes_24 rfl (lv_at hl 0 rfl) ?_
        refine lv_iload_n hx hb dX0_becomes_25 rfl (lv_at hl 1 rfl) ?_
        refine lv_bipush (v := 8) hx hb dX0_becomes_26 bp_8 ?_
        refine lv_idiv hx hb dX0_becomes_28 (by decide) ?_
        refine lv_topi (fun v_8 ev_8 => ?_)
        have q_9 : v_8.toInt = x0.toInt / 8 := by rw [ev_8]; exact bn_divI (by omega) (by decide) (by decide)
        refine sg_callv (va_runV (As := [.int v_8]) (rest := []) ⟨hx, hb, hml, hown, hts⟩ (kX0_forget l D ca za h hh f_5 L Q hI v_8 ⟨by omega, by omega⟩ H.size) (sl_c0_forget_0_0_0_0_0 hts ⟨Nat.le_of_ble_eq_true rfl, Nat.le_of_ble_eq_true rfl⟩) (sl_vX_1 hA hK hP hS hZ) rfl rfl hl.1 rfl (lv_room (Nat.le_of_ble_eq_true rfl)) dX0_becomes_29 ⟨Nat.le_refl _, Nat.le_refl _⟩) hA hS (fun f_10 L_11 Q_12 H locs hq hP hS => ?_)
        obtain ⟨⟨hI, hk_f_10, eL9, eQ9⟩, u_13⟩ := hq
        rw [eL9, eQ9] at hP; clear eL9 eQ9
        have hF : sgK WkX0_becomes f f_10 := sgK.tr hF hk_f_10 (by decide +kernel)
        exact hret _ _ _ _ f_10 L Q dX0_becomes_32 hP hS ⟨⟨hI, hF, rfl, rfl⟩, (Eq.trans (Eq.symm (hs.trans ((if_pos c_7).trans (spl_e ev_8 (spl_e u_13 rfl))))) hsp)⟩
    · skip
      exfalso; have c_4 : 70 < x0.toInt := (by first | exact (cm_nle1 ti_70 c) | (have z := bn_nle c; have k1 : (70 : Int32).toInt = 70 := ti_70; omega)); omega

abbrev WkX11_mend : List (Nat × Nat × Option Nat) := [(2, 2, none), (9, 9, none), (32, 32, some 3), (32, 32, some 4), (33, 33, none), (34, 34, none), (35, 35, none)]
set_option maxHeartbeats 4000000 in
set_option maxRecDepth 100000 in
theorem kX11_mend (l : Launch) (D : va_G) (ca : Nat → ClassId) (za h : Nat → Nat) (hh : sgH 52 h) (f : sg_F) (L : sg_L) (Q : sg_Q) (hI : sgI loX hiX f) (hJ : JX f) (x0 : Int32) (x1 : Int32) (x2 : Int32) (sz : Nat) : Met l yX11_mend gwX11_mend { frames := 3, cells := 0, slots := 0, locals := 107 } (sgP D vwCl (tyX ca) 52 h (eX ca h) zcX za f L Q sz [.ref (h 0), .int x0, .int x1, .int x2]) (sgQi D vwCl 52 h (eX ca h) sz (fun r f1 L1 Q1 => ((sgI loX hiX f1 ∧ sgK WkX11_mend f f1 ∧ L1 = L ∧ Q1 = Q ∧ JX f1) ∧ ((-1) ≤ r.toInt ∧ r.toInt ≤ 99) ∧ (r, f1) = sX11_mend x0 x1 x2 f L))) 0 0 (sgA 52 h sz) := by
  refine sg_ofWi (cc := cX11_mend) (maxL := 6) RX11 (by decide) rfl rfl (Nat.le_of_ble_eq_true rfl) ?_
  intro p e s m below meth cd Qz ls hx hb hml hown hts hK hZ hP hS hl hret
  have hA := sgY.self (n := 52) (h := h) (sz := s.heap.size)
  have hl : lv_has ls 6 [(0, .ref (h 0)), (1, .int x0), (2, .int x1), (3, .int x2)] := hl
  obtain ⟨H, hH⟩ : ∃ z : Heap, z = s.heap := ⟨_, rfl⟩
  obtain ⟨locs, hlo⟩ : ∃ z : List Loc, z = [] := ⟨_, rfl⟩
  have hP : va_P D vwCl (sgw 52 h (eX ca h) f L Q) H := by rw [hH]; exact hP
  have hS : va_S (sgA 52 h s.heap.size) s.heap H locs := by rw [hH, hlo]; exact hS
  suffices hgo : W p l e ({ frames := 3, cells := 0, slots := 0, locals := 107 }) s m ([.ref (h 0), .int x0, .int x1, .int x2] : List Value).toArray below meth cd H locs 0 0 Qz (F0 m 0 ls []) by rw [hH, hlo] at hgo; exact hgo
  clear hH hlo
  obtain ⟨sp, hsp⟩ : ∃ z : Int32 × sg_F, z = sX11_mend x0 x1 x2 f L := ⟨_, rfl⟩
  have hs : sp = sX11_mend x0 x1 x2 f L := hsp
  have hF : sgK WkX11_mend f f := sgK.rf
  refine lv_aload_n hx hb dX11_mend_0 rfl (lv_at hl 0 rfl) ?_
  refine sl_gX_0_0_11 hx hb hts hown hK hP dX11_mend_1 ?_
  refine lv_iload_n hx hb dX11_mend_4 rfl (lv_at hl 1 rfl) ?_
  refine lv_iload_n hx hb dX11_mend_5 rfl (lv_at hl 2 rfl) ?_
  refine sg_calli (va_runV (As := [.int x0, .int x1]) (rest := []) ⟨hx, hb, hml, hown, hts⟩ (kX0_placeOf l D ca za h hh f L Q hI x0 x1 H.size) (sl_c0_placeOf_0_0_0_0_11 hts ⟨Nat.le_of_ble_eq_true rfl, Nat.le_of_ble_eq_true rfl⟩) (sl_vX_1 hA hK hP hS hZ) rfl rfl hl.1 rfl (lv_room (Nat.le_of_ble_eq_true rfl)) dX11_mend_6 ⟨Nat.le_refl _, Nat.le_refl _⟩) hA hS (fun r_4 f_1 L_2 Q_3 H locs hq hP hS => ?_)
  obtain ⟨⟨ef9, eL9, eQ9⟩, hq, p_5, u_6⟩ := hq
  replace hs := hs.trans (spl_e u_6 rfl)
  rw [ef9, eL9, eQ9] at hP; clear ef9 eL9 eQ9
  refine lv_istore (lv' := [(4, .int r_4), (0, .ref (h 0)), (1, .int x0), (2, .int x1), (3, .int x2)]) hx hb dX11_mend_9 hl (by decide) rfl (fun ls hl => ?_)
  refine lv_iload hx hb dX11_mend_11 (lv_at hl 0 rfl) ?_
  refine lv_if_lt (tgt := 24) hx hb dX11_mend_13 (by decide) (fun c => ?_) (fun c => ?_)
  · skip
    have c_7 : r_4.toInt < 0 := (by first | exact (cm_lt1 ti_0 c) | (have z := bn_lt c; have k1 : (0 : Int32).toInt = 0 := ti_0; omega))
    refine lv_iconst (v := (-1)) hx hb dX11_mend_24 ic_m1 ?_
    have k99 : ((-1) : Int32).toInt = (-1) := ti_m1
    exact hret _ _ _ _ (-1) f L Q dX11_mend_25 hP hS ⟨⟨hI, hF, rfl, rfl, hJ⟩, (by decide), (Eq.trans (Eq.symm (hs.trans ((if_pos c_7).trans rfl))) hsp)⟩
  · skip
    have c_8 : 0 ≤ r_4.toInt := (by first | exact (cm_nlt1 ti_0 c) | (have z := bn_nlt c; have k1 : (0 : Int32).toInt = 0 := ti_0; omega))
    refine lv_iload_n hx hb dX11_mend_16 rfl (lv_at hl 3 rfl) ?_
    refine lv_iload_n hx hb dX11_mend_17 rfl (lv_at hl 4 rfl) ?_
    refine sg_calli (va_runS (As := [.int x1, .int x2]) (rest := []) ⟨hx, hb, hml, hown, hts⟩ (kX11_fits l D ca za h hh f L Q hI x1 x2 H.size) (va_cwS 2 hts (gw_S (fun _ h => List.mem_cons_of_mem _ h) mw_149 mw_150 mw_37 mw_148) rfl rfl rfl hd_yX11_fits.2 ⟨Nat.le_of_ble_eq_true rfl, Nat.le_of_ble_eq_true rfl⟩) (sg_preS hA hK hP hS hZ) rfl rfl hl.1 rfl (lv_room (Nat.le_of_ble_eq_true rfl)) dX11_mend_18 ⟨Nat.le_refl _, Nat.le_refl _⟩) hA hS (fun r_12 f_9 L_10 Q_11 H locs hq hP hS => ?_)
    obtain ⟨⟨ef9, eL9, eQ9⟩, hq, u_13⟩ := hq
    replace hs := hs.trans ((if_neg (Int.not_lt.mpr c_8)).trans (spl_e u_13 rfl))
    rw [ef9, eL9, eQ9] at hP; clear ef9 eL9 eQ9
    rcases hq with ⟨rfl, hq⟩ | ⟨rfl, hq⟩
    · skip
      have hc_14 := hq
      refine lv_if_ne (tgt := 26) hx hb dX11_mend_21 (by decide) (fun c => ?_) (fun c => absurd c (by decide))
      refine lv_aload_n hx hb dX11_mend_26 rfl (lv_at hl 1 rfl) ?_
      refine sl_gX_0_0_11 hx hb hts hown hK hP dX11_mend_27 ?_
      refine sl_gX_1_0_11 hx hb hts hown hK hP dX11_mend_30 ?_
      refine lv_iload hx hb dX11_mend_33 (lv_at hl 0 rfl) ?_
      refine sg_iald hx hb hK hP 2 (by decide) 0 rfl rfl (i := r_4) (vp_in_iff.mpr ⟨by omega, by omega⟩) dX11_mend_35 ?_
      refine lv_topi (fun v_15 ev_15 => ?_)
      replace hs := hs.trans ((if_pos rfl).trans (spl_e ev_15 rfl))
      have q_16 : r_4.toInt < 64 → v_15.toInt ≤ 60 := by rw [ev_15]; have z1 := segX2_r hI (j := Int32.toNatClampNeg r_4); have z2 := bn_clI (x := r_4) (by omega); intro z3; exact (z1.2.2 (by omega)).2
      have q_17 : 0 ≤ v_15.toInt ∧ v_15.toInt ≤ 99 := by rw [ev_15]; have z1 := segX2_r hI (j := Int32.toNatClampNeg r_4); have z2 := bn_clI (x := r_4) (by omega); omega
      refine lv_istore (lv' := [(5, .int v_15), (4, .int r_4), (0, .ref (h 0)), (1, .int x0), (2, .int x1), (3, .int x2)]) hx hb dX11_mend_36 hl (by decide) rfl (fun ls hl => ?_)
      refine lv_iload hx hb dX11_mend_38 (lv_at hl 0 rfl) ?_
      refine lv_iload_n hx hb dX11_mend_40 rfl (lv_at hl 5 rfl) ?_
      refine lv_icmp_eq (tgt := 66) hx hb dX11_mend_41 (by decide) (fun c => ?_) (fun c => ?_)
      · skip
        have c_18 : v_15.toInt = x2.toInt := (by first | exact (Int32.toInt_inj.mpr c) | (have z := Int32.toInt_inj.mpr c; omega))
        refine lv_iload hx hb dX11_mend_66 (lv_at hl 0 rfl) ?_
        exact hret _ _ _ _ (v_15) f L Q dX11_mend_68 hP hS ⟨⟨hI, hF, rfl, rfl, hJ⟩, ⟨by omega, by omega⟩, (Eq.trans (Eq.symm (hs.trans ((if_pos c_18).trans rfl))) hsp)⟩
      · skip
        have c_19 : v_15.toInt ≠ x2.toInt := (by first | exact (bn_ne c) | (have z := bn_ne c; omega))
        refine lv_aload_n hx hb dX11_mend_44 rfl (lv_at hl 2 rfl) ?_
        refine sl_gX_0_7_11 hx hb hts hown hK hP dX11_mend_45 ?_
        refine lv_iload hx hb dX11_mend_48 (lv_at hl 1 rfl) ?_
        refine lv_iload hx hb dX11_mend_50 (lv_at hl 0 rfl) ?_
        refine lv_iload_n hx hb dX11_mend_52 rfl (lv_at hl 5 rfl) ?_
        refine sg_callv (va_runV (As := [.int r_4, .int v_15, .int x2]) (rest := []) ⟨hx, hb, hml, hown, hts⟩ (kX1_comes l D ca za h hh f L Q hI hJ r_4 v_15 x2 ⟨by omega, by omega⟩ q_17 ⟨by omega, by omega⟩ (by omega) H.size) (sl_c1_comes_2_0_0_84_11 hts ⟨Nat.le_of_ble_eq_true rfl, Nat.le_of_ble_eq_true rfl⟩) (sl_vX_32 hA hK hP hS hZ) rfl rfl hl.1 rfl (lv_room (Nat.le_of_ble_eq_true rfl)) dX11_mend_53 ⟨Nat.le_refl _, Nat.le_refl _⟩) hA hS (fun f_20 L_21 Q_22 H locs hq hP hS => ?_)
        obtain ⟨⟨hI, hk_f_20, eL9, eQ9, hJ⟩, u_23⟩ := hq
        rw [eL9, eQ9] at hP; clear eL9 eQ9
        have hF : sgK WkX11_mend f f_20 := sgK.tr hF hk_f_20 (by decide +kernel)
        refine lv_aload_n hx hb dX11_mend_56 rfl (lv_at hl 2 rfl) ?_
        refine sl_gX_0_0_11 hx hb hts hown hK hP dX11_mend_57 ?_
        refine lv_iload hx hb dX11_mend_60 (lv_at hl 1 rfl) ?_
        refine lv_iload_n hx hb dX11_mend_62 rfl (lv_at hl 5 rfl) ?_
        refine sg_callv (va_runV (As := [.int r_4, .int x2]) (rest := []) ⟨hx, hb, hml, hown, hts⟩ (kX0_becomes l D ca za h hh f_20 L Q hI r_4 x2 ⟨by omega, by omega⟩ ⟨by omega, by omega⟩ (by omega) H.size) (sl_c0_becomes_1_0_0_23_11 hts ⟨Nat.le_of_ble_eq_true rfl, Nat.le_of_ble_eq_true rfl⟩) (sl_vX_1 hA hK hP hS hZ) rfl rfl hl.1 rfl (lv_room (Nat.le_of_ble_eq_true rfl)) dX11_mend_63 ⟨Nat.le_refl _, Nat.le_refl _⟩) hA hS (fun f_24 L_25 Q_26 H locs hq hP hS => ?_)
        obtain ⟨⟨hI, hk_f_24, eL9, eQ9⟩, u_27⟩ := hq
        rw [eL9, eQ9] at hP; clear eL9 eQ9
        have hJ : JX f_24 := JX.fr hJ hk_f_24 (fun _ => rfl) (fun _ => rfl) (fun _ => rfl) (by intro t j ht; rcases (show t = 0 ∨ t = 1 ∨ t = 2 ∨ t = 3 ∨ t = 4 ∨ t = 5 by omega) with rfl | rfl | rfl | rfl | rfl | rfl <;> rfl)
        have hF : sgK WkX11_mend f f_24 := sgK.tr hF hk_f_24 (by decide +kernel)
        refine lv_iload hx hb dX11_mend_66 (lv_at hl 0 rfl) ?_
        exact hret _ _ _ _ (v_15) f_24 L Q dX11_mend_68 hP hS ⟨⟨hI, hF, rfl, rfl, hJ⟩, ⟨by omega, by omega⟩, (Eq.trans (Eq.symm (hs.trans ((if_neg c_19).trans (spl_e u_23 (spl_e u_27 rfl))))) hsp)⟩
    · skip
      have hc_14 := hq
      refine lv_if_ne (tgt := 26) hx hb dX11_mend_21 (by decide) (fun c => absurd c (by decide)) (fun c => ?_)
      refine lv_iconst (v := (-1)) hx hb dX11_mend_24 ic_m1 ?_
      have k99 : ((-1) : Int32).toInt = (-1) := ti_m1
      exact hret _ _ _ _ (-1) f L Q dX11_mend_25 hP hS ⟨⟨hI, hF, rfl, rfl, hJ⟩, (by decide), (Eq.trans (Eq.symm (hs.trans ((if_neg (by decide)).trans rfl))) hsp)⟩

set_option maxHeartbeats 4000000 in
set_option maxRecDepth 100000 in
theorem kX11_isPart (l : Launch) (D : va_G) (ca : Nat → ClassId) (za h : Nat → Nat) (hh : sgH 52 h) (f : sg_F) (L : sg_L) (Q : sg_Q) (hI : sgI loX hiX f) (x0 : Int32) (sz : Nat) : Met l yX11_isPart gwX11_isPart { frames := 0, cells := 0, slots := 0, locals := 0 } (sgP D vwCl (tyX ca) 52 h (eX ca h) zcX za f L Q sz [.int x0]) (sgQi D vwCl 52 h (eX ca h) sz (fun r f1 L1 Q1 => ((f1 = f ∧ L1 = L ∧ Q1 = Q) ∧ ((r = 1 ∧ (0 ≤ x0.toInt ∧ x0.toInt ≤ 2)) ∨ (r = 0 ∧ (¬ (0 ≤ x0.toInt ∧ x0.toInt ≤ 2)))) ∧ (r) = sX11_isPart x0 f L))) 0 0 (sgA 52 h sz) := by
  refine sg_ofWz (cc := cX11_isPart) (maxL := 1) RX11 (by decide) rfl rfl (Nat.le_of_ble_eq_true rfl) ?_
  intro p e s m below meth cd Qz ls hx hb hml hown hts hK hZ hP hS hl hret
  have hA := sgY.self (n := 52) (h := h) (sz := s.heap.size)
  have hl : lv_has ls 1 [(0, .int x0)] := hl
  obtain ⟨H, hH⟩ : ∃ z : Heap, z = s.heap := ⟨_, rfl⟩
  obtain ⟨locs, hlo⟩ : ∃ z : List Loc, z = [] := ⟨_, rfl⟩
  have hP : va_P D vwCl (sgw 52 h (eX ca h) f L Q) H := by rw [hH]; exact hP
  have hS : va_S (sgA 52 h s.heap.size) s.heap H locs := by rw [hH, hlo]; exact hS
  suffices hgo : W p l e ({ frames := 0, cells := 0, slots := 0, locals := 0 }) s m ([.int x0] : List Value).toArray below meth cd H locs 0 0 Qz (F0 m 0 ls []) by rw [hH, hlo] at hgo; exact hgo
  clear hH hlo
  obtain ⟨sp, hsp⟩ : ∃ z : Int32, z = sX11_isPart x0 f L := ⟨_, rfl⟩
  have hs : sp = sX11_isPart x0 f L := hsp
  refine lv_iload_n hx hb dX11_isPart_0 rfl (lv_at hl 0 rfl) ?_
  refine lv_if_lt (tgt := 13) hx hb dX11_isPart_1 (by decide) (fun c => ?_) (fun c => ?_)
  · skip
    have c_1 : x0.toInt < 0 := (by first | exact (cm_lt1 ti_0 c) | (have z := bn_lt c; have k1 : (0 : Int32).toInt = 0 := ti_0; omega))
    refine lv_iconst (v := 0) hx hb dX11_isPart_13 ic_0 ?_
    have k99 : (0 : Int32).toInt = 0 := ti_0
    exact hret _ _ _ _ (0) f L Q dX11_isPart_14 (by decide) hP hS ⟨⟨rfl, rfl, rfl⟩, Or.inr (⟨rfl, by omega⟩), (Eq.trans (Eq.symm (hs.trans (((if_pos c_1).trans rfl)))) hsp)⟩
  · skip
    have c_2 : 0 ≤ x0.toInt := (by first | exact (cm_nlt1 ti_0 c) | (have z := bn_nlt c; have k1 : (0 : Int32).toInt = 0 := ti_0; omega))
    replace hs := hs.trans ((if_neg (Int.not_lt.mpr c_2)).trans rfl)
    refine lv_iload_n hx hb dX11_isPart_4 rfl (lv_at hl 0 rfl) ?_
    refine lv_iconst (v := 3) hx hb dX11_isPart_5 ic_3 ?_
    refine lv_icmp_ge (tgt := 13) hx hb dX11_isPart_6 (by decide) (fun c => ?_) (fun c => ?_)
    · skip
      have c_3 : 3 ≤ x0.toInt := (by first | exact (cm_le0 ti_3 c) | (have z := bn_le c; have k1 : (3 : Int32).toInt = 3 := ti_3; omega))
      refine lv_iconst (v := 0) hx hb dX11_isPart_13 ic_0 ?_
      have k99 : (0 : Int32).toInt = 0 := ti_0
      exact hret _ _ _ _ (0) f L Q dX11_isPart_14 (by decide) hP hS ⟨⟨rfl, rfl, rfl⟩, Or.inr (⟨rfl, by omega⟩), (Eq.trans (Eq.symm (hs.trans ((if_neg (Int.not_lt.mpr c_3)).trans rfl))) hsp)⟩
    · skip
      have c_4 : x0.toInt < 3 := (by first | exact (cm_nle0 ti_3 c) | (have z := bn_nle c; have k1 : (3 : Int32).toInt = 3 := ti_3; omega))
      refine lv_iconst (v := 1) hx hb dX11_isPart_9 ic_1 ?_
      refine lv_goto (tgt := 14) hx hb dX11_isPart_10 (by decide) ?_
      have k99 : (1 : Int32).toInt = 1 := ti_1
      exact hret _ _ _ _ (1) f L Q dX11_isPart_14 (by decide) hP hS ⟨⟨rfl, rfl, rfl⟩, Or.inl ⟨rfl, by omega⟩, (Eq.trans (Eq.symm (hs.trans ((if_pos c_4).trans rfl))) hsp)⟩

set_option maxHeartbeats 4000000 in
set_option maxRecDepth 100000 in
theorem kX11_of (l : Launch) (D : va_G) (ca : Nat → ClassId) (za h : Nat → Nat) (hh : sgH 52 h) (f : sg_F) (L : sg_L) (Q : sg_Q) (hI : sgI loX hiX f) (x0 : Int32) (x1 : Int32) (sz : Nat) : Met l yX11_of gwX11_of { frames := 1, cells := 0, slots := 0, locals := 22 } (sgP D vwCl (tyX ca) 52 h (eX ca h) zcX za f L Q sz [.ref (h 0), .int x0, .int x1]) (sgQi D vwCl 52 h (eX ca h) sz (fun r f1 L1 Q1 => ((f1 = f ∧ L1 = L ∧ Q1 = Q) ∧ ((-1) ≤ r.toInt ∧ r.toInt ≤ 99) ∧ (r) = sX11_of x0 x1 f L))) 0 0 (sgA 52 h sz) := by
  refine sg_ofWi (cc := cX11_of) (maxL := 4) RX11 (by decide) rfl rfl (Nat.le_of_ble_eq_true rfl) ?_
  intro p e s m below meth cd Qz ls hx hb hml hown hts hK hZ hP hS hl hret
  have hA := sgY.self (n := 52) (h := h) (sz := s.heap.size)
  have hl : lv_has ls 4 [(0, .ref (h 0)), (1, .int x0), (2, .int x1)] := hl
  obtain ⟨H, hH⟩ : ∃ z : Heap, z = s.heap := ⟨_, rfl⟩
  obtain ⟨locs, hlo⟩ : ∃ z : List Loc, z = [] := ⟨_, rfl⟩
  have hP : va_P D vwCl (sgw 52 h (eX ca h) f L Q) H := by rw [hH]; exact hP
  have hS : va_S (sgA 52 h s.heap.size) s.heap H locs := by rw [hH, hlo]; exact hS
  suffices hgo : W p l e ({ frames := 1, cells := 0, slots := 0, locals := 22 }) s m ([.ref (h 0), .int x0, .int x1] : List Value).toArray below meth cd H locs 0 0 Qz (F0 m 0 ls []) by rw [hH, hlo] at hgo; exact hgo
  clear hH hlo
  obtain ⟨sp, hsp⟩ : ∃ z : Int32, z = sX11_of x0 x1 f L := ⟨_, rfl⟩
  have hs : sp = sX11_of x0 x1 f L := hsp
  refine lv_iload_n hx hb dX11_of_0 rfl (lv_at hl 2 rfl) ?_
  refine lv_bipush (v := 11) hx hb dX11_of_1 bp_11 ?_
  refine lv_icmp_ne (tgt := 27) hx hb dX11_of_3 (by decide) (fun c => ?_) (fun c => ?_)
  · skip
    have c_1 : x1.toInt ≠ 11 := (by first | exact (cm_ne1 ti_11 c) | (have z := bn_ne c; have k1 : (11 : Int32).toInt = 11 := ti_11; omega))
    refine lv_aload_n hx hb dX11_of_27 rfl (lv_at hl 0 rfl) ?_
    refine sl_gX_0_0_11 hx hb hts hown hK hP dX11_of_28 ?_
    refine lv_iload_n hx hb dX11_of_31 rfl (lv_at hl 1 rfl) ?_
    refine lv_iload_n hx hb dX11_of_32 rfl (lv_at hl 2 rfl) ?_
    refine sg_calli (va_runV (As := [.int x0, .int x1]) (rest := []) ⟨hx, hb, hml, hown, hts⟩ (kX0_placeOf l D ca za h hh f L Q hI x0 x1 H.size) (sl_c0_placeOf_0_0_0_0_11 hts ⟨Nat.le_of_ble_eq_true rfl, Nat.le_of_ble_eq_true rfl⟩) (sl_vX_1 hA hK hP hS hZ) rfl rfl hl.1 rfl (lv_room (Nat.le_of_ble_eq_true rfl)) dX11_of_33 ⟨Nat.le_refl _, Nat.le_refl _⟩) hA hS (fun r_6 f_3 L_4 Q_5 H locs hq hP hS => ?_)
    obtain ⟨⟨ef9, eL9, eQ9⟩, hq, p_7, u_8⟩ := hq
    replace hs := hs.trans ((if_neg c_1).trans (spl_e u_8 rfl))
    rw [ef9, eL9, eQ9] at hP; clear ef9 eL9 eQ9
    refine lv_istore_n (lv' := [(3, .int r_6), (0, .ref (h 0)), (1, .int x0), (2, .int x1)]) hx hb dX11_of_36 rfl hl (by decide) rfl (fun ls hl => ?_)
    refine lv_iload_n hx hb dX11_of_37 rfl (lv_at hl 0 rfl) ?_
    refine lv_if_ge (tgt := 45) hx hb dX11_of_38 (by decide) (fun c => ?_) (fun c => ?_)
    · skip
      have c_9 : 0 ≤ r_6.toInt := (by first | exact (cm_le0 ti_0 c) | (have z := bn_le c; have k1 : (0 : Int32).toInt = 0 := ti_0; omega))
      refine lv_aload_n hx hb dX11_of_45 rfl (lv_at hl 1 rfl) ?_
      refine sl_gX_0_0_11 hx hb hts hown hK hP dX11_of_46 ?_
      refine sl_gX_1_0_11 hx hb hts hown hK hP dX11_of_49 ?_
      refine lv_iload_n hx hb dX11_of_52 rfl (lv_at hl 0 rfl) ?_
      refine sg_iald hx hb hK hP 2 (by decide) 0 rfl rfl (i := r_6) (vp_in_iff.mpr ⟨by omega, by omega⟩) dX11_of_53 ?_
      refine lv_topi (fun v_11 ev_11 => ?_)
      have q_12 : r_6.toInt < 64 → v_11.toInt ≤ 60 := by rw [ev_11]; have z1 := segX2_r hI (j := Int32.toNatClampNeg r_6); have z2 := bn_clI (x := r_6) (by omega); intro z3; exact (z1.2.2 (by omega)).2
      have q_13 : 0 ≤ v_11.toInt ∧ v_11.toInt ≤ 99 := by rw [ev_11]; have z1 := segX2_r hI (j := Int32.toNatClampNeg r_6); have z2 := bn_clI (x := r_6) (by omega); omega
      exact hret _ _ _ _ (v_11) f L Q dX11_of_54 hP hS ⟨⟨rfl, rfl, rfl⟩, ⟨by omega, by omega⟩, (Eq.trans (Eq.symm (hs.trans ((if_neg (Int.not_lt.mpr c_9)).trans (spl_e ev_11 rfl)))) hsp)⟩
    · skip
      have c_10 : r_6.toInt < 0 := (by first | exact (cm_nle0 ti_0 c) | (have z := bn_nle c; have k1 : (0 : Int32).toInt = 0 := ti_0; omega))
      refine lv_iconst (v := (-1)) hx hb dX11_of_41 ic_m1 ?_
      refine lv_goto (tgt := 54) hx hb dX11_of_42 (by decide) ?_
      have k99 : ((-1) : Int32).toInt = (-1) := ti_m1
      exact hret _ _ _ _ (-1) f L Q dX11_of_54 hP hS ⟨⟨rfl, rfl, rfl⟩, (by decide), (Eq.trans (Eq.symm (hs.trans ((if_pos c_10).trans rfl))) hsp)⟩
  · skip
    have c_2 : x1.toInt = 11 := (by first | exact (cm_eq1 ti_11 c) | (have z := Int32.toInt_inj.mpr c; have k1 : (11 : Int32).toInt = 11 := ti_11; omega))
    refine lv_iload_n hx hb dX11_of_6 rfl (lv_at hl 1 rfl) ?_
    refine sg_calli (va_runS (As := [.int x0]) (rest := []) ⟨hx, hb, hml, hown, hts⟩ (kX11_isPart l D ca za h hh f L Q hI x0 H.size) (va_cwS 1 hts (gw_S (fun _ h => List.mem_cons_of_mem _ h) mw_58 mw_59 mw_37 mw_57) rfl rfl rfl hd_yX11_isPart.2 ⟨Nat.le_of_ble_eq_true rfl, Nat.le_of_ble_eq_true rfl⟩) (sg_preS hA hK hP hS hZ) rfl rfl hl.1 rfl (lv_room (Nat.le_of_ble_eq_true rfl)) dX11_of_7 ⟨Nat.le_refl _, Nat.le_refl _⟩) hA hS (fun r_17 f_14 L_15 Q_16 H locs hq hP hS => ?_)
    obtain ⟨⟨ef9, eL9, eQ9⟩, hq, u_18⟩ := hq
    replace hs := hs.trans ((if_pos c_2).trans (spl_e u_18 rfl))
    rw [ef9, eL9, eQ9] at hP; clear ef9 eL9 eQ9
    rcases hq with ⟨rfl, hq⟩ | ⟨rfl, hq⟩
    · skip
      have hc_19 := hq
      refine lv_if_eq (tgt := 25) hx hb dX11_of_10 (by decide) (fun c => absurd c (by decide)) (fun c => ?_)
      refine lv_aload_n hx hb dX11_of_13 rfl (lv_at hl 0 rfl) ?_
      refine sl_gX_0_0_11 hx hb hts hown hK hP dX11_of_14 ?_
      refine sl_gX_1_1_11 hx hb hts hown hK hP dX11_of_17 ?_
      refine lv_iload_n hx hb dX11_of_20 rfl (lv_at hl 1 rfl) ?_
      refine sg_iald hx hb hK hP 3 (by decide) 0 rfl rfl (i := x0) (vp_in_iff.mpr ⟨by omega, by omega⟩) dX11_of_21 ?_
      refine lv_topi (fun v_20 ev_20 => ?_)
      have q_21 : 0 ≤ v_20.toInt ∧ v_20.toInt ≤ 60 := by rw [ev_20]; exact hI 3 _
      refine lv_goto (tgt := 26) hx hb dX11_of_22 (by decide) ?_
      exact hret _ _ _ _ (v_20) f L Q dX11_of_26 hP hS ⟨⟨rfl, rfl, rfl⟩, ⟨by omega, by omega⟩, (Eq.trans (Eq.symm (hs.trans ((if_pos rfl).trans (spl_e ev_20 rfl)))) hsp)⟩
    · skip
      have hc_19 := hq
      refine lv_if_eq (tgt := 25) hx hb dX11_of_10 (by decide) (fun c => ?_) (fun c => absurd c (by decide))
      refine lv_iconst (v := (-1)) hx hb dX11_of_25 ic_m1 ?_
      have k99 : ((-1) : Int32).toInt = (-1) := ti_m1
      exact hret _ _ _ _ (-1) f L Q dX11_of_26 hP hS ⟨⟨rfl, rfl, rfl⟩, (by decide), (Eq.trans (Eq.symm (hs.trans ((if_neg (by decide)).trans rfl))) hsp)⟩

abbrev WkX5_takes : List (Nat × Nat × Option Nat) := [(4, 4, some 1), (5, 5, none)]
set_option maxHeartbeats 4000000 in
set_option maxRecDepth 100000 in
theorem kX5_takes (l : Launch) (D : va_G) (ca : Nat → ClassId) (za h : Nat → Nat) (hh : sgH 52 h) (f : sg_F) (L : sg_L) (Q : sg_Q) (hI : sgI loX hiX f) (x0 : Int32) (b0 : 0 ≤ x0.toInt ∧ x0.toInt ≤ 255) (sz : Nat) : Met l yX5_takes gwX5_takes { frames := 0, cells := 0, slots := 0, locals := 0 } (sgP D vwCl (tyX ca) 52 h (eX ca h) zcX za f L Q sz [.ref (h 4), .int x0]) (sgQi D vwCl 52 h (eX ca h) sz (fun r f1 L1 Q1 => ((sgI loX hiX f1 ∧ sgK WkX5_takes f f1 ∧ L1 = L ∧ Q1 = Q) ∧ ((-3) ≤ r.toInt ∧ r.toInt ≤ 120) ∧ (r, f1) = sX5_takes x0 f L))) 0 0 (sgA 52 h sz) := by
  refine sg_ofWi (cc := cX5_takes) (maxL := 2) RX5 (by decide) rfl rfl (Nat.le_of_ble_eq_true rfl) ?_
  intro p e s m below meth cd Qz ls hx hb hml hown hts hK hZ hP hS hl hret
  have hA := sgY.self (n := 52) (h := h) (sz := s.heap.size)
  have hl : lv_has ls 2 [(0, .ref (h 4)), (1, .int x0)] := hl
  obtain ⟨H, hH⟩ : ∃ z : Heap, z = s.heap := ⟨_, rfl⟩
  obtain ⟨locs, hlo⟩ : ∃ z : List Loc, z = [] := ⟨_, rfl⟩
  have hP : va_P D vwCl (sgw 52 h (eX ca h) f L Q) H := by rw [hH]; exact hP
  have hS : va_S (sgA 52 h s.heap.size) s.heap H locs := by rw [hH, hlo]; exact hS
  suffices hgo : W p l e ({ frames := 0, cells := 0, slots := 0, locals := 0 }) s m ([.ref (h 4), .int x0] : List Value).toArray below meth cd H locs 0 0 Qz (F0 m 0 ls []) by rw [hH, hlo] at hgo; exact hgo
  clear hH hlo
  obtain ⟨sp, hsp⟩ : ∃ z : Int32 × sg_F, z = sX5_takes x0 f L := ⟨_, rfl⟩
  have hs : sp = sX5_takes x0 f L := hsp
  have hF : sgK WkX5_takes f f := sgK.rf
  refine lv_aload_n hx hb dX5_takes_0 rfl (lv_at hl 0 rfl) ?_
  refine sl_gX_4_1_5 (v := (f 4 1)) hx hb hts hown hK hP rfl dX5_takes_1 ?_
  refine lv_topi (fun v_1 ev_1 => ?_)
  replace hs := hs.trans (spl_e ev_1 rfl)
  have q_2 : 0 ≤ v_1.toInt ∧ v_1.toInt ≤ 120 := by rw [ev_1]; exact hI 4 1
  refine lv_bipush (v := 120) hx hb dX5_takes_4 bp_120 ?_
  refine lv_icmp_lt (tgt := 12) hx hb dX5_takes_6 (by decide) (fun c => ?_) (fun c => ?_)
  · skip
    have c_3 : v_1.toInt < 120 := (by first | exact (cm_lt1 ti_120 c) | (have z := bn_lt c; have k1 : (120 : Int32).toInt = 120 := ti_120; omega))
    refine lv_aload_n hx hb dX5_takes_12 rfl (lv_at hl 0 rfl) ?_
    refine sl_gX_4_0_5 hx hb hts hown hK hP dX5_takes_13 ?_
    refine lv_aload_n hx hb dX5_takes_16 rfl (lv_at hl 0 rfl) ?_
    refine sl_gX_4_1_5 (v := v_1) hx hb hts hown hK hP (show f 4 1 = v_1 from ev_1.symm) dX5_takes_17 ?_
    refine lv_iload_n hx hb dX5_takes_20 rfl (lv_at hl 1 rfl) ?_
    refine sg_iast hx hb hh hA hK hP hS 5 (by decide) 0 (fun _ => rfl) rfl (i := v_1) (x := x0) (vp_in_iff.mpr ⟨by omega, by omega⟩) dX5_takes_21 (fun f_5 H locs ef_5 hP hS => ?_)
    have hI : sgI loX hiX f_5 := by rw [ef_5]; exact sgI.put hI 5 v_1.toNatClampNeg (show 0 ≤ (x0 : Int32).toInt ∧ (x0 : Int32).toInt ≤ 255 from b0)
    have hF : sgK WkX5_takes f f_5 := sgK.put hF ef_5 (by rfl)
    refine lv_aload_n hx hb dX5_takes_22 rfl (lv_at hl 0 rfl) ?_
    refine lv_dup hx hb dX5_takes_23 rfl ?_
    refine sl_gX_4_1_5 (v := v_1) hx hb hts hown hK hP (show f_5 4 1 = v_1 from (by rw [ef_5, sg_up_n (by decide)]; exact ev_1.symm)) dX5_takes_24 ?_
    refine lv_iconst (v := 1) hx hb dX5_takes_27 ic_1 ?_
    refine lv_iadd hx hb dX5_takes_28 ?_
    refine lv_topi (fun v_6 ev_6 => ?_)
    have q_7 : v_6.toInt = v_1.toInt + 1 := by rw [ev_6]; first | exact cm_add ti_1 (by omega) (by omega) | (have k1 : (1 : Int32).toInt = 1 := ti_1; exact (bn_addI (by omega) (by omega)).trans (by omega))
    refine sl_pX_4_1_5 (x := v_6) hx hb hts hown hh hA hK hP hS dX5_takes_29 (fun f_8 H locs ef_8 hP hS => ?_)
    have hI : sgI loX hiX f_8 := by rw [ef_8]; exact sgI.put hI 4 1 (show 0 ≤ (v_6 : Int32).toInt ∧ (v_6 : Int32).toInt ≤ 120 from ⟨by omega, by omega⟩)
    have hF : sgK WkX5_takes f f_8 := sgK.put hF ef_8 (by rfl)
    refine lv_aload_n hx hb dX5_takes_32 rfl (lv_at hl 0 rfl) ?_
    refine sl_gX_4_1_5 (v := v_6) hx hb hts hown hK hP (show f_8 4 1 = v_6 from (by rw [ef_8, sg_up_s, sgu_s])) dX5_takes_33 ?_
    exact hret _ _ _ _ (v_6) f_8 L Q dX5_takes_36 hP hS ⟨⟨hI, hF, rfl, rfl⟩, ⟨by omega, by omega⟩, (Eq.trans (Eq.symm (hs.trans ((if_pos c_3).trans (spl_e ef_5 (spl_e ev_6 (spl_e ef_8 rfl)))))) hsp)⟩
  · skip
    have c_4 : 120 ≤ v_1.toInt := (by first | exact (cm_nlt1 ti_120 c) | (have z := bn_nlt c; have k1 : (120 : Int32).toInt = 120 := ti_120; omega))
    refine lv_bipush (v := (-3)) hx hb dX5_takes_9 bp_m3 ?_
    have k99 : ((-3) : Int32).toInt = (-3) := ti_m3
    exact hret _ _ _ _ (-3) f L Q dX5_takes_11 hP hS ⟨⟨hI, hF, rfl, rfl⟩, (by decide), (Eq.trans (Eq.symm (hs.trans ((if_neg (Int.not_lt.mpr c_4)).trans rfl))) hsp)⟩

abbrev WkX11_feed : List (Nat × Nat × Option Nat) := [(4, 4, some 1), (5, 5, none)]
set_option maxHeartbeats 4000000 in
set_option maxRecDepth 100000 in
theorem kX11_feed (l : Launch) (D : va_G) (ca : Nat → ClassId) (za h : Nat → Nat) (hh : sgH 52 h) (f : sg_F) (L : sg_L) (Q : sg_Q) (hI : sgI loX hiX f) (x0 : Int32) (sz : Nat) : Met l yX11_feed gwX11_feed { frames := 1, cells := 0, slots := 0, locals := 21 } (sgP D vwCl (tyX ca) 52 h (eX ca h) zcX za f L Q sz [.ref (h 0), .int x0]) (sgQi D vwCl 52 h (eX ca h) sz (fun r f1 L1 Q1 => ((sgI loX hiX f1 ∧ sgK WkX11_feed f f1 ∧ L1 = L ∧ Q1 = Q) ∧ ((-3) ≤ r.toInt ∧ r.toInt ≤ 120) ∧ (r, f1) = sX11_feed x0 f L))) 0 0 (sgA 52 h sz) := by
  refine sg_ofWi (cc := cX11_feed) (maxL := 2) RX11 (by decide) rfl rfl (Nat.le_of_ble_eq_true rfl) ?_
  intro p e s m below meth cd Qz ls hx hb hml hown hts hK hZ hP hS hl hret
  have hA := sgY.self (n := 52) (h := h) (sz := s.heap.size)
  have hl : lv_has ls 2 [(0, .ref (h 0)), (1, .int x0)] := hl
  obtain ⟨H, hH⟩ : ∃ z : Heap, z = s.heap := ⟨_, rfl⟩
  obtain ⟨locs, hlo⟩ : ∃ z : List Loc, z = [] := ⟨_, rfl⟩
  have hP : va_P D vwCl (sgw 52 h (eX ca h) f L Q) H := by rw [hH]; exact hP
  have hS : va_S (sgA 52 h s.heap.size) s.heap H locs := by rw [hH, hlo]; exact hS
  suffices hgo : W p l e ({ frames := 1, cells := 0, slots := 0, locals := 21 }) s m ([.ref (h 0), .int x0] : List Value).toArray below meth cd H locs 0 0 Qz (F0 m 0 ls []) by rw [hH, hlo] at hgo; exact hgo
  clear hH hlo
  obtain ⟨sp, hsp⟩ : ∃ z : Int32 × sg_F, z = sX11_feed x0 f L := ⟨_, rfl⟩
  have hs : sp = sX11_feed x0 f L := hsp
  have hF : sgK WkX11_feed f f := sgK.rf
  refine lv_iload_n hx hb dX11_feed_0 rfl (lv_at hl 1 rfl) ?_
  refine lv_if_lt (tgt := 11) hx hb dX11_feed_1 (by decide) (fun c => ?_) (fun c => ?_)
  · skip
    have c_1 : x0.toInt < 0 := (by first | exact (cm_lt1 ti_0 c) | (have z := bn_lt c; have k1 : (0 : Int32).toInt = 0 := ti_0; omega))
    refine lv_iconst (v := (-1)) hx hb dX11_feed_11 ic_m1 ?_
    refine lv_goto (tgt := 26) hx hb dX11_feed_12 (by decide) ?_
    have k99 : ((-1) : Int32).toInt = (-1) := ti_m1
    exact hret _ _ _ _ (-1) f L Q dX11_feed_26 hP hS ⟨⟨hI, hF, rfl, rfl⟩, (by decide), (Eq.trans (Eq.symm (hs.trans (((if_pos c_1).trans rfl)))) hsp)⟩
  · skip
    have c_2 : 0 ≤ x0.toInt := (by first | exact (cm_nlt1 ti_0 c) | (have z := bn_nlt c; have k1 : (0 : Int32).toInt = 0 := ti_0; omega))
    replace hs := hs.trans ((if_neg (Int.not_lt.mpr c_2)).trans rfl)
    refine lv_iload_n hx hb dX11_feed_4 rfl (lv_at hl 1 rfl) ?_
    refine lv_sipush (v := 255) hx hb dX11_feed_5 (by decide) ?_
    refine lv_icmp_le (tgt := 15) hx hb dX11_feed_8 (by decide) (fun c => ?_) (fun c => ?_)
    · skip
      have c_3 : x0.toInt ≤ 255 := (by first | exact (cm_le1 ti_255 c) | (have z := bn_le c; have k1 : (255 : Int32).toInt = 255 := ti_255; omega))
      refine lv_aload_n hx hb dX11_feed_15 rfl (lv_at hl 0 rfl) ?_
      refine sl_gX_0_0_11 hx hb hts hown hK hP dX11_feed_16 ?_
      refine sl_gX_1_2_11 hx hb hts hown hK hP dX11_feed_19 ?_
      refine lv_iload_n hx hb dX11_feed_22 rfl (lv_at hl 1 rfl) ?_
      refine sg_calli (va_runV (As := [.int x0]) (rest := []) ⟨hx, hb, hml, hown, hts⟩ (kX5_takes l D ca za h hh f L Q hI x0 ⟨by omega, by omega⟩ H.size) (sl_c5_takes_0_0_0_0_11 hts ⟨Nat.le_of_ble_eq_true rfl, Nat.le_of_ble_eq_true rfl⟩) (sl_vX_4 hA hK hP hS hZ) rfl rfl hl.1 rfl (lv_room (Nat.le_of_ble_eq_true rfl)) dX11_feed_23 ⟨Nat.le_refl _, Nat.le_refl _⟩) hA hS (fun r_8 f_5 L_6 Q_7 H locs hq hP hS => ?_)
      obtain ⟨⟨hI, hk_f_5, eL9, eQ9⟩, hq, u_9⟩ := hq
      rw [eL9, eQ9] at hP; clear eL9 eQ9
      have hF : sgK WkX11_feed f f_5 := sgK.tr hF hk_f_5 (by decide +kernel)
      exact hret _ _ _ _ (r_8) f_5 L Q dX11_feed_26 hP hS ⟨⟨hI, hF, rfl, rfl⟩, ⟨by omega, by omega⟩, (Eq.trans (Eq.symm (hs.trans ((if_neg (Int.not_lt.mpr c_3)).trans (spl2_e u_9 rfl)))) hsp)⟩
    · skip
      have c_4 : 255 < x0.toInt := (by first | exact (cm_nle1 ti_255 c) | (have z := bn_nle c; have k1 : (255 : Int32).toInt = 255 := ti_255; omega))
      refine lv_iconst (v := (-1)) hx hb dX11_feed_11 ic_m1 ?_
      refine lv_goto (tgt := 26) hx hb dX11_feed_12 (by decide) ?_
      have k99 : ((-1) : Int32).toInt = (-1) := ti_m1
      exact hret _ _ _ _ (-1) f L Q dX11_feed_26 hP hS ⟨⟨hI, hF, rfl, rfl⟩, (by decide), (Eq.trans (Eq.symm (hs.trans ((if_pos c_4).trans rfl))) hsp)⟩

set_option maxHeartbeats 4000000 in
set_option maxRecDepth 100000 in
theorem kX5_next (l : Launch) (D : va_G) (ca : Nat → ClassId) (za h : Nat → Nat) (hh : sgH 52 h) (f : sg_F) (L : sg_L) (Q : sg_Q) (hI : sgI loX hiX f) (sz : Nat) : Met l yX5_next gwX5_next { frames := 0, cells := 0, slots := 0, locals := 0 } (sgP D vwCl (tyX ca) 52 h (eX ca h) zcX za f L Q sz [.ref (h 4)]) (sgQi D vwCl 52 h (eX ca h) sz (fun r f1 L1 Q1 => ((f1 = f ∧ L1 = L ∧ Q1 = Q) ∧ ((-1) ≤ r.toInt ∧ r.toInt ≤ 255) ∧ (r.toInt < 0 ∨ (f 4 6).toInt < (f 4 1).toInt) ∧ (r) = sX5_next f L))) 0 0 (sgA 52 h sz) := by
  refine sg_ofWi (cc := cX5_next) (maxL := 1) RX5 (by decide) rfl rfl (Nat.le_of_ble_eq_true rfl) ?_
  intro p e s m below meth cd Qz ls hx hb hml hown hts hK hZ hP hS hl hret
  have hA := sgY.self (n := 52) (h := h) (sz := s.heap.size)
  have hl : lv_has ls 1 [(0, .ref (h 4))] := hl
  obtain ⟨H, hH⟩ : ∃ z : Heap, z = s.heap := ⟨_, rfl⟩
  obtain ⟨locs, hlo⟩ : ∃ z : List Loc, z = [] := ⟨_, rfl⟩
  have hP : va_P D vwCl (sgw 52 h (eX ca h) f L Q) H := by rw [hH]; exact hP
  have hS : va_S (sgA 52 h s.heap.size) s.heap H locs := by rw [hH, hlo]; exact hS
  suffices hgo : W p l e ({ frames := 0, cells := 0, slots := 0, locals := 0 }) s m ([.ref (h 4)] : List Value).toArray below meth cd H locs 0 0 Qz (F0 m 0 ls []) by rw [hH, hlo] at hgo; exact hgo
  clear hH hlo
  obtain ⟨sp, hsp⟩ : ∃ z : Int32, z = sX5_next f L := ⟨_, rfl⟩
  have hs : sp = sX5_next f L := hsp
  obtain ⟨v_1, ev_1⟩ : ∃ z : Int32, z = f 4 6 := ⟨_, rfl⟩
  have q_2 : 0 ≤ v_1.toInt ∧ v_1.toInt ≤ 120 := by rw [ev_1]; exact hI 4 6
  obtain ⟨v_3, ev_3⟩ : ∃ z : Int32, z = f 4 1 := ⟨_, rfl⟩
  have q_4 : 0 ≤ v_3.toInt ∧ v_3.toInt ≤ 120 := by rw [ev_3]; exact hI 4 1
  have o_5 : (f 4 6).toInt = v_1.toInt := (congrArg Int32.toInt (show f 4 6 = v_1 from ev_1.symm))
  have o_6 : (f 4 1).toInt = v_3.toInt := (congrArg Int32.toInt (show f 4 1 = v_3 from ev_3.symm))
  refine lv_aload_n hx hb dX5_next_0 rfl (lv_at hl 0 rfl) ?_
  refine sl_gX_4_7_5 (v := (f 4 7)) hx hb hts hown hK hP rfl dX5_next_1 ?_
  refine lv_topi (fun v_7 ev_7 => ?_)
  replace hs := hs.trans (spl_e ev_1 (spl_e ev_3 (spl_e ev_7 rfl)))
  have q_8 : (-1) ≤ v_7.toInt ∧ v_7.toInt ≤ 120 := by rw [ev_7]; exact hI 4 7
  refine lv_if_ge (tgt := 30) hx hb dX5_next_4 (by decide) (fun c => ?_) (fun c => ?_)
  · skip
    have c_9 : 0 ≤ v_7.toInt := (by first | exact (cm_le0 ti_0 c) | (have z := bn_le c; have k1 : (0 : Int32).toInt = 0 := ti_0; omega))
    refine lv_iconst (v := (-1)) hx hb dX5_next_30 ic_m1 ?_
    have k99 : ((-1) : Int32).toInt = (-1) := ti_m1
    exact hret _ _ _ _ (-1) f L Q dX5_next_31 hP hS ⟨⟨rfl, rfl, rfl⟩, (by decide), (by omega), (Eq.trans (Eq.symm (hs.trans ((if_neg (Int.not_lt.mpr c_9)).trans rfl))) hsp)⟩
  · skip
    have c_10 : v_7.toInt < 0 := (by first | exact (cm_nle0 ti_0 c) | (have z := bn_nle c; have k1 : (0 : Int32).toInt = 0 := ti_0; omega))
    replace hs := hs.trans ((if_pos c_10).trans rfl)
    refine lv_aload_n hx hb dX5_next_7 rfl (lv_at hl 0 rfl) ?_
    refine sl_gX_4_6_5 (v := v_1) hx hb hts hown hK hP (show f 4 6 = v_1 from ev_1.symm) dX5_next_8 ?_
    refine lv_aload_n hx hb dX5_next_11 rfl (lv_at hl 0 rfl) ?_
    refine sl_gX_4_1_5 (v := v_3) hx hb hts hown hK hP (show f 4 1 = v_3 from ev_3.symm) dX5_next_12 ?_
    refine lv_icmp_ge (tgt := 30) hx hb dX5_next_15 (by decide) (fun c => ?_) (fun c => ?_)
    · skip
      have c_11 : v_3.toInt ≤ v_1.toInt := (by first | exact (bn_le c) | (have z := bn_le c; omega))
      refine lv_iconst (v := (-1)) hx hb dX5_next_30 ic_m1 ?_
      have k99 : ((-1) : Int32).toInt = (-1) := ti_m1
      exact hret _ _ _ _ (-1) f L Q dX5_next_31 hP hS ⟨⟨rfl, rfl, rfl⟩, (by decide), (by omega), (Eq.trans (Eq.symm (hs.trans ((if_neg (Int.not_lt.mpr c_11)).trans rfl))) hsp)⟩
    · skip
      have c_12 : v_1.toInt < v_3.toInt := (by first | exact (bn_nle c) | (have z := bn_nle c; omega))
      refine lv_aload_n hx hb dX5_next_18 rfl (lv_at hl 0 rfl) ?_
      refine sl_gX_4_0_5 hx hb hts hown hK hP dX5_next_19 ?_
      refine lv_aload_n hx hb dX5_next_22 rfl (lv_at hl 0 rfl) ?_
      refine sl_gX_4_6_5 (v := v_1) hx hb hts hown hK hP (show f 4 6 = v_1 from ev_1.symm) dX5_next_23 ?_
      refine sg_iald hx hb hK hP 5 (by decide) 0 rfl rfl (i := v_1) (vp_in_iff.mpr ⟨by omega, by omega⟩) dX5_next_26 ?_
      refine lv_topi (fun v_13 ev_13 => ?_)
      have q_14 : 0 ≤ v_13.toInt ∧ v_13.toInt ≤ 255 := by rw [ev_13]; exact hI 5 _
      refine lv_goto (tgt := 31) hx hb dX5_next_27 (by decide) ?_
      exact hret _ _ _ _ (v_13) f L Q dX5_next_31 hP hS ⟨⟨rfl, rfl, rfl⟩, ⟨by omega, by omega⟩, (by omega), (Eq.trans (Eq.symm (hs.trans ((if_pos c_12).trans (spl_e ev_13 rfl)))) hsp)⟩

set_option maxHeartbeats 4000000 in
set_option maxRecDepth 100000 in
theorem kX5_isDigit (l : Launch) (D : va_G) (ca : Nat → ClassId) (za h : Nat → Nat) (hh : sgH 52 h) (f : sg_F) (L : sg_L) (Q : sg_Q) (hI : sgI loX hiX f) (x0 : Int32) (b0 : (-1) ≤ x0.toInt ∧ x0.toInt ≤ 255) (sz : Nat) : Met l yX5_isDigit gwX5_isDigit { frames := 0, cells := 0, slots := 0, locals := 0 } (sgP D vwCl (tyX ca) 52 h (eX ca h) zcX za f L Q sz [.int x0]) (sgQi D vwCl 52 h (eX ca h) sz (fun r f1 L1 Q1 => ((f1 = f ∧ L1 = L ∧ Q1 = Q) ∧ ((r = 1 ∧ (48 ≤ x0.toInt ∧ x0.toInt ≤ 57)) ∨ (r = 0 ∧ (¬ (48 ≤ x0.toInt ∧ x0.toInt ≤ 57)))) ∧ (r) = sX5_isDigit x0 f L))) 0 0 (sgA 52 h sz) := by
  refine sg_ofWz (cc := cX5_isDigit) (maxL := 1) RX5 (by decide) rfl rfl (Nat.le_of_ble_eq_true rfl) ?_
  intro p e s m below meth cd Qz ls hx hb hml hown hts hK hZ hP hS hl hret
  have hA := sgY.self (n := 52) (h := h) (sz := s.heap.size)
  have hl : lv_has ls 1 [(0, .int x0)] := hl
  obtain ⟨H, hH⟩ : ∃ z : Heap, z = s.heap := ⟨_, rfl⟩
  obtain ⟨locs, hlo⟩ : ∃ z : List Loc, z = [] := ⟨_, rfl⟩
  have hP : va_P D vwCl (sgw 52 h (eX ca h) f L Q) H := by rw [hH]; exact hP
  have hS : va_S (sgA 52 h s.heap.size) s.heap H locs := by rw [hH, hlo]; exact hS
  suffices hgo : W p l e ({ frames := 0, cells := 0, slots := 0, locals := 0 }) s m ([.int x0] : List Value).toArray below meth cd H locs 0 0 Qz (F0 m 0 ls []) by rw [hH, hlo] at hgo; exact hgo
  clear hH hlo
  obtain ⟨sp, hsp⟩ : ∃ z : Int32, z = sX5_isDigit x0 f L := ⟨_, rfl⟩
  have hs : sp = sX5_isDigit x0 f L := hsp
  refine lv_iload_n hx hb dX5_isDigit_0 rfl (lv_at hl 0 rfl) ?_
  refine lv_bipush (v := 48) hx hb dX5_isDigit_1 bp_48 ?_
  refine lv_icmp_lt (tgt := 16) hx hb dX5_isDigit_3 (by decide) (fun c => ?_) (fun c => ?_)
  · skip
    have c_1 : x0.toInt < 48 := (by first | exact (cm_lt1 ti_48 c) | (have z := bn_lt c; have k1 : (48 : Int32).toInt = 48 := ti_48; omega))
    refine lv_iconst (v := 0) hx hb dX5_isDigit_16 ic_0 ?_
    have k99 : (0 : Int32).toInt = 0 := ti_0
    exact hret _ _ _ _ (0) f L Q dX5_isDigit_17 (by decide) hP hS ⟨⟨rfl, rfl, rfl⟩, Or.inr (⟨rfl, by omega⟩), (Eq.trans (Eq.symm (hs.trans (((if_pos c_1).trans rfl)))) hsp)⟩
  · skip
    have c_2 : 48 ≤ x0.toInt := (by first | exact (cm_nlt1 ti_48 c) | (have z := bn_nlt c; have k1 : (48 : Int32).toInt = 48 := ti_48; omega))
    replace hs := hs.trans ((if_neg (Int.not_lt.mpr c_2)).trans rfl)
    refine lv_iload_n hx hb dX5_isDigit_6 rfl (lv_at hl 0 rfl) ?_
    refine lv_bipush (v := 57) hx hb dX5_isDigit_7 bp_57 ?_
    refine lv_icmp_gt (tgt := 16) hx hb dX5_isDigit_9 (by decide) (fun c => ?_) (fun c => ?_)
    · skip
      have c_3 : 57 < x0.toInt := (by first | exact (cm_lt0 ti_57 c) | (have z := bn_lt c; have k1 : (57 : Int32).toInt = 57 := ti_57; omega))
      refine lv_iconst (v := 0) hx hb dX5_isDigit_16 ic_0 ?_
      have k99 : (0 : Int32).toInt = 0 := ti_0
      exact hret _ _ _ _ (0) f L Q dX5_isDigit_17 (by decide) hP hS ⟨⟨rfl, rfl, rfl⟩, Or.inr (⟨rfl, by omega⟩), (Eq.trans (Eq.symm (hs.trans ((if_pos c_3).trans rfl))) hsp)⟩
    · skip
      have c_4 : x0.toInt ≤ 57 := (by first | exact (cm_nlt0 ti_57 c) | (have z := bn_nlt c; have k1 : (57 : Int32).toInt = 57 := ti_57; omega))
      refine lv_iconst (v := 1) hx hb dX5_isDigit_12 ic_1 ?_
      refine lv_goto (tgt := 17) hx hb dX5_isDigit_13 (by decide) ?_
      have k99 : (1 : Int32).toInt = 1 := ti_1
      exact hret _ _ _ _ (1) f L Q dX5_isDigit_17 (by decide) hP hS ⟨⟨rfl, rfl, rfl⟩, Or.inl ⟨rfl, by omega⟩, (Eq.trans (Eq.symm (hs.trans ((if_neg (Int.not_lt.mpr c_4)).trans rfl))) hsp)⟩

abbrev WkX5_write : List (Nat × Nat × Option Nat) := [(4, 4, some 8), (6, 6, none)]
set_option maxHeartbeats 4000000 in
set_option maxRecDepth 100000 in
theorem kX5_write (l : Launch) (D : va_G) (ca : Nat → ClassId) (za h : Nat → Nat) (hh : sgH 52 h) (f : sg_F) (L : sg_L) (Q : sg_Q) (hI : sgI loX hiX f) (x0 : Int32) (sz : Nat) : Met l yX5_write gwX5_write { frames := 0, cells := 0, slots := 0, locals := 0 } (sgP D vwCl (tyX ca) 52 h (eX ca h) zcX za f L Q sz [.ref (h 4), .int x0]) (sgQv D vwCl 52 h (eX ca h) sz (fun f1 L1 Q1 => ((sgI loX hiX f1 ∧ sgK WkX5_write f f1 ∧ L1 = L ∧ Q1 = Q) ∧ (f1) = sX5_write x0 f L))) 0 0 (sgA 52 h sz) := by
  refine sg_ofWv (cc := cX5_write) (maxL := 2) RX5 (by decide) rfl rfl (Nat.le_of_ble_eq_true rfl) ?_
  intro p e s m below meth cd Qz ls hx hb hml hown hts hK hZ hP hS hl hret
  have hA := sgY.self (n := 52) (h := h) (sz := s.heap.size)
  have hl : lv_has ls 2 [(0, .ref (h 4)), (1, .int x0)] := hl
  obtain ⟨H, hH⟩ : ∃ z : Heap, z = s.heap := ⟨_, rfl⟩
  obtain ⟨locs, hlo⟩ : ∃ z : List Loc, z = [] := ⟨_, rfl⟩
  have hP : va_P D vwCl (sgw 52 h (eX ca h) f L Q) H := by rw [hH]; exact hP
  have hS : va_S (sgA 52 h s.heap.size) s.heap H locs := by rw [hH, hlo]; exact hS
  suffices hgo : W p l e ({ frames := 0, cells := 0, slots := 0, locals := 0 }) s m ([.ref (h 4), .int x0] : List Value).toArray below meth cd H locs 0 0 Qz (F0 m 0 ls []) by rw [hH, hlo] at hgo; exact hgo
  clear hH hlo
  obtain ⟨sp, hsp⟩ : ∃ z : sg_F, z = sX5_write x0 f L := ⟨_, rfl⟩
  have hs : sp = sX5_write x0 f L := hsp
  have hF : sgK WkX5_write f f := sgK.rf
  refine lv_aload_n hx hb dX5_write_0 rfl (lv_at hl 0 rfl) ?_
  refine sl_gX_4_8_5 (v := (f 4 8)) hx hb hts hown hK hP rfl dX5_write_1 ?_
  refine lv_topi (fun v_1 ev_1 => ?_)
  replace hs := hs.trans (spl_e ev_1 rfl)
  have q_2 : 0 ≤ v_1.toInt ∧ v_1.toInt ≤ 121 := by rw [ev_1]; exact hI 4 8
  refine lv_aload_n hx hb dX5_write_4 rfl (lv_at hl 0 rfl) ?_
  refine sl_gX_4_3_5 hx hb hts hown hK hP dX5_write_5 ?_
  refine sg_alen hx hb hK hP 6 (by decide) 0 rfl rfl (v := 121) rfl dX5_write_8 ?_
  refine lv_icmp_ge (tgt := 32) hx hb dX5_write_9 (by decide) (fun c => ?_) (fun c => ?_)
  · skip
    have c_3 : 121 ≤ v_1.toInt := (by first | exact (cm_le0 ti_121 c) | (have z := bn_le c; have k1 : (121 : Int32).toInt = 121 := ti_121; omega))
    exact hret _ _ _ _ f L Q dX5_write_32 hP hS ⟨⟨hI, hF, rfl, rfl⟩, (Eq.trans (Eq.symm (hs.trans ((if_neg (Int.not_lt.mpr c_3)).trans rfl))) hsp)⟩
  · skip
    have c_4 : v_1.toInt < 121 := (by first | exact (cm_nle0 ti_121 c) | (have z := bn_nle c; have k1 : (121 : Int32).toInt = 121 := ti_121; omega))
    refine lv_aload_n hx hb dX5_write_12 rfl (lv_at hl 0 rfl) ?_
    refine sl_gX_4_3_5 hx hb hts hown hK hP dX5_write_13 ?_
    refine lv_aload_n hx hb dX5_write_16 rfl (lv_at hl 0 rfl) ?_
    refine sl_gX_4_8_5 (v := v_1) hx hb hts hown hK hP (show f 4 8 = v_1 from ev_1.symm) dX5_write_17 ?_
    refine lv_iload_n hx hb dX5_write_20 rfl (lv_at hl 1 rfl) ?_
    refine sg_iast hx hb hh hA hK hP hS 6 (by decide) 0 (fun _ => rfl) rfl (i := v_1) (x := x0) (vp_in_iff.mpr ⟨by omega, by omega⟩) dX5_write_21 (fun f_5 H locs ef_5 hP hS => ?_)
    have hI : sgI loX hiX f_5 := by rw [ef_5]; exact sgI.put hI 6 v_1.toNatClampNeg (bn_top _)
    have hF : sgK WkX5_write f f_5 := sgK.put hF ef_5 (by rfl)
    refine lv_aload_n hx hb dX5_write_22 rfl (lv_at hl 0 rfl) ?_
    refine lv_dup hx hb dX5_write_23 rfl ?_
    refine sl_gX_4_8_5 (v := v_1) hx hb hts hown hK hP (show f_5 4 8 = v_1 from (by rw [ef_5, sg_up_n (by decide)]; exact ev_1.symm)) dX5_write_24 ?_
    refine lv_iconst (v := 1) hx hb dX5_write_27 ic_1 ?_
    refine lv_iadd hx hb dX5_write_28 ?_
    refine lv_topi (fun v_6 ev_6 => ?_)
    have q_7 : v_6.toInt = v_1.toInt + 1 := by rw [ev_6]; first | exact cm_add ti_1 (by omega) (by omega) | (have k1 : (1 : Int32).toInt = 1 := ti_1; exact (bn_addI (by omega) (by omega)).trans (by omega))
    refine sl_pX_4_8_5 (x := v_6) hx hb hts hown hh hA hK hP hS dX5_write_29 (fun f_8 H locs ef_8 hP hS => ?_)
    have hI : sgI loX hiX f_8 := by rw [ef_8]; exact sgI.put hI 4 8 (show 0 ≤ (v_6 : Int32).toInt ∧ (v_6 : Int32).toInt ≤ 121 from ⟨by omega, by omega⟩)
    have hF : sgK WkX5_write f f_8 := sgK.put hF ef_8 (by rfl)
    exact hret _ _ _ _ f_8 L Q dX5_write_32 hP hS ⟨⟨hI, hF, rfl, rfl⟩, (Eq.trans (Eq.symm (hs.trans ((if_pos c_4).trans (spl_e ef_5 (spl_e ev_6 (spl_e ef_8 rfl)))))) hsp)⟩

abbrev WkX5_number : List (Nat × Nat × Option Nat) := [(4, 4, some 6), (4, 4, some 8), (6, 6, none)]
set_option maxHeartbeats 4000000 in
set_option maxRecDepth 100000 in
theorem kX5_number (l : Launch) (D : va_G) (ca : Nat → ClassId) (za h : Nat → Nat) (hh : sgH 52 h) (f : sg_F) (L : sg_L) (Q : sg_Q) (hI : sgI loX hiX f) (sz : Nat) : Met l yX5_number gwX5_number { frames := 1, cells := 0, slots := 0, locals := 21 } (sgP D vwCl (tyX ca) 52 h (eX ca h) zcX za f L Q sz [.ref (h 4)]) (sgQv D vwCl 52 h (eX ca h) sz (fun f1 L1 Q1 => ((sgI loX hiX f1 ∧ sgK WkX5_number f f1 ∧ L1 = L ∧ Q1 = Q) ∧ (f1) = sX5_number f L))) 0 0 (sgA 52 h sz) := by
  refine sg_ofWv (cc := cX5_number) (maxL := 3) RX5 (by decide) rfl rfl (Nat.le_of_ble_eq_true rfl) ?_
  intro p e s m below meth cd Qz ls hx hb hml hown hts hK hZ hP hS hl hret
  have hA := sgY.self (n := 52) (h := h) (sz := s.heap.size)
  have hl : lv_has ls 3 [(0, .ref (h 4))] := hl
  obtain ⟨H, hH⟩ : ∃ z : Heap, z = s.heap := ⟨_, rfl⟩
  obtain ⟨locs, hlo⟩ : ∃ z : List Loc, z = [] := ⟨_, rfl⟩
  have hP : va_P D vwCl (sgw 52 h (eX ca h) f L Q) H := by rw [hH]; exact hP
  have hS : va_S (sgA 52 h s.heap.size) s.heap H locs := by rw [hH, hlo]; exact hS
  suffices hgo : W p l e ({ frames := 1, cells := 0, slots := 0, locals := 21 }) s m ([.ref (h 4)] : List Value).toArray below meth cd H locs 0 0 Qz (F0 m 0 ls []) by rw [hH, hlo] at hgo; exact hgo
  clear hH hlo
  obtain ⟨sp, hsp⟩ : ∃ z : sg_F, z = sX5_number f L := ⟨_, rfl⟩
  have hs : sp = sX5_number f L := hsp
  have hF : sgK WkX5_number f f := sgK.rf
  have blk_48 : ∀ (y1_48 : Int32) (fp_48 : sg_F) (H : Heap) (locs : List Loc) (ls : Array Slot), sp = sX5_number_b48 y1_48 fp_48 L → sgI loX hiX fp_48 → sgK WkX5_number f fp_48 → va_P D vwCl (sgw 52 h (eX ca h) fp_48 L Q) H → va_S (sgA 52 h s.heap.size) s.heap H locs → lv_has ls 3 [(0, .ref (h 4)), (1, .int y1_48)] → W p l e ({ frames := 1, cells := 0, slots := 0, locals := 21 }) s m ([.ref (h 4)] : List Value).toArray below meth cd H locs 0 0 Qz (F0 m 48 ls []) := by
    intro y1_48 fp_48 H locs ls hs hI hF hP hS hl
    refine lv_aload_n hx hb dX5_number_48 rfl (lv_at hl 0 rfl) ?_
    refine lv_sipush (v := 1000) hx hb dX5_number_49 (by decide) ?_
    refine lv_iload_n hx hb dX5_number_52 rfl (lv_at hl 1 rfl) ?_
    refine lv_iadd hx hb dX5_number_53 ?_
    refine lv_topi (fun v_1 ev_1 => ?_)
    refine sg_callv (va_runV (As := [.int v_1]) (rest := []) ⟨hx, hb, hml, hown, hts⟩ (kX5_write l D ca za h hh fp_48 L Q hI v_1 H.size) (sl_c5_write_0_0_0_0_5 hts ⟨Nat.le_of_ble_eq_true rfl, Nat.le_of_ble_eq_true rfl⟩) (sl_vX_4 hA hK hP hS hZ) rfl rfl hl.1 rfl (lv_room (Nat.le_of_ble_eq_true rfl)) dX5_number_54 ⟨Nat.le_refl _, Nat.le_refl _⟩) hA hS (fun f_2 L_3 Q_4 H locs hq hP hS => ?_)
    obtain ⟨⟨hI, hk_f_2, eL9, eQ9⟩, u_5⟩ := hq
    rw [eL9, eQ9] at hP; clear eL9 eQ9
    have hF : sgK WkX5_number f f_2 := sgK.tr hF hk_f_2 (by decide +kernel)
    exact hret _ _ _ _ f_2 L Q dX5_number_57 hP hS ⟨⟨hI, hF, rfl, rfl⟩, (Eq.trans (Eq.symm (hs.trans ((spl_e ev_1 (spl_e u_5 rfl))))) hsp)⟩
  have loop_4 : ∀ (n_4 : Nat) (y1_4 : Int32) (y2_4 : Int32) (fp_4 : sg_F) (H : Heap) (locs : List Loc) (ls : Array Slot), sp = sX5_number_l4 n_4 y1_4 y2_4 fp_4 L → 4 - y2_4.toInt < (n_4 : Int) → 0 ≤ y2_4.toInt ∧ y2_4.toInt ≤ 4 → sgI loX hiX fp_4 → sgK WkX5_number f fp_4 → va_P D vwCl (sgw 52 h (eX ca h) fp_4 L Q) H → va_S (sgA 52 h s.heap.size) s.heap H locs → lv_has ls 3 [(0, .ref (h 4)), (1, .int y1_4), (2, .int y2_4)] → W p l e ({ frames := 1, cells := 0, slots := 0, locals := 21 }) s m ([.ref (h 4)] : List Value).toArray below meth cd H locs 0 0 Qz (F0 m 4 ls []) := by
    intro n_4
    induction n_4 with
    | zero => intro y1_4 y2_4 fp_4 H locs ls hs hm_4 hy0_4 hI hF hP hS hl; exact absurd hm_4 (by omega)
    | succ n_4 ih_4 =>
      intro y1_4 y2_4 fp_4 H locs ls hs hm_4 hy0_4 hI hF hP hS hl
      have hs : sp = sX5_number_h4 (sX5_number_l4 n_4) y1_4 y2_4 fp_4 L := hs
      refine lv_iload_n hx hb dX5_number_4 rfl (lv_at hl 2 rfl) ?_
      refine lv_iconst (v := 4) hx hb dX5_number_5 ic_4 ?_
      refine lv_icmp_ge (tgt := 48) hx hb dX5_number_6 (by decide) (fun c => ?_) (fun c => ?_)
      · skip
        have c_6 : 4 ≤ y2_4.toInt := (by first | exact (cm_le0 ti_4 c) | (have z := bn_le c; have k1 : (4 : Int32).toInt = 4 := ti_4; omega))
        exact blk_48 y1_4 fp_4 _ _ _ (hs.trans (((if_neg (Int.not_lt.mpr c_6)).trans rfl))) hI hF hP hS (lv_sub hl [0, 1] rfl)
      · skip
        have c_7 : y2_4.toInt < 4 := (by first | exact (cm_nle0 ti_4 c) | (have z := bn_nle c; have k1 : (4 : Int32).toInt = 4 := ti_4; omega))
        refine lv_aload_n hx hb dX5_number_9 rfl (lv_at hl 0 rfl) ?_
        obtain ⟨v_8, ev_8⟩ : ∃ z : Int32, z = fp_4 4 6 := ⟨_, rfl⟩
        have q_9 : 0 ≤ v_8.toInt ∧ v_8.toInt ≤ 120 := by rw [ev_8]; exact hI 4 6
        have q_10 : (fp_4 4 6).toInt = v_8.toInt := (congrArg Int32.toInt (show fp_4 4 6 = v_8 from ev_8.symm))
        obtain ⟨v_11, ev_11⟩ : ∃ z : Int32, z = fp_4 4 1 := ⟨_, rfl⟩
        have q_12 : 0 ≤ v_11.toInt ∧ v_11.toInt ≤ 120 := by rw [ev_11]; exact hI 4 1
        have q_13 : (fp_4 4 1).toInt = v_11.toInt := (congrArg Int32.toInt (show fp_4 4 1 = v_11 from ev_11.symm))
        refine sg_calli (va_runV (As := []) (rest := []) ⟨hx, hb, hml, hown, hts⟩ (kX5_next l D ca za h hh fp_4 L Q hI H.size) (sl_c5_next_0_0_0_0_5 hts ⟨Nat.le_of_ble_eq_true rfl, Nat.le_of_ble_eq_true rfl⟩) (sl_vX_4 hA hK hP hS hZ) rfl rfl hl.1 rfl (lv_room (Nat.le_of_ble_eq_true rfl)) dX5_number_10 ⟨Nat.le_refl _, Nat.le_refl _⟩) hA hS (fun r_17 f_14 L_15 Q_16 H locs hq hP hS => ?_)
        obtain ⟨⟨ef9, eL9, eQ9⟩, hq, p_18, u_19⟩ := hq
        rw [ef9, eL9, eQ9] at hP; clear ef9 eL9 eQ9
        refine sg_calli (va_runS (As := [.int r_17]) (rest := []) ⟨hx, hb, hml, hown, hts⟩ (kX5_isDigit l D ca za h hh fp_4 L Q hI r_17 ⟨by omega, by omega⟩ H.size) (va_cwS 1 hts (gw_S (fun _ h => List.mem_cons_of_mem _ h) mw_505 mw_506 mw_73 mw_504) rfl rfl rfl hd_yX5_isDigit.2 ⟨Nat.le_of_ble_eq_true rfl, Nat.le_of_ble_eq_true rfl⟩) (sg_preS hA hK hP hS hZ) rfl rfl hl.1 rfl (lv_room (Nat.le_of_ble_eq_true rfl)) dX5_number_13 ⟨Nat.le_refl _, Nat.le_refl _⟩) hA hS (fun r_23 f_20 L_21 Q_22 H locs hq hP hS => ?_)
        obtain ⟨⟨ef9, eL9, eQ9⟩, hq, u_24⟩ := hq
        replace hs := hs.trans ((if_pos c_7).trans (spl_e ev_8 (spl_e ev_11 (spl_e u_19 (spl_e u_24 rfl)))))
        rw [ef9, eL9, eQ9] at hP; clear ef9 eL9 eQ9
        rcases hq with ⟨rfl, hq⟩ | ⟨rfl, hq⟩
        · skip
          have hc_25 := hq
          refine lv_if_eq (tgt := 48) hx hb dX5_number_16 (by decide) (fun c => absurd c (by decide)) (fun c => ?_)
          refine lv_iload_n hx hb dX5_number_19 rfl (lv_at hl 1 rfl) ?_
          refine lv_bipush (v := 10) hx hb dX5_number_20 bp_10 ?_
          refine lv_imul hx hb dX5_number_22 ?_
          refine lv_topi (fun v_26 ev_26 => ?_)
          refine lv_aload_n hx hb dX5_number_23 rfl (lv_at hl 0 rfl) ?_
          refine sg_calli (va_runV (As := []) (rest := [.int v_26]) ⟨hx, hb, hml, hown, hts⟩ (kX5_next l D ca za h hh fp_4 L Q hI H.size) (sl_c5_next_0_0_0_0_5 hts ⟨Nat.le_of_ble_eq_true rfl, Nat.le_of_ble_eq_true rfl⟩) (sl_vX_4 hA hK hP hS hZ) rfl rfl hl.1 rfl (lv_room (Nat.le_of_ble_eq_true rfl)) dX5_number_24 ⟨Nat.le_refl _, Nat.le_refl _⟩) hA hS (fun r_32 f_29 L_30 Q_31 H locs hq hP hS => ?_)
          obtain ⟨⟨ef9, eL9, eQ9⟩, hq, p_33, u_34⟩ := hq
          rw [ef9, eL9, eQ9] at hP; clear ef9 eL9 eQ9
          rw [show r_32 = r_17 from u_34.trans u_19.symm]
          refine lv_iadd hx hb dX5_number_27 ?_
          refine lv_topi (fun v_35 ev_35 => ?_)
          refine lv_bipush (v := 48) hx hb dX5_number_28 bp_48 ?_
          refine lv_isub hx hb dX5_number_30 ?_
          refine lv_topi (fun v_36 ev_36 => ?_)
          refine lv_istore_n (lv' := [(1, .int v_36), (0, .ref (h 4)), (2, .int y2_4)]) hx hb dX5_number_31 rfl hl (by decide) rfl (fun ls hl => ?_)
          refine lv_aload_n hx hb dX5_number_32 rfl (lv_at hl 1 rfl) ?_
          refine lv_dup hx hb dX5_number_33 rfl ?_
          refine sl_gX_4_6_5 (v := v_8) hx hb hts hown hK hP (show fp_4 4 6 = v_8 from ev_8.symm) dX5_number_34 ?_
          refine lv_iconst (v := 1) hx hb dX5_number_37 ic_1 ?_
          refine lv_iadd hx hb dX5_number_38 ?_
          refine lv_topi (fun v_37 ev_37 => ?_)
          have q_38 : v_37.toInt = v_8.toInt + 1 := by rw [ev_37]; first | exact cm_add ti_1 (by omega) (by omega) | (have k1 : (1 : Int32).toInt = 1 := ti_1; exact (bn_addI (by omega) (by omega)).trans (by omega))
          refine sl_pX_4_6_5 (x := v_37) hx hb hts hown hh hA hK hP hS dX5_number_39 (fun f_39 H locs ef_39 hP hS => ?_)
          have hI : sgI loX hiX f_39 := by rw [ef_39]; exact sgI.put hI 4 6 (show 0 ≤ (v_37 : Int32).toInt ∧ (v_37 : Int32).toInt ≤ 120 from ⟨by omega, by omega⟩)
          have hF : sgK WkX5_number f f_39 := sgK.put hF ef_39 (by rfl)
          obtain ⟨v_40, ev_40⟩ : ∃ z : Int32, z = y2_4 + 1 := ⟨_, rfl⟩
          have q_41 : v_40.toInt = y2_4.toInt + 1 := by rw [ev_40]; exact (bn_addc y2_4 1 (by decide) (by omega) (by omega))
          refine lv_iinc (v := v_40) (lv' := [(2, .int v_40), (1, .int v_36), (0, .ref (h 4))]) hx hb dX5_number_42 hl (k := 2) rfl (by rw [ev_40]; rfl) (by decide) rfl (fun ls hl => ?_)
          refine lv_goto (tgt := 4) hx hb dX5_number_45 (by decide) ?_
          exact ih_4 v_36 v_40 f_39 _ _ _ (hs.trans ((if_pos rfl).trans (spl_e ev_26 (spl_e ev_35 (spl_e ev_36 (spl_e ev_37 (spl_e ef_39 (spl_e ev_40 rfl)))))))) (by omega) ⟨by omega, by omega⟩ hI hF hP hS (lv_sub hl [2, 1, 0] rfl)
        · skip
          have hc_25 := hq
          refine lv_if_eq (tgt := 48) hx hb dX5_number_16 (by decide) (fun c => ?_) (fun c => absurd c (by decide))
          exact blk_48 y1_4 fp_4 _ _ _ (hs.trans ((if_neg (by decide)).trans rfl)) hI hF hP hS (lv_sub hl [0, 1] rfl)
  refine lv_iconst (v := 0) hx hb dX5_number_0 ic_0 ?_
  refine lv_istore_n (lv' := [(1, .int 0), (0, .ref (h 4))]) hx hb dX5_number_1 rfl hl (by decide) rfl (fun ls hl => ?_)
  refine lv_iconst (v := 0) hx hb dX5_number_2 ic_0 ?_
  refine lv_istore_n (lv' := [(2, .int 0), (1, .int 0), (0, .ref (h 4))]) hx hb dX5_number_3 rfl hl (by decide) rfl (fun ls hl => ?_)
  exact loop_4 5 0 0 f _ _ _ hs (by have kc0 : (0 : Int32).toInt = 0 := ti_0; have kc1 : (0 : Int32).toInt = 0 := ti_0; omega) (by decide) hI hF hP hS (lv_sub hl [2, 1, 0] rfl)

set_option maxHeartbeats 4000000 in
set_option maxRecDepth 100000 in
theorem kX5_isName (l : Launch) (D : va_G) (ca : Nat → ClassId) (za h : Nat → Nat) (hh : sgH 52 h) (f : sg_F) (L : sg_L) (Q : sg_Q) (hI : sgI loX hiX f) (x0 : Int32) (b0 : (-1) ≤ x0.toInt ∧ x0.toInt ≤ 255) (sz : Nat) : Met l yX5_isName gwX5_isName { frames := 0, cells := 0, slots := 0, locals := 0 } (sgP D vwCl (tyX ca) 52 h (eX ca h) zcX za f L Q sz [.int x0]) (sgQi D vwCl 52 h (eX ca h) sz (fun r f1 L1 Q1 => ((f1 = f ∧ L1 = L ∧ Q1 = Q) ∧ ((r = 1 ∧ (100 ≤ x0.toInt ∧ x0.toInt ≤ 119)) ∨ (r = 0 ∧ (True))) ∧ (r) = sX5_isName x0 f L))) 0 0 (sgA 52 h sz) := by
  refine sg_ofWz (cc := cX5_isName) (maxL := 1) RX5 (by decide) rfl rfl (Nat.le_of_ble_eq_true rfl) ?_
  intro p e s m below meth cd Qz ls hx hb hml hown hts hK hZ hP hS hl hret
  have hA := sgY.self (n := 52) (h := h) (sz := s.heap.size)
  have hl : lv_has ls 1 [(0, .int x0)] := hl
  obtain ⟨H, hH⟩ : ∃ z : Heap, z = s.heap := ⟨_, rfl⟩
  obtain ⟨locs, hlo⟩ : ∃ z : List Loc, z = [] := ⟨_, rfl⟩
  have hP : va_P D vwCl (sgw 52 h (eX ca h) f L Q) H := by rw [hH]; exact hP
  have hS : va_S (sgA 52 h s.heap.size) s.heap H locs := by rw [hH, hlo]; exact hS
  suffices hgo : W p l e ({ frames := 0, cells := 0, slots := 0, locals := 0 }) s m ([.int x0] : List Value).toArray below meth cd H locs 0 0 Qz (F0 m 0 ls []) by rw [hH, hlo] at hgo; exact hgo
  clear hH hlo
  obtain ⟨sp, hsp⟩ : ∃ z : Int32, z = sX5_isName x0 f L := ⟨_, rfl⟩
  have hs : sp = sX5_isName x0 f L := hsp
  refine lv_iload_n hx hb dX5_isName_0 rfl (lv_at hl 0 rfl) ?_
  refine lv_bipush (v := 100) hx hb dX5_isName_1 bp_100 ?_
  refine lv_icmp_eq (tgt := 36) hx hb dX5_isName_3 (by decide) (fun c => ?_) (fun c => ?_)
  · skip
    have c_1 : x0.toInt = 100 := (by first | exact (cm_eq1 ti_100 c) | (have z := Int32.toInt_inj.mpr c; have k1 : (100 : Int32).toInt = 100 := ti_100; omega))
    refine lv_iconst (v := 1) hx hb dX5_isName_36 ic_1 ?_
    refine lv_goto (tgt := 41) hx hb dX5_isName_37 (by decide) ?_
    have k99 : (1 : Int32).toInt = 1 := ti_1
    exact hret _ _ _ _ (1) f L Q dX5_isName_41 (by decide) hP hS ⟨⟨rfl, rfl, rfl⟩, Or.inl ⟨rfl, by omega⟩, (Eq.trans (Eq.symm (hs.trans (((if_pos c_1).trans rfl)))) hsp)⟩
  · skip
    have c_2 : x0.toInt ≠ 100 := (by first | exact (cm_ne1 ti_100 c) | (have z := bn_ne c; have k1 : (100 : Int32).toInt = 100 := ti_100; omega))
    replace hs := hs.trans ((if_neg c_2).trans rfl)
    refine lv_iload_n hx hb dX5_isName_6 rfl (lv_at hl 0 rfl) ?_
    refine lv_bipush (v := 117) hx hb dX5_isName_7 bp_117 ?_
    refine lv_icmp_eq (tgt := 36) hx hb dX5_isName_9 (by decide) (fun c => ?_) (fun c => ?_)
    · skip
      have c_3 : x0.toInt = 117 := (by first | exact (cm_eq1 ti_117 c) | (have z := Int32.toInt_inj.mpr c; have k1 : (117 : Int32).toInt = 117 := ti_117; omega))
      refine lv_iconst (v := 1) hx hb dX5_isName_36 ic_1 ?_
      refine lv_goto (tgt := 41) hx hb dX5_isName_37 (by decide) ?_
      have k99 : (1 : Int32).toInt = 1 := ti_1
      exact hret _ _ _ _ (1) f L Q dX5_isName_41 (by decide) hP hS ⟨⟨rfl, rfl, rfl⟩, Or.inl ⟨rfl, by omega⟩, (Eq.trans (Eq.symm (hs.trans ((if_pos c_3).trans rfl))) hsp)⟩
    · skip
      have c_4 : x0.toInt ≠ 117 := (by first | exact (cm_ne1 ti_117 c) | (have z := bn_ne c; have k1 : (117 : Int32).toInt = 117 := ti_117; omega))
      replace hs := hs.trans ((if_neg c_4).trans rfl)
      refine lv_iload_n hx hb dX5_isName_12 rfl (lv_at hl 0 rfl) ?_
      refine lv_bipush (v := 115) hx hb dX5_isName_13 bp_115 ?_
      refine lv_icmp_eq (tgt := 36) hx hb dX5_isName_15 (by decide) (fun c => ?_) (fun c => ?_)
      · skip
        have c_5 : x0.toInt = 115 := (by first | exact (cm_eq1 ti_115 c) | (have z := Int32.toInt_inj.mpr c; have k1 : (115 : Int32).toInt = 115 := ti_115; omega))
        refine lv_iconst (v := 1) hx hb dX5_isName_36 ic_1 ?_
        refine lv_goto (tgt := 41) hx hb dX5_isName_37 (by decide) ?_
        have k99 : (1 : Int32).toInt = 1 := ti_1
        exact hret _ _ _ _ (1) f L Q dX5_isName_41 (by decide) hP hS ⟨⟨rfl, rfl, rfl⟩, Or.inl ⟨rfl, by omega⟩, (Eq.trans (Eq.symm (hs.trans ((if_pos c_5).trans rfl))) hsp)⟩
      · skip
        have c_6 : x0.toInt ≠ 115 := (by first | exact (cm_ne1 ti_115 c) | (have z := bn_ne c; have k1 : (115 : Int32).toInt = 115 := ti_115; omega))
        replace hs := hs.trans ((if_neg c_6).trans rfl)
        refine lv_iload_n hx hb dX5_isName_18 rfl (lv_at hl 0 rfl) ?_
        refine lv_bipush (v := 119) hx hb dX5_isName_19 bp_119 ?_
        refine lv_icmp_eq (tgt := 36) hx hb dX5_isName_21 (by decide) (fun c => ?_) (fun c => ?_)
        · skip
          have c_7 : x0.toInt = 119 := (by first | exact (cm_eq1 ti_119 c) | (have z := Int32.toInt_inj.mpr c; have k1 : (119 : Int32).toInt = 119 := ti_119; omega))
          refine lv_iconst (v := 1) hx hb dX5_isName_36 ic_1 ?_
          refine lv_goto (tgt := 41) hx hb dX5_isName_37 (by decide) ?_
          have k99 : (1 : Int32).toInt = 1 := ti_1
          exact hret _ _ _ _ (1) f L Q dX5_isName_41 (by decide) hP hS ⟨⟨rfl, rfl, rfl⟩, Or.inl ⟨rfl, by omega⟩, (Eq.trans (Eq.symm (hs.trans ((if_pos c_7).trans rfl))) hsp)⟩
        · skip
          have c_8 : x0.toInt ≠ 119 := (by first | exact (cm_ne1 ti_119 c) | (have z := bn_ne c; have k1 : (119 : Int32).toInt = 119 := ti_119; omega))
          replace hs := hs.trans ((if_neg c_8).trans rfl)
          refine lv_iload_n hx hb dX5_isName_24 rfl (lv_at hl 0 rfl) ?_
          refine lv_bipush (v := 104) hx hb dX5_isName_25 bp_104 ?_
          refine lv_icmp_eq (tgt := 36) hx hb dX5_isName_27 (by decide) (fun c => ?_) (fun c => ?_)
          · skip
            have c_9 : x0.toInt = 104 := (by first | exact (cm_eq1 ti_104 c) | (have z := Int32.toInt_inj.mpr c; have k1 : (104 : Int32).toInt = 104 := ti_104; omega))
            refine lv_iconst (v := 1) hx hb dX5_isName_36 ic_1 ?_
            refine lv_goto (tgt := 41) hx hb dX5_isName_37 (by decide) ?_
            have k99 : (1 : Int32).toInt = 1 := ti_1
            exact hret _ _ _ _ (1) f L Q dX5_isName_41 (by decide) hP hS ⟨⟨rfl, rfl, rfl⟩, Or.inl ⟨rfl, by omega⟩, (Eq.trans (Eq.symm (hs.trans ((if_pos c_9).trans rfl))) hsp)⟩
          · skip
            have c_10 : x0.toInt ≠ 104 := (by first | exact (cm_ne1 ti_104 c) | (have z := bn_ne c; have k1 : (104 : Int32).toInt = 104 := ti_104; omega))
            replace hs := hs.trans ((if_neg c_10).trans rfl)
            refine lv_iload_n hx hb dX5_isName_30 rfl (lv_at hl 0 rfl) ?_
            refine lv_bipush (v := 107) hx hb dX5_isName_31 bp_107 ?_
            refine lv_icmp_ne (tgt := 40) hx hb dX5_isName_33 (by decide) (fun c => ?_) (fun c => ?_)
            · skip
              have c_11 : x0.toInt ≠ 107 := (by first | exact (cm_ne1 ti_107 c) | (have z := bn_ne c; have k1 : (107 : Int32).toInt = 107 := ti_107; omega))
              refine lv_iconst (v := 0) hx hb dX5_isName_40 ic_0 ?_
              have k99 : (0 : Int32).toInt = 0 := ti_0
              exact hret _ _ _ _ (0) f L Q dX5_isName_41 (by decide) hP hS ⟨⟨rfl, rfl, rfl⟩, Or.inr (⟨rfl, trivial⟩), (Eq.trans (Eq.symm (hs.trans ((if_neg c_11).trans rfl))) hsp)⟩
            · skip
              have c_12 : x0.toInt = 107 := (by first | exact (cm_eq1 ti_107 c) | (have z := Int32.toInt_inj.mpr c; have k1 : (107 : Int32).toInt = 107 := ti_107; omega))
              refine lv_iconst (v := 1) hx hb dX5_isName_36 ic_1 ?_
              refine lv_goto (tgt := 41) hx hb dX5_isName_37 (by decide) ?_
              have k99 : (1 : Int32).toInt = 1 := ti_1
              exact hret _ _ _ _ (1) f L Q dX5_isName_41 (by decide) hP hS ⟨⟨rfl, rfl, rfl⟩, Or.inl ⟨rfl, by omega⟩, (Eq.trans (Eq.symm (hs.trans ((if_pos c_12).trans rfl))) hsp)⟩

abbrev WkX5_fail : List (Nat × Nat × Option Nat) := [(4, 4, some 7)]
set_option maxHeartbeats 4000000 in
set_option maxRecDepth 100000 in
theorem kX5_fail (l : Launch) (D : va_G) (ca : Nat → ClassId) (za h : Nat → Nat) (hh : sgH 52 h) (f : sg_F) (L : sg_L) (Q : sg_Q) (hI : sgI loX hiX f) (sz : Nat) : Met l yX5_fail gwX5_fail { frames := 0, cells := 0, slots := 0, locals := 0 } (sgP D vwCl (tyX ca) 52 h (eX ca h) zcX za f L Q sz [.ref (h 4)]) (sgQv D vwCl 52 h (eX ca h) sz (fun f1 L1 Q1 => ((sgI loX hiX f1 ∧ sgK WkX5_fail f f1 ∧ L1 = L ∧ Q1 = Q) ∧ (f1) = sX5_fail f L))) 0 0 (sgA 52 h sz) := by
  refine sg_ofWv (cc := cX5_fail) (maxL := 1) RX5 (by decide) rfl rfl (Nat.le_of_ble_eq_true rfl) ?_
  intro p e s m below meth cd Qz ls hx hb hml hown hts hK hZ hP hS hl hret
  have hA := sgY.self (n := 52) (h := h) (sz := s.heap.size)
  have hl : lv_has ls 1 [(0, .ref (h 4))] := hl
  obtain ⟨H, hH⟩ : ∃ z : Heap, z = s.heap := ⟨_, rfl⟩
  obtain ⟨locs, hlo⟩ : ∃ z : List Loc, z = [] := ⟨_, rfl⟩
  have hP : va_P D vwCl (sgw 52 h (eX ca h) f L Q) H := by rw [hH]; exact hP
  have hS : va_S (sgA 52 h s.heap.size) s.heap H locs := by rw [hH, hlo]; exact hS
  suffices hgo : W p l e ({ frames := 0, cells := 0, slots := 0, locals := 0 }) s m ([.ref (h 4)] : List Value).toArray below meth cd H locs 0 0 Qz (F0 m 0 ls []) by rw [hH, hlo] at hgo; exact hgo
  clear hH hlo
  obtain ⟨sp, hsp⟩ : ∃ z : sg_F, z = sX5_fail f L := ⟨_, rfl⟩
  have hs : sp = sX5_fail f L := hsp
  have hF : sgK WkX5_fail f f := sgK.rf
  refine lv_aload_n hx hb dX5_fail_0 rfl (lv_at hl 0 rfl) ?_
  refine sl_gX_4_7_5 (v := (f 4 7)) hx hb hts hown hK hP rfl dX5_fail_1 ?_
  refine lv_topi (fun v_1 ev_1 => ?_)
  replace hs := hs.trans (spl_e ev_1 rfl)
  have q_2 : (-1) ≤ v_1.toInt ∧ v_1.toInt ≤ 120 := by rw [ev_1]; exact hI 4 7
  refine lv_if_ge (tgt := 15) hx hb dX5_fail_4 (by decide) (fun c => ?_) (fun c => ?_)
  · skip
    have c_3 : 0 ≤ v_1.toInt := (by first | exact (cm_le0 ti_0 c) | (have z := bn_le c; have k1 : (0 : Int32).toInt = 0 := ti_0; omega))
    exact hret _ _ _ _ f L Q dX5_fail_15 hP hS ⟨⟨hI, hF, rfl, rfl⟩, (Eq.trans (Eq.symm (hs.trans ((if_neg (Int.not_lt.mpr c_3)).trans rfl))) hsp)⟩
  · skip
    have c_4 : v_1.toInt < 0 := (by first | exact (cm_nle0 ti_0 c) | (have z := bn_nle c; have k1 : (0 : Int32).toInt = 0 := ti_0; omega))
    refine lv_aload_n hx hb dX5_fail_7 rfl (lv_at hl 0 rfl) ?_
    refine lv_aload_n hx hb dX5_fail_8 rfl (lv_at hl 0 rfl) ?_
    refine sl_gX_4_6_5 (v := (f 4 6)) hx hb hts hown hK hP rfl dX5_fail_9 ?_
    refine lv_topi (fun v_5 ev_5 => ?_)
    have q_6 : 0 ≤ v_5.toInt ∧ v_5.toInt ≤ 120 := by rw [ev_5]; exact hI 4 6
    refine sl_pX_4_7_5 (x := v_5) hx hb hts hown hh hA hK hP hS dX5_fail_12 (fun f_7 H locs ef_7 hP hS => ?_)
    have hI : sgI loX hiX f_7 := by rw [ef_7]; exact sgI.put hI 4 7 (show (-1) ≤ (v_5 : Int32).toInt ∧ (v_5 : Int32).toInt ≤ 120 from ⟨by omega, by omega⟩)
    have hF : sgK WkX5_fail f f_7 := sgK.put hF ef_7 (by rfl)
    exact hret _ _ _ _ f_7 L Q dX5_fail_15 hP hS ⟨⟨hI, hF, rfl, rfl⟩, (Eq.trans (Eq.symm (hs.trans ((if_pos c_4).trans (spl_e ev_5 (spl_e ef_7 rfl))))) hsp)⟩

abbrev WkX5_operand_6 : List (Nat × Nat × Option Nat) := [(4, 4, some 6), (4, 4, some 7), (4, 4, some 8), (6, 6, none)]
set_option maxHeartbeats 4000000 in
set_option maxRecDepth 100000 in
theorem kX5_operand_6 (l : Launch) (D : va_G) (ca : Nat → ClassId) (za h : Nat → Nat) (hh : sgH 52 h) (f : sg_F) (L : sg_L) (Q : sg_Q) (hI : sgI loX hiX f) (sz : Nat) : Met l yX5_operand gwX5_operand { frames := 2, cells := 0, slots := 0, locals := 43 } (sgP D vwCl (tyX ca) 52 h (eX ca h) zcX za f L Q sz [.ref (h 4), .int 6]) (sgQv D vwCl 52 h (eX ca h) sz (fun f1 L1 Q1 => ((sgI loX hiX f1 ∧ sgK WkX5_operand_6 f f1 ∧ L1 = L ∧ Q1 = Q) ∧ (f1) = sX5_operand_6 f L))) 0 0 (sgA 52 h sz) := by
  refine sg_ofWv (cc := cX5_operand) (maxL := 3) RX5 (by decide) rfl rfl (Nat.le_of_ble_eq_true rfl) ?_
  intro p e s m below meth cd Qz ls hx hb hml hown hts hK hZ hP hS hl hret
  have hA := sgY.self (n := 52) (h := h) (sz := s.heap.size)
  have hl : lv_has ls 3 [(0, .ref (h 4)), (1, .int 6)] := hl
  obtain ⟨H, hH⟩ : ∃ z : Heap, z = s.heap := ⟨_, rfl⟩
  obtain ⟨locs, hlo⟩ : ∃ z : List Loc, z = [] := ⟨_, rfl⟩
  have hP : va_P D vwCl (sgw 52 h (eX ca h) f L Q) H := by rw [hH]; exact hP
  have hS : va_S (sgA 52 h s.heap.size) s.heap H locs := by rw [hH, hlo]; exact hS
  suffices hgo : W p l e ({ frames := 2, cells := 0, slots := 0, locals := 43 }) s m ([.ref (h 4), .int 6] : List Value).toArray below meth cd H locs 0 0 Qz (F0 m 0 ls []) by rw [hH, hlo] at hgo; exact hgo
  clear hH hlo
  obtain ⟨sp, hsp⟩ : ∃ z : sg_F, z = sX5_operand_6 f L := ⟨_, rfl⟩
  have hs : sp = sX5_operand_6 f L := hsp
  have hF : sgK WkX5_operand_6 f f := sgK.rf
  refine lv_aload_n hx hb dX5_operand_0 rfl (lv_at hl 0 rfl) ?_
  obtain ⟨v_1, ev_1⟩ : ∃ z : Int32, z = f 4 6 := ⟨_, rfl⟩
  have q_2 : 0 ≤ v_1.toInt ∧ v_1.toInt ≤ 120 := by rw [ev_1]; exact hI 4 6
  have q_3 : (f 4 6).toInt = v_1.toInt := (congrArg Int32.toInt (show f 4 6 = v_1 from ev_1.symm))
  obtain ⟨v_4, ev_4⟩ : ∃ z : Int32, z = f 4 1 := ⟨_, rfl⟩
  have q_5 : 0 ≤ v_4.toInt ∧ v_4.toInt ≤ 120 := by rw [ev_4]; exact hI 4 1
  have q_6 : (f 4 1).toInt = v_4.toInt := (congrArg Int32.toInt (show f 4 1 = v_4 from ev_4.symm))
  refine sg_calli (va_runV (As := []) (rest := []) ⟨hx, hb, hml, hown, hts⟩ (kX5_next l D ca za h hh f L Q hI H.size) (sl_c5_next_0_0_0_0_5 hts ⟨Nat.le_of_ble_eq_true rfl, Nat.le_of_ble_eq_true rfl⟩) (sl_vX_4 hA hK hP hS hZ) rfl rfl hl.1 rfl (lv_room (Nat.le_of_ble_eq_true rfl)) dX5_operand_1 ⟨Nat.le_refl _, Nat.le_refl _⟩) hA hS (fun r_10 f_7 L_8 Q_9 H locs hq hP hS => ?_)
  obtain ⟨⟨ef9, eL9, eQ9⟩, hq, p_11, u_12⟩ := hq
  rw [ef9, eL9, eQ9] at hP; clear ef9 eL9 eQ9
  refine lv_istore_n (lv' := [(2, .int r_10), (0, .ref (h 4)), (1, .int 6)]) hx hb dX5_operand_4 rfl hl (by decide) rfl (fun ls hl => ?_)
  refine lv_iload_n hx hb dX5_operand_5 rfl (lv_at hl 0 rfl) ?_
  refine sg_calli (va_runS (As := [.int r_10]) (rest := []) ⟨hx, hb, hml, hown, hts⟩ (kX5_isDigit l D ca za h hh f L Q hI r_10 ⟨by omega, by omega⟩ H.size) (va_cwS 1 hts (gw_S (fun _ h => List.mem_cons_of_mem _ h) mw_505 mw_506 mw_73 mw_504) rfl rfl rfl hd_yX5_isDigit.2 ⟨Nat.le_of_ble_eq_true rfl, Nat.le_of_ble_eq_true rfl⟩) (sg_preS hA hK hP hS hZ) rfl rfl hl.1 rfl (lv_room (Nat.le_of_ble_eq_true rfl)) dX5_operand_6 ⟨Nat.le_refl _, Nat.le_refl _⟩) hA hS (fun r_16 f_13 L_14 Q_15 H locs hq hP hS => ?_)
  obtain ⟨⟨ef9, eL9, eQ9⟩, hq, u_17⟩ := hq
  replace hs := hs.trans (spl_e ev_1 (spl_e ev_4 (spl_e u_12 (spl_e u_17 rfl))))
  rw [ef9, eL9, eQ9] at hP; clear ef9 eL9 eQ9
  rcases hq with ⟨rfl, hq⟩ | ⟨rfl, hq⟩
  · skip
    have hc_18 := hq
    refine lv_if_eq (tgt := 19) hx hb dX5_operand_9 (by decide) (fun c => absurd c (by decide)) (fun c => ?_)
    refine lv_aload_n hx hb dX5_operand_12 rfl (lv_at hl 1 rfl) ?_
    refine sg_callv (va_runV (As := []) (rest := []) ⟨hx, hb, hml, hown, hts⟩ (kX5_number l D ca za h hh f L Q hI H.size) (sl_c5_number_1_0_0_21_5 hts ⟨Nat.le_of_ble_eq_true rfl, Nat.le_of_ble_eq_true rfl⟩) (sl_vX_4 hA hK hP hS hZ) rfl rfl hl.1 rfl (lv_room (Nat.le_of_ble_eq_true rfl)) dX5_operand_13 ⟨Nat.le_refl _, Nat.le_refl _⟩) hA hS (fun f_19 L_20 Q_21 H locs hq hP hS => ?_)
    obtain ⟨⟨hI, hk_f_19, eL9, eQ9⟩, u_22⟩ := hq
    rw [eL9, eQ9] at hP; clear eL9 eQ9
    have hF : sgK WkX5_operand_6 f f_19 := sgK.tr hF hk_f_19 (by decide +kernel)
    refine lv_goto (tgt := 93) hx hb dX5_operand_16 (by decide) ?_
    exact hret _ _ _ _ f_19 L Q dX5_operand_93 hP hS ⟨⟨hI, hF, rfl, rfl⟩, (Eq.trans (Eq.symm (hs.trans ((if_pos rfl).trans (spl_e u_22 rfl)))) hsp)⟩
  · skip
    have hc_18 := hq
    refine lv_if_eq (tgt := 19) hx hb dX5_operand_9 (by decide) (fun c => ?_) (fun c => absurd c (by decide))
    refine lv_iload_n hx hb dX5_operand_19 rfl (lv_at hl 0 rfl) ?_
    refine sg_calli (va_runS (As := [.int r_10]) (rest := []) ⟨hx, hb, hml, hown, hts⟩ (kX5_isName l D ca za h hh f L Q hI r_10 ⟨by omega, by omega⟩ H.size) (va_cwS 1 hts (gw_S (fun _ h => List.mem_cons_of_mem _ h) mw_525 mw_526 mw_73 mw_524) rfl rfl rfl hd_yX5_isName.2 ⟨Nat.le_of_ble_eq_true rfl, Nat.le_of_ble_eq_true rfl⟩) (sg_preS hA hK hP hS hZ) rfl rfl hl.1 rfl (lv_room (Nat.le_of_ble_eq_true rfl)) dX5_operand_20 ⟨Nat.le_refl _, Nat.le_refl _⟩) hA hS (fun r_26 f_23 L_24 Q_25 H locs hq hP hS => ?_)
    obtain ⟨⟨ef9, eL9, eQ9⟩, hq, u_27⟩ := hq
    replace hs := hs.trans ((if_neg (by decide)).trans (spl_e u_27 rfl))
    rw [ef9, eL9, eQ9] at hP; clear ef9 eL9 eQ9
    rcases hq with ⟨rfl, hq⟩ | ⟨rfl, hq⟩
    · skip
      have hc_28 := hq
      refine lv_if_eq (tgt := 44) hx hb dX5_operand_23 (by decide) (fun c => absurd c (by decide)) (fun c => ?_)
      refine lv_aload_n hx hb dX5_operand_26 rfl (lv_at hl 1 rfl) ?_
      refine lv_dup hx hb dX5_operand_27 rfl ?_
      refine sl_gX_4_6_5 (v := v_1) hx hb hts hown hK hP (show f 4 6 = v_1 from ev_1.symm) dX5_operand_28 ?_
      refine lv_iconst (v := 1) hx hb dX5_operand_31 ic_1 ?_
      refine lv_iadd hx hb dX5_operand_32 ?_
      refine lv_topi (fun v_29 ev_29 => ?_)
      have q_30 : v_29.toInt = v_1.toInt + 1 := by rw [ev_29]; first | exact cm_add ti_1 (by omega) (by omega) | (have k1 : (1 : Int32).toInt = 1 := ti_1; exact (bn_addI (by omega) (by omega)).trans (by omega))
      refine sl_pX_4_6_5 (x := v_29) hx hb hts hown hh hA hK hP hS dX5_operand_33 (fun f_31 H locs ef_31 hP hS => ?_)
      have hI : sgI loX hiX f_31 := by rw [ef_31]; exact sgI.put hI 4 6 (show 0 ≤ (v_29 : Int32).toInt ∧ (v_29 : Int32).toInt ≤ 120 from ⟨by omega, by omega⟩)
      have hF : sgK WkX5_operand_6 f f_31 := sgK.put hF ef_31 (by rfl)
      refine lv_aload_n hx hb dX5_operand_36 rfl (lv_at hl 1 rfl) ?_
      refine lv_iload_n hx hb dX5_operand_37 rfl (lv_at hl 0 rfl) ?_
      refine sg_callv (va_runV (As := [.int r_10]) (rest := []) ⟨hx, hb, hml, hown, hts⟩ (kX5_write l D ca za h hh f_31 L Q hI r_10 H.size) (sl_c5_write_0_0_0_0_5 hts ⟨Nat.le_of_ble_eq_true rfl, Nat.le_of_ble_eq_true rfl⟩) (sl_vX_4 hA hK hP hS hZ) rfl rfl hl.1 rfl (lv_room (Nat.le_of_ble_eq_true rfl)) dX5_operand_38 ⟨Nat.le_refl _, Nat.le_refl _⟩) hA hS (fun f_32 L_33 Q_34 H locs hq hP hS => ?_)
      obtain ⟨⟨hI, hk_f_32, eL9, eQ9⟩, u_35⟩ := hq
      rw [eL9, eQ9] at hP; clear eL9 eQ9
      have hF : sgK WkX5_operand_6 f f_32 := sgK.tr hF hk_f_32 (by decide +kernel)
      refine lv_goto (tgt := 93) hx hb dX5_operand_41 (by decide) ?_
      exact hret _ _ _ _ f_32 L Q dX5_operand_93 hP hS ⟨⟨hI, hF, rfl, rfl⟩, (Eq.trans (Eq.symm (hs.trans ((if_pos rfl).trans (spl_e ev_29 (spl_e ef_31 (spl_e u_35 rfl)))))) hsp)⟩
    · skip
      have hc_28 := hq
      refine lv_if_eq (tgt := 44) hx hb dX5_operand_23 (by decide) (fun c => ?_) (fun c => absurd c (by decide))
      refine lv_iload_n hx hb dX5_operand_44 rfl (lv_at hl 0 rfl) ?_
      refine lv_bipush (v := 40) hx hb dX5_operand_45 bp_40 ?_
      refine lv_icmp_eq (tgt := 62) hx hb dX5_operand_47 (by decide) (fun c => ?_) (fun c => ?_)
      · skip
        have c_36 : r_10.toInt = 40 := (by first | exact (cm_eq1 ti_40 c) | (have z := Int32.toInt_inj.mpr c; have k1 : (40 : Int32).toInt = 40 := ti_40; omega))
        refine lv_iload_n hx hb dX5_operand_62 rfl (lv_at hl 2 rfl) ?_
        refine lv_bipush (v := 6) hx hb dX5_operand_63 bp_6 ?_
        refine lv_icmp_lt (tgt := 75) hx hb dX5_operand_65 (by decide) (fun c => absurd c (by decide)) (fun c => ?_)
        refine lv_aload_n hx hb dX5_operand_68 rfl (lv_at hl 1 rfl) ?_
        refine sg_callv (va_runV (As := []) (rest := []) ⟨hx, hb, hml, hown, hts⟩ (kX5_fail l D ca za h hh f L Q hI H.size) (sl_c5_fail_0_0_0_0_5 hts ⟨Nat.le_of_ble_eq_true rfl, Nat.le_of_ble_eq_true rfl⟩) (sl_vX_4 hA hK hP hS hZ) rfl rfl hl.1 rfl (lv_room (Nat.le_of_ble_eq_true rfl)) dX5_operand_69 ⟨Nat.le_refl _, Nat.le_refl _⟩) hA hS (fun f_38 L_39 Q_40 H locs hq hP hS => ?_)
        obtain ⟨⟨hI, hk_f_38, eL9, eQ9⟩, u_41⟩ := hq
        rw [eL9, eQ9] at hP; clear eL9 eQ9
        have hF : sgK WkX5_operand_6 f f_38 := sgK.tr hF hk_f_38 (by decide +kernel)
        refine lv_goto (tgt := 93) hx hb dX5_operand_72 (by decide) ?_
        exact hret _ _ _ _ f_38 L Q dX5_operand_93 hP hS ⟨⟨hI, hF, rfl, rfl⟩, (Eq.trans (Eq.symm (hs.trans ((if_neg (by decide)).trans ((if_pos c_36).trans (spl_e u_41 rfl))))) hsp)⟩
      · skip
        have c_37 : r_10.toInt ≠ 40 := (by first | exact (cm_ne1 ti_40 c) | (have z := bn_ne c; have k1 : (40 : Int32).toInt = 40 := ti_40; omega))
        replace hs := hs.trans ((if_neg (by decide)).trans ((if_neg c_37).trans rfl))
        refine lv_iload_n hx hb dX5_operand_50 rfl (lv_at hl 0 rfl) ?_
        refine lv_bipush (v := 33) hx hb dX5_operand_51 bp_33 ?_
        refine lv_icmp_eq (tgt := 62) hx hb dX5_operand_53 (by decide) (fun c => ?_) (fun c => ?_)
        · skip
          have c_42 : r_10.toInt = 33 := (by first | exact (cm_eq1 ti_33 c) | (have z := Int32.toInt_inj.mpr c; have k1 : (33 : Int32).toInt = 33 := ti_33; omega))
          refine lv_iload_n hx hb dX5_operand_62 rfl (lv_at hl 2 rfl) ?_
          refine lv_bipush (v := 6) hx hb dX5_operand_63 bp_6 ?_
          refine lv_icmp_lt (tgt := 75) hx hb dX5_operand_65 (by decide) (fun c => absurd c (by decide)) (fun c => ?_)
          refine lv_aload_n hx hb dX5_operand_68 rfl (lv_at hl 1 rfl) ?_
          refine sg_callv (va_runV (As := []) (rest := []) ⟨hx, hb, hml, hown, hts⟩ (kX5_fail l D ca za h hh f L Q hI H.size) (sl_c5_fail_0_0_0_0_5 hts ⟨Nat.le_of_ble_eq_true rfl, Nat.le_of_ble_eq_true rfl⟩) (sl_vX_4 hA hK hP hS hZ) rfl rfl hl.1 rfl (lv_room (Nat.le_of_ble_eq_true rfl)) dX5_operand_69 ⟨Nat.le_refl _, Nat.le_refl _⟩) hA hS (fun f_44 L_45 Q_46 H locs hq hP hS => ?_)
          obtain ⟨⟨hI, hk_f_44, eL9, eQ9⟩, u_47⟩ := hq
          rw [eL9, eQ9] at hP; clear eL9 eQ9
          have hF : sgK WkX5_operand_6 f f_44 := sgK.tr hF hk_f_44 (by decide +kernel)
          refine lv_goto (tgt := 93) hx hb dX5_operand_72 (by decide) ?_
          exact hret _ _ _ _ f_44 L Q dX5_operand_93 hP hS ⟨⟨hI, hF, rfl, rfl⟩, (Eq.trans (Eq.symm (hs.trans ((if_pos c_42).trans (spl_e u_47 rfl)))) hsp)⟩
        · skip
          have c_43 : r_10.toInt ≠ 33 := (by first | exact (cm_ne1 ti_33 c) | (have z := bn_ne c; have k1 : (33 : Int32).toInt = 33 := ti_33; omega))
          replace hs := hs.trans ((if_neg c_43).trans rfl)
          refine lv_iload_n hx hb dX5_operand_56 rfl (lv_at hl 0 rfl) ?_
          refine lv_bipush (v := 45) hx hb dX5_operand_57 bp_45 ?_
          refine lv_icmp_ne (tgt := 68) hx hb dX5_operand_59 (by decide) (fun c => ?_) (fun c => ?_)
          · skip
            have c_48 : r_10.toInt ≠ 45 := (by first | exact (cm_ne1 ti_45 c) | (have z := bn_ne c; have k1 : (45 : Int32).toInt = 45 := ti_45; omega))
            refine lv_aload_n hx hb dX5_operand_68 rfl (lv_at hl 1 rfl) ?_
            refine sg_callv (va_runV (As := []) (rest := []) ⟨hx, hb, hml, hown, hts⟩ (kX5_fail l D ca za h hh f L Q hI H.size) (sl_c5_fail_0_0_0_0_5 hts ⟨Nat.le_of_ble_eq_true rfl, Nat.le_of_ble_eq_true rfl⟩) (sl_vX_4 hA hK hP hS hZ) rfl rfl hl.1 rfl (lv_room (Nat.le_of_ble_eq_true rfl)) dX5_operand_69 ⟨Nat.le_refl _, Nat.le_refl _⟩) hA hS (fun f_50 L_51 Q_52 H locs hq hP hS => ?_)
            obtain ⟨⟨hI, hk_f_50, eL9, eQ9⟩, u_53⟩ := hq
            rw [eL9, eQ9] at hP; clear eL9 eQ9
            have hF : sgK WkX5_operand_6 f f_50 := sgK.tr hF hk_f_50 (by decide +kernel)
            refine lv_goto (tgt := 93) hx hb dX5_operand_72 (by decide) ?_
            exact hret _ _ _ _ f_50 L Q dX5_operand_93 hP hS ⟨⟨hI, hF, rfl, rfl⟩, (Eq.trans (Eq.symm (hs.trans ((if_neg c_48).trans (spl_e u_53 rfl)))) hsp)⟩
          · skip
            have c_49 : r_10.toInt = 45 := (by first | exact (cm_eq1 ti_45 c) | (have z := Int32.toInt_inj.mpr c; have k1 : (45 : Int32).toInt = 45 := ti_45; omega))
            refine lv_iload_n hx hb dX5_operand_62 rfl (lv_at hl 2 rfl) ?_
            refine lv_bipush (v := 6) hx hb dX5_operand_63 bp_6 ?_
            refine lv_icmp_lt (tgt := 75) hx hb dX5_operand_65 (by decide) (fun c => absurd c (by decide)) (fun c => ?_)
            refine lv_aload_n hx hb dX5_operand_68 rfl (lv_at hl 1 rfl) ?_
            refine sg_callv (va_runV (As := []) (rest := []) ⟨hx, hb, hml, hown, hts⟩ (kX5_fail l D ca za h hh f L Q hI H.size) (sl_c5_fail_0_0_0_0_5 hts ⟨Nat.le_of_ble_eq_true rfl, Nat.le_of_ble_eq_true rfl⟩) (sl_vX_4 hA hK hP hS hZ) rfl rfl hl.1 rfl (lv_room (Nat.le_of_ble_eq_true rfl)) dX5_operand_69 ⟨Nat.le_refl _, Nat.le_refl _⟩) hA hS (fun f_54 L_55 Q_56 H locs hq hP hS => ?_)
            obtain ⟨⟨hI, hk_f_54, eL9, eQ9⟩, u_57⟩ := hq
            rw [eL9, eQ9] at hP; clear eL9 eQ9
            have hF : sgK WkX5_operand_6 f f_54 := sgK.tr hF hk_f_54 (by decide +kernel)
            refine lv_goto (tgt := 93) hx hb dX5_operand_72 (by decide) ?_
            exact hret _ _ _ _ f_54 L Q dX5_operand_93 hP hS ⟨⟨hI, hF, rfl, rfl⟩, (Eq.trans (Eq.symm (hs.trans ((if_pos c_49).trans (spl_e u_57 rfl)))) hsp)⟩

abbrev WkX5_product_6 : List (Nat × Nat × Option Nat) := [(4, 4, some 6), (4, 4, some 7), (4, 4, some 8), (6, 6, none)]
set_option maxHeartbeats 4000000 in
set_option maxRecDepth 100000 in
theorem kX5_product_6 (l : Launch) (D : va_G) (ca : Nat → ClassId) (za h : Nat → Nat) (hh : sgH 52 h) (f : sg_F) (L : sg_L) (Q : sg_Q) (hI : sgI loX hiX f) (sz : Nat) : Met l yX5_product gwX5_product { frames := 3, cells := 0, slots := 0, locals := 65 } (sgP D vwCl (tyX ca) 52 h (eX ca h) zcX za f L Q sz [.ref (h 4), .int 6]) (sgQv D vwCl 52 h (eX ca h) sz (fun f1 L1 Q1 => ((sgI loX hiX f1 ∧ sgK WkX5_product_6 f f1 ∧ L1 = L ∧ Q1 = Q) ∧ (f1) = sX5_product_6 f L))) 0 0 (sgA 52 h sz) := by
  refine sg_ofWv (cc := cX5_product) (maxL := 4) RX5 (by decide) rfl rfl (Nat.le_of_ble_eq_true rfl) ?_
  intro p e s m below meth cd Qz ls hx hb hml hown hts hK hZ hP hS hl hret
  have hA := sgY.self (n := 52) (h := h) (sz := s.heap.size)
  have hl : lv_has ls 4 [(0, .ref (h 4)), (1, .int 6)] := hl
  obtain ⟨H, hH⟩ : ∃ z : Heap, z = s.heap := ⟨_, rfl⟩
  obtain ⟨locs, hlo⟩ : ∃ z : List Loc, z = [] := ⟨_, rfl⟩
  have hP : va_P D vwCl (sgw 52 h (eX ca h) f L Q) H := by rw [hH]; exact hP
  have hS : va_S (sgA 52 h s.heap.size) s.heap H locs := by rw [hH, hlo]; exact hS
  suffices hgo : W p l e ({ frames := 3, cells := 0, slots := 0, locals := 65 }) s m ([.ref (h 4), .int 6] : List Value).toArray below meth cd H locs 0 0 Qz (F0 m 0 ls []) by rw [hH, hlo] at hgo; exact hgo
  clear hH hlo
  obtain ⟨sp, hsp⟩ : ∃ z : sg_F, z = sX5_product_6 f L := ⟨_, rfl⟩
  have hs : sp = sX5_product_6 f L := hsp
  obtain ⟨v_1, ev_1⟩ : ∃ z : Int32, z = f 4 6 := ⟨_, rfl⟩
  have q_2 : 0 ≤ v_1.toInt ∧ v_1.toInt ≤ 120 := by rw [ev_1]; exact hI 4 6
  obtain ⟨v_3, ev_3⟩ : ∃ z : Int32, z = f 4 1 := ⟨_, rfl⟩
  have q_4 : 0 ≤ v_3.toInt ∧ v_3.toInt ≤ 120 := by rw [ev_3]; exact hI 4 1
  have o_5 : (f 4 6).toInt = v_1.toInt := (congrArg Int32.toInt (show f 4 6 = v_1 from ev_1.symm))
  have o_6 : (f 4 1).toInt = v_3.toInt := (congrArg Int32.toInt (show f 4 1 = v_3 from ev_3.symm))
  have hF : sgK WkX5_product_6 f f := sgK.rf
  have loop_12 : ∀ (n_12 : Nat) (y2_12 : Int32) (y3_12 : Int32) (fp_12 : sg_F) (H : Heap) (locs : List Loc) (ls : Array Slot), sp = sX5_product_6_l12 n_12 y2_12 y3_12 fp_12 L → 120 - y3_12.toInt < (n_12 : Int) → (-1) ≤ y2_12.toInt ∧ y2_12.toInt ≤ 255 → 0 ≤ y3_12.toInt ∧ y3_12.toInt ≤ 120 → y2_12.toInt < 0 ∨ (fp_12 4 6).toInt < (fp_12 4 1).toInt → sgI loX hiX fp_12 → sgK WkX5_product_6 f fp_12 → va_P D vwCl (sgw 52 h (eX ca h) fp_12 L Q) H → va_S (sgA 52 h s.heap.size) s.heap H locs → lv_has ls 4 [(0, .ref (h 4)), (1, .int 6), (2, .int y2_12), (3, .int y3_12)] → W p l e ({ frames := 3, cells := 0, slots := 0, locals := 65 }) s m ([.ref (h 4), .int 6] : List Value).toArray below meth cd H locs 0 0 Qz (F0 m 12 ls []) := by
    intro n_12
    induction n_12 with
    | zero => intro y2_12 y3_12 fp_12 H locs ls hs hm_12 hy0_12 hy1_12 hg0_12 hI hF hP hS hl; exact absurd hm_12 (by omega)
    | succ n_12 ih_12 =>
      intro y2_12 y3_12 fp_12 H locs ls hs hm_12 hy0_12 hy1_12 hg0_12 hI hF hP hS hl
      have hs : sp = sX5_product_6_h12 (sX5_product_6_l12 n_12) y2_12 y3_12 fp_12 L := hs
      obtain ⟨v_7, ev_7⟩ : ∃ z : Int32, z = fp_12 4 6 := ⟨_, rfl⟩
      have q_8 : 0 ≤ v_7.toInt ∧ v_7.toInt ≤ 120 := by rw [ev_7]; exact hI 4 6
      have q_9 : (fp_12 4 6).toInt = v_7.toInt := by rw [ev_7]
      obtain ⟨v_10, ev_10⟩ : ∃ z : Int32, z = fp_12 4 1 := ⟨_, rfl⟩
      replace hs := hs.trans (spl_e ev_7 (spl_e ev_10 rfl))
      have q_11 : 0 ≤ v_10.toInt ∧ v_10.toInt ≤ 120 := by rw [ev_10]; exact hI 4 1
      have q_12 : (fp_12 4 1).toInt = v_10.toInt := by rw [ev_10]
      refine lv_iload_n hx hb dX5_product_12 rfl (lv_at hl 3 rfl) ?_
      refine lv_bipush (v := 120) hx hb dX5_product_13 bp_120 ?_
      refine lv_icmp_ge (tgt := 67) hx hb dX5_product_15 (by decide) (fun c => ?_) (fun c => ?_)
      · skip
        have c_13 : 120 ≤ y3_12.toInt := (by first | exact (cm_le0 ti_120 c) | (have z := bn_le c; have k1 : (120 : Int32).toInt = 120 := ti_120; omega))
        exact hret _ _ _ _ fp_12 L Q dX5_product_67 hP hS ⟨⟨hI, hF, rfl, rfl⟩, (Eq.trans (Eq.symm (hs.trans ((if_neg (Int.not_lt.mpr c_13)).trans rfl))) hsp)⟩
      · skip
        have c_14 : y3_12.toInt < 120 := (by first | exact (cm_nle0 ti_120 c) | (have z := bn_nle c; have k1 : (120 : Int32).toInt = 120 := ti_120; omega))
        replace hs := hs.trans ((if_pos c_14).trans rfl)
        refine lv_iload_n hx hb dX5_product_18 rfl (lv_at hl 2 rfl) ?_
        refine lv_bipush (v := 42) hx hb dX5_product_19 bp_42 ?_
        refine lv_icmp_eq (tgt := 36) hx hb dX5_product_21 (by decide) (fun c => ?_) (fun c => ?_)
        · skip
          have c_15 : y2_12.toInt = 42 := (by first | exact (cm_eq1 ti_42 c) | (have z := Int32.toInt_inj.mpr c; have k1 : (42 : Int32).toInt = 42 := ti_42; omega))
          refine lv_aload_n hx hb dX5_product_36 rfl (lv_at hl 0 rfl) ?_
          refine lv_dup hx hb dX5_product_37 rfl ?_
          refine sl_gX_4_6_5 (v := v_7) hx hb hts hown hK hP (show fp_12 4 6 = v_7 from ev_7.symm) dX5_product_38 ?_
          refine lv_iconst (v := 1) hx hb dX5_product_41 ic_1 ?_
          refine lv_iadd hx hb dX5_product_42 ?_
          refine lv_topi (fun v_17 ev_17 => ?_)
          have q_18 : v_17.toInt = v_7.toInt + 1 := by rw [ev_17]; first | exact cm_add ti_1 (by omega) (by omega) | (have k1 : (1 : Int32).toInt = 1 := ti_1; exact (bn_addI (by omega) (by omega)).trans (by omega))
          refine sl_pX_4_6_5 (x := v_17) hx hb hts hown hh hA hK hP hS dX5_product_43 (fun f_19 H locs ef_19 hP hS => ?_)
          have hI : sgI loX hiX f_19 := by rw [ef_19]; exact sgI.put hI 4 6 (show 0 ≤ (v_17 : Int32).toInt ∧ (v_17 : Int32).toInt ≤ 120 from ⟨by omega, by omega⟩)
          have hF : sgK WkX5_product_6 f f_19 := sgK.put hF ef_19 (by rfl)
          refine lv_aload_n hx hb dX5_product_46 rfl (lv_at hl 0 rfl) ?_
          refine lv_iload_n hx hb dX5_product_47 rfl (lv_at hl 1 rfl) ?_
          refine sg_callv (va_runV (As := [.int 6]) (rest := []) ⟨hx, hb, hml, hown, hts⟩ (kX5_operand_6 l D ca za h hh f_19 L Q hI H.size) (sl_c5_operand_2_0_0_43_5 hts ⟨Nat.le_of_ble_eq_true rfl, Nat.le_of_ble_eq_true rfl⟩) (sl_vX_4 hA hK hP hS hZ) rfl rfl hl.1 rfl (lv_room (Nat.le_of_ble_eq_true rfl)) dX5_product_48 ⟨Nat.le_refl _, Nat.le_refl _⟩) hA hS (fun f_20 L_21 Q_22 H locs hq hP hS => ?_)
          obtain ⟨⟨hI, hk_f_20, eL9, eQ9⟩, u_23⟩ := hq
          rw [eL9, eQ9] at hP; clear eL9 eQ9
          have hF : sgK WkX5_product_6 f f_20 := sgK.tr hF hk_f_20 (by decide +kernel)
          refine lv_aload_n hx hb dX5_product_51 rfl (lv_at hl 0 rfl) ?_
          refine lv_iload_n hx hb dX5_product_52 rfl (lv_at hl 2 rfl) ?_
          refine sg_callv (va_runV (As := [.int y2_12]) (rest := []) ⟨hx, hb, hml, hown, hts⟩ (kX5_write l D ca za h hh f_20 L Q hI y2_12 H.size) (sl_c5_write_0_0_0_0_5 hts ⟨Nat.le_of_ble_eq_true rfl, Nat.le_of_ble_eq_true rfl⟩) (sl_vX_4 hA hK hP hS hZ) rfl rfl hl.1 rfl (lv_room (Nat.le_of_ble_eq_true rfl)) dX5_product_53 ⟨Nat.le_refl _, Nat.le_refl _⟩) hA hS (fun f_24 L_25 Q_26 H locs hq hP hS => ?_)
          obtain ⟨⟨hI, hk_f_24, eL9, eQ9⟩, u_27⟩ := hq
          rw [eL9, eQ9] at hP; clear eL9 eQ9
          have hF : sgK WkX5_product_6 f f_24 := sgK.tr hF hk_f_24 (by decide +kernel)
          refine lv_aload_n hx hb dX5_product_56 rfl (lv_at hl 0 rfl) ?_
          obtain ⟨v_28, ev_28⟩ : ∃ z : Int32, z = f_24 4 6 := ⟨_, rfl⟩
          have q_29 : 0 ≤ v_28.toInt ∧ v_28.toInt ≤ 120 := by rw [ev_28]; exact hI 4 6
          have q_30 : (f_24 4 6).toInt = v_28.toInt := (congrArg Int32.toInt (show f_24 4 6 = v_28 from ev_28.symm))
          have q_31 : (f_24 4 1).toInt = v_10.toInt := (congrArg Int32.toInt (show f_24 4 1 = v_10 from ((hk_f_24 4 1 (by decide)).trans ((hk_f_20 4 1 (by decide)).trans (by rw [ef_19, sg_up_s, sgu_n (by decide)]; exact ev_10.symm)))))
          refine sg_calli (va_runV (As := []) (rest := []) ⟨hx, hb, hml, hown, hts⟩ (kX5_next l D ca za h hh f_24 L Q hI H.size) (sl_c5_next_0_0_0_0_5 hts ⟨Nat.le_of_ble_eq_true rfl, Nat.le_of_ble_eq_true rfl⟩) (sl_vX_4 hA hK hP hS hZ) rfl rfl hl.1 rfl (lv_room (Nat.le_of_ble_eq_true rfl)) dX5_product_57 ⟨Nat.le_refl _, Nat.le_refl _⟩) hA hS (fun r_35 f_32 L_33 Q_34 H locs hq hP hS => ?_)
          obtain ⟨⟨ef9, eL9, eQ9⟩, hq, p_36, u_37⟩ := hq
          rw [ef9, eL9, eQ9] at hP; clear ef9 eL9 eQ9
          refine lv_istore_n (lv' := [(2, .int r_35), (0, .ref (h 4)), (1, .int 6), (3, .int y3_12)]) hx hb dX5_product_60 rfl hl (by decide) rfl (fun ls hl => ?_)
          obtain ⟨v_38, ev_38⟩ : ∃ z : Int32, z = y3_12 + 1 := ⟨_, rfl⟩
          have q_39 : v_38.toInt = y3_12.toInt + 1 := by rw [ev_38]; exact (bn_addc y3_12 1 (by decide) (by omega) (by omega))
          refine lv_iinc (v := v_38) (lv' := [(3, .int v_38), (2, .int r_35), (0, .ref (h 4)), (1, .int 6)]) hx hb dX5_product_61 hl (k := 3) rfl (by rw [ev_38]; rfl) (by decide) rfl (fun ls hl => ?_)
          refine lv_goto (tgt := 12) hx hb dX5_product_64 (by decide) ?_
          exact ih_12 r_35 v_38 f_24 _ _ _ (hs.trans ((if_pos c_15).trans (spl_e ev_17 (spl_e ef_19 (spl_e u_23 (spl_e u_27 (spl_e ev_28 (spl_e u_37 (spl_e ev_38 rfl))))))))) (by omega) ⟨by omega, by omega⟩ ⟨by omega, by omega⟩ (by have zz4_6 : (f_24 4 6).toInt = v_28.toInt := (congrArg Int32.toInt (show f_24 4 6 = v_28 from ev_28.symm)); have zz4_1 : (f_24 4 1).toInt = v_10.toInt := (congrArg Int32.toInt (show f_24 4 1 = v_10 from ((hk_f_24 4 1 (by decide)).trans ((hk_f_20 4 1 (by decide)).trans (by rw [ef_19, sg_up_s, sgu_n (by decide)]; exact ev_10.symm))))); omega) hI hF hP hS (lv_sub hl [2, 3, 1, 0] rfl)
        · skip
          have c_16 : y2_12.toInt ≠ 42 := (by first | exact (cm_ne1 ti_42 c) | (have z := bn_ne c; have k1 : (42 : Int32).toInt = 42 := ti_42; omega))
          replace hs := hs.trans ((if_neg c_16).trans rfl)
          refine lv_iload_n hx hb dX5_product_24 rfl (lv_at hl 2 rfl) ?_
          refine lv_bipush (v := 47) hx hb dX5_product_25 bp_47 ?_
          refine lv_icmp_eq (tgt := 36) hx hb dX5_product_27 (by decide) (fun c => ?_) (fun c => ?_)
          · skip
            have c_40 : y2_12.toInt = 47 := (by first | exact (cm_eq1 ti_47 c) | (have z := Int32.toInt_inj.mpr c; have k1 : (47 : Int32).toInt = 47 := ti_47; omega))
            refine lv_aload_n hx hb dX5_product_36 rfl (lv_at hl 0 rfl) ?_
            refine lv_dup hx hb dX5_product_37 rfl ?_
            refine sl_gX_4_6_5 (v := v_7) hx hb hts hown hK hP (show fp_12 4 6 = v_7 from ev_7.symm) dX5_product_38 ?_
            refine lv_iconst (v := 1) hx hb dX5_product_41 ic_1 ?_
            refine lv_iadd hx hb dX5_product_42 ?_
            refine lv_topi (fun v_42 ev_42 => ?_)
            have q_43 : v_42.toInt = v_7.toInt + 1 := by rw [ev_42]; first | exact cm_add ti_1 (by omega) (by omega) | (have k1 : (1 : Int32).toInt = 1 := ti_1; exact (bn_addI (by omega) (by omega)).trans (by omega))
            refine sl_pX_4_6_5 (x := v_42) hx hb hts hown hh hA hK hP hS dX5_product_43 (fun f_44 H locs ef_44 hP hS => ?_)
            have hI : sgI loX hiX f_44 := by rw [ef_44]; exact sgI.put hI 4 6 (show 0 ≤ (v_42 : Int32).toInt ∧ (v_42 : Int32).toInt ≤ 120 from ⟨by omega, by omega⟩)
            have hF : sgK WkX5_product_6 f f_44 := sgK.put hF ef_44 (by rfl)
            refine lv_aload_n hx hb dX5_product_46 rfl (lv_at hl 0 rfl) ?_
            refine lv_iload_n hx hb dX5_product_47 rfl (lv_at hl 1 rfl) ?_
            refine sg_callv (va_runV (As := [.int 6]) (rest := []) ⟨hx, hb, hml, hown, hts⟩ (kX5_operand_6 l D ca za h hh f_44 L Q hI H.size) (sl_c5_operand_2_0_0_43_5 hts ⟨Nat.le_of_ble_eq_true rfl, Nat.le_of_ble_eq_true rfl⟩) (sl_vX_4 hA hK hP hS hZ) rfl rfl hl.1 rfl (lv_room (Nat.le_of_ble_eq_true rfl)) dX5_product_48 ⟨Nat.le_refl _, Nat.le_refl _⟩) hA hS (fun f_45 L_46 Q_47 H locs hq hP hS => ?_)
            obtain ⟨⟨hI, hk_f_45, eL9, eQ9⟩, u_48⟩ := hq
            rw [eL9, eQ9] at hP; clear eL9 eQ9
            have hF : sgK WkX5_product_6 f f_45 := sgK.tr hF hk_f_45 (by decide +kernel)
            refine lv_aload_n hx hb dX5_product_51 rfl (lv_at hl 0 rfl) ?_
            refine lv_iload_n hx hb dX5_product_52 rfl (lv_at hl 2 rfl) ?_
            refine sg_callv (va_runV (As := [.int y2_12]) (rest := []) ⟨hx, hb, hml, hown, hts⟩ (kX5_write l D ca za h hh f_45 L Q hI y2_12 H.size) (sl_c5_write_0_0_0_0_5 hts ⟨Nat.le_of_ble_eq_true rfl, Nat.le_of_ble_eq_true rfl⟩) (sl_vX_4 hA hK hP hS hZ) rfl rfl hl.1 rfl (lv_room (Nat.le_of_ble_eq_true rfl)) dX5_product_53 ⟨Nat.le_refl _, Nat.le_refl _⟩) hA hS (fun f_49 L_50 Q_51 H locs hq hP hS => ?_)
            obtain ⟨⟨hI, hk_f_49, eL9, eQ9⟩, u_52⟩ := hq
            rw [eL9, eQ9] at hP; clear eL9 eQ9
            have hF : sgK WkX5_product_6 f f_49 := sgK.tr hF hk_f_49 (by decide +kernel)
            refine lv_aload_n hx hb dX5_product_56 rfl (lv_at hl 0 rfl) ?_
            obtain ⟨v_53, ev_53⟩ : ∃ z : Int32, z = f_49 4 6 := ⟨_, rfl⟩
            have q_54 : 0 ≤ v_53.toInt ∧ v_53.toInt ≤ 120 := by rw [ev_53]; exact hI 4 6
            have q_55 : (f_49 4 6).toInt = v_53.toInt := (congrArg Int32.toInt (show f_49 4 6 = v_53 from ev_53.symm))
            have q_56 : (f_49 4 1).toInt = v_10.toInt := (congrArg Int32.toInt (show f_49 4 1 = v_10 from ((hk_f_49 4 1 (by decide)).trans ((hk_f_45 4 1 (by decide)).trans (by rw [ef_44, sg_up_s, sgu_n (by decide)]; exact ev_10.symm)))))
            refine sg_calli (va_runV (As := []) (rest := []) ⟨hx, hb, hml, hown, hts⟩ (kX5_next l D ca za h hh f_49 L Q hI H.size) (sl_c5_next_0_0_0_0_5 hts ⟨Nat.le_of_ble_eq_true rfl, Nat.le_of_ble_eq_true rfl⟩) (sl_vX_4 hA hK hP hS hZ) rfl rfl hl.1 rfl (lv_room (Nat.le_of_ble_eq_true rfl)) dX5_product_57 ⟨Nat.le_refl _, Nat.le_refl _⟩) hA hS (fun r_60 f_57 L_58 Q_59 H locs hq hP hS => ?_)
            obtain ⟨⟨ef9, eL9, eQ9⟩, hq, p_61, u_62⟩ := hq
            rw [ef9, eL9, eQ9] at hP; clear ef9 eL9 eQ9
            refine lv_istore_n (lv' := [(2, .int r_60), (0, .ref (h 4)), (1, .int 6), (3, .int y3_12)]) hx hb dX5_product_60 rfl hl (by decide) rfl (fun ls hl => ?_)
            obtain ⟨v_63, ev_63⟩ : ∃ z : Int32, z = y3_12 + 1 := ⟨_, rfl⟩
            have q_64 : v_63.toInt = y3_12.toInt + 1 := by rw [ev_63]; exact (bn_addc y3_12 1 (by decide) (by omega) (by omega))
            refine lv_iinc (v := v_63) (lv' := [(3, .int v_63), (2, .int r_60), (0, .ref (h 4)), (1, .int 6)]) hx hb dX5_product_61 hl (k := 3) rfl (by rw [ev_63]; rfl) (by decide) rfl (fun ls hl => ?_)
            refine lv_goto (tgt := 12) hx hb dX5_product_64 (by decide) ?_
            exact ih_12 r_60 v_63 f_49 _ _ _ (hs.trans ((if_pos c_40).trans (spl_e ev_42 (spl_e ef_44 (spl_e u_48 (spl_e u_52 (spl_e ev_53 (spl_e u_62 (spl_e ev_63 rfl))))))))) (by omega) ⟨by omega, by omega⟩ ⟨by omega, by omega⟩ (by have zz4_6 : (f_49 4 6).toInt = v_53.toInt := (congrArg Int32.toInt (show f_49 4 6 = v_53 from ev_53.symm)); have zz4_1 : (f_49 4 1).toInt = v_10.toInt := (congrArg Int32.toInt (show f_49 4 1 = v_10 from ((hk_f_49 4 1 (by decide)).trans ((hk_f_45 4 1 (by decide)).trans (by rw [ef_44, sg_up_s, sgu_n (by decide)]; exact ev_10.symm))))); omega) hI hF hP hS (lv_sub hl [2, 3, 1, 0] rfl)
          · skip
            have c_41 : y2_12.toInt ≠ 47 := (by first | exact (cm_ne1 ti_47 c) | (have z := bn_ne c; have k1 : (47 : Int32).toInt = 47 := ti_47; omega))
            replace hs := hs.trans ((if_neg c_41).trans rfl)
            refine lv_iload_n hx hb dX5_product_30 rfl (lv_at hl 2 rfl) ?_
            refine lv_bipush (v := 37) hx hb dX5_product_31 bp_37 ?_
            refine lv_icmp_ne (tgt := 67) hx hb dX5_product_33 (by decide) (fun c => ?_) (fun c => ?_)
            · skip
              have c_65 : y2_12.toInt ≠ 37 := (by first | exact (cm_ne1 ti_37 c) | (have z := bn_ne c; have k1 : (37 : Int32).toInt = 37 := ti_37; omega))
              exact hret _ _ _ _ fp_12 L Q dX5_product_67 hP hS ⟨⟨hI, hF, rfl, rfl⟩, (Eq.trans (Eq.symm (hs.trans ((if_neg c_65).trans rfl))) hsp)⟩
            · skip
              have c_66 : y2_12.toInt = 37 := (by first | exact (cm_eq1 ti_37 c) | (have z := Int32.toInt_inj.mpr c; have k1 : (37 : Int32).toInt = 37 := ti_37; omega))
              refine lv_aload_n hx hb dX5_product_36 rfl (lv_at hl 0 rfl) ?_
              refine lv_dup hx hb dX5_product_37 rfl ?_
              refine sl_gX_4_6_5 (v := v_7) hx hb hts hown hK hP (show fp_12 4 6 = v_7 from ev_7.symm) dX5_product_38 ?_
              refine lv_iconst (v := 1) hx hb dX5_product_41 ic_1 ?_
              refine lv_iadd hx hb dX5_product_42 ?_
              refine lv_topi (fun v_67 ev_67 => ?_)
              have q_68 : v_67.toInt = v_7.toInt + 1 := by rw [ev_67]; first | exact cm_add ti_1 (by omega) (by omega) | (have k1 : (1 : Int32).toInt = 1 := ti_1; exact (bn_addI (by omega) (by omega)).trans (by omega))
              refine sl_pX_4_6_5 (x := v_67) hx hb hts hown hh hA hK hP hS dX5_product_43 (fun f_69 H locs ef_69 hP hS => ?_)
              have hI : sgI loX hiX f_69 := by rw [ef_69]; exact sgI.put hI 4 6 (show 0 ≤ (v_67 : Int32).toInt ∧ (v_67 : Int32).toInt ≤ 120 from ⟨by omega, by omega⟩)
              have hF : sgK WkX5_product_6 f f_69 := sgK.put hF ef_69 (by rfl)
              refine lv_aload_n hx hb dX5_product_46 rfl (lv_at hl 0 rfl) ?_
              refine lv_iload_n hx hb dX5_product_47 rfl (lv_at hl 1 rfl) ?_
              refine sg_callv (va_runV (As := [.int 6]) (rest := []) ⟨hx, hb, hml, hown, hts⟩ (kX5_operand_6 l D ca za h hh f_69 L Q hI H.size) (sl_c5_operand_2_0_0_43_5 hts ⟨Nat.le_of_ble_eq_true rfl, Nat.le_of_ble_eq_true rfl⟩) (sl_vX_4 hA hK hP hS hZ) rfl rfl hl.1 rfl (lv_room (Nat.le_of_ble_eq_true rfl)) dX5_product_48 ⟨Nat.le_refl _, Nat.le_refl _⟩) hA hS (fun f_70 L_71 Q_72 H locs hq hP hS => ?_)
              obtain ⟨⟨hI, hk_f_70, eL9, eQ9⟩, u_73⟩ := hq
              rw [eL9, eQ9] at hP; clear eL9 eQ9
              have hF : sgK WkX5_product_6 f f_70 := sgK.tr hF hk_f_70 (by decide +kernel)
              refine lv_aload_n hx hb dX5_product_51 rfl (lv_at hl 0 rfl) ?_
              refine lv_iload_n hx hb dX5_product_52 rfl (lv_at hl 2 rfl) ?_
              refine sg_callv (va_runV (As := [.int y2_12]) (rest := []) ⟨hx, hb, hml, hown, hts⟩ (kX5_write l D ca za h hh f_70 L Q hI y2_12 H.size) (sl_c5_write_0_0_0_0_5 hts ⟨Nat.le_of_ble_eq_true rfl, Nat.le_of_ble_eq_true rfl⟩) (sl_vX_4 hA hK hP hS hZ) rfl rfl hl.1 rfl (lv_room (Nat.le_of_ble_eq_true rfl)) dX5_product_53 ⟨Nat.le_refl _, Nat.le_refl _⟩) hA hS (fun f_74 L_75 Q_76 H locs hq hP hS => ?_)
              obtain ⟨⟨hI, hk_f_74, eL9, eQ9⟩, u_77⟩ := hq
              rw [eL9, eQ9] at hP; clear eL9 eQ9
              have hF : sgK WkX5_product_6 f f_74 := sgK.tr hF hk_f_74 (by decide +kernel)
              refine lv_aload_n hx hb dX5_product_56 rfl (lv_at hl 0 rfl) ?_
              obtain ⟨v_78, ev_78⟩ : ∃ z : Int32, z = f_74 4 6 := ⟨_, rfl⟩
              have q_79 : 0 ≤ v_78.toInt ∧ v_78.toInt ≤ 120 := by rw [ev_78]; exact hI 4 6
              have q_80 : (f_74 4 6).toInt = v_78.toInt := (congrArg Int32.toInt (show f_74 4 6 = v_78 from ev_78.symm))
              have q_81 : (f_74 4 1).toInt = v_10.toInt := (congrArg Int32.toInt (show f_74 4 1 = v_10 from ((hk_f_74 4 1 (by decide)).trans ((hk_f_70 4 1 (by decide)).trans (by rw [ef_69, sg_up_s, sgu_n (by decide)]; exact ev_10.symm)))))
              refine sg_calli (va_runV (As := []) (rest := []) ⟨hx, hb, hml, hown, hts⟩ (kX5_next l D ca za h hh f_74 L Q hI H.size) (sl_c5_next_0_0_0_0_5 hts ⟨Nat.le_of_ble_eq_true rfl, Nat.le_of_ble_eq_true rfl⟩) (sl_vX_4 hA hK hP hS hZ) rfl rfl hl.1 rfl (lv_room (Nat.le_of_ble_eq_true rfl)) dX5_product_57 ⟨Nat.le_refl _, Nat.le_refl _⟩) hA hS (fun r_85 f_82 L_83 Q_84 H locs hq hP hS => ?_)
              obtain ⟨⟨ef9, eL9, eQ9⟩, hq, p_86, u_87⟩ := hq
              rw [ef9, eL9, eQ9] at hP; clear ef9 eL9 eQ9
              refine lv_istore_n (lv' := [(2, .int r_85), (0, .ref (h 4)), (1, .int 6), (3, .int y3_12)]) hx hb dX5_product_60 rfl hl (by decide) rfl (fun ls hl => ?_)
              obtain ⟨v_88, ev_88⟩ : ∃ z : Int32, z = y3_12 + 1 := ⟨_, rfl⟩
              have q_89 : v_88.toInt = y3_12.toInt + 1 := by rw [ev_88]; exact (bn_addc y3_12 1 (by decide) (by omega) (by omega))
              refine lv_iinc (v := v_88) (lv' := [(3, .int v_88), (2, .int r_85), (0, .ref (h 4)), (1, .int 6)]) hx hb dX5_product_61 hl (k := 3) rfl (by rw [ev_88]; rfl) (by decide) rfl (fun ls hl => ?_)
              refine lv_goto (tgt := 12) hx hb dX5_product_64 (by decide) ?_
              exact ih_12 r_85 v_88 f_74 _ _ _ (hs.trans ((if_pos c_66).trans (spl_e ev_67 (spl_e ef_69 (spl_e u_73 (spl_e u_77 (spl_e ev_78 (spl_e u_87 (spl_e ev_88 rfl))))))))) (by omega) ⟨by omega, by omega⟩ ⟨by omega, by omega⟩ (by have zz4_6 : (f_74 4 6).toInt = v_78.toInt := (congrArg Int32.toInt (show f_74 4 6 = v_78 from ev_78.symm)); have zz4_1 : (f_74 4 1).toInt = v_10.toInt := (congrArg Int32.toInt (show f_74 4 1 = v_10 from ((hk_f_74 4 1 (by decide)).trans ((hk_f_70 4 1 (by decide)).trans (by rw [ef_69, sg_up_s, sgu_n (by decide)]; exact ev_10.symm))))); omega) hI hF hP hS (lv_sub hl [2, 3, 1, 0] rfl)
  refine lv_aload_n hx hb dX5_product_0 rfl (lv_at hl 0 rfl) ?_
  refine lv_iload_n hx hb dX5_product_1 rfl (lv_at hl 1 rfl) ?_
  refine sg_callv (va_runV (As := [.int 6]) (rest := []) ⟨hx, hb, hml, hown, hts⟩ (kX5_operand_6 l D ca za h hh f L Q hI H.size) (sl_c5_operand_2_0_0_43_5 hts ⟨Nat.le_of_ble_eq_true rfl, Nat.le_of_ble_eq_true rfl⟩) (sl_vX_4 hA hK hP hS hZ) rfl rfl hl.1 rfl (lv_room (Nat.le_of_ble_eq_true rfl)) dX5_product_2 ⟨Nat.le_refl _, Nat.le_refl _⟩) hA hS (fun f_90 L_91 Q_92 H locs hq hP hS => ?_)
  obtain ⟨⟨hI, hk_f_90, eL9, eQ9⟩, u_93⟩ := hq
  rw [eL9, eQ9] at hP; clear eL9 eQ9
  have hF : sgK WkX5_product_6 f f_90 := sgK.tr hF hk_f_90 (by decide +kernel)
  refine lv_aload_n hx hb dX5_product_5 rfl (lv_at hl 0 rfl) ?_
  obtain ⟨v_94, ev_94⟩ : ∃ z : Int32, z = f_90 4 6 := ⟨_, rfl⟩
  have q_95 : 0 ≤ v_94.toInt ∧ v_94.toInt ≤ 120 := by rw [ev_94]; exact hI 4 6
  have q_96 : (f_90 4 6).toInt = v_94.toInt := (congrArg Int32.toInt (show f_90 4 6 = v_94 from ev_94.symm))
  have q_97 : (f_90 4 1).toInt = v_3.toInt := (congrArg Int32.toInt (show f_90 4 1 = v_3 from ((hk_f_90 4 1 (by decide)).trans ev_3.symm)))
  refine sg_calli (va_runV (As := []) (rest := []) ⟨hx, hb, hml, hown, hts⟩ (kX5_next l D ca za h hh f_90 L Q hI H.size) (sl_c5_next_0_0_0_0_5 hts ⟨Nat.le_of_ble_eq_true rfl, Nat.le_of_ble_eq_true rfl⟩) (sl_vX_4 hA hK hP hS hZ) rfl rfl hl.1 rfl (lv_room (Nat.le_of_ble_eq_true rfl)) dX5_product_6 ⟨Nat.le_refl _, Nat.le_refl _⟩) hA hS (fun r_101 f_98 L_99 Q_100 H locs hq hP hS => ?_)
  obtain ⟨⟨ef9, eL9, eQ9⟩, hq, p_102, u_103⟩ := hq
  rw [ef9, eL9, eQ9] at hP; clear ef9 eL9 eQ9
  refine lv_istore_n (lv' := [(2, .int r_101), (0, .ref (h 4)), (1, .int 6)]) hx hb dX5_product_9 rfl hl (by decide) rfl (fun ls hl => ?_)
  refine lv_iconst (v := 0) hx hb dX5_product_10 ic_0 ?_
  refine lv_istore_n (lv' := [(3, .int 0), (2, .int r_101), (0, .ref (h 4)), (1, .int 6)]) hx hb dX5_product_11 rfl hl (by decide) rfl (fun ls hl => ?_)
  exact loop_12 121 r_101 0 f_90 _ _ _ (hs.trans ((spl_e ev_1 (spl_e ev_3 (spl_e u_93 (spl_e ev_94 (spl_e u_103 rfl))))))) (by have kc1 : (0 : Int32).toInt = 0 := ti_0; omega) ⟨by omega, by omega⟩ (by decide) (by have kc1 : (0 : Int32).toInt = 0 := ti_0; have zz4_6 : (f_90 4 6).toInt = v_94.toInt := (congrArg Int32.toInt (show f_90 4 6 = v_94 from ev_94.symm)); have zz4_1 : (f_90 4 1).toInt = v_3.toInt := (congrArg Int32.toInt (show f_90 4 1 = v_3 from ((hk_f_90 4 1 (by decide)).trans ev_3.symm))); omega) hI hF hP hS (lv_sub hl [2, 3, 1, 0] rfl)

abbrev WkX5_sum_6 : List (Nat × Nat × Option Nat) := [(4, 4, some 6), (4, 4, some 7), (4, 4, some 8), (6, 6, none)]
set_option maxHeartbeats 4000000 in
set_option maxRecDepth 100000 in
theorem kX5_sum_6 (l : Launch) (D : va_G) (ca : Nat → ClassId) (za h : Nat → Nat) (hh : sgH 52 h) (f : sg_F) (L : sg_L) (Q : sg_Q) (hI : sgI loX hiX f) (sz : Nat) : Met l yX5_sum gwX5_sum { frames := 4, cells := 0, slots := 0, locals := 88 } (sgP D vwCl (tyX ca) 52 h (eX ca h) zcX za f L Q sz [.ref (h 4), .int 6]) (sgQv D vwCl 52 h (eX ca h) sz (fun f1 L1 Q1 => ((sgI loX hiX f1 ∧ sgK WkX5_sum_6 f f1 ∧ L1 = L ∧ Q1 = Q) ∧ (f1) = sX5_sum_6 f L))) 0 0 (sgA 52 h sz) := by
  refine sg_ofWv (cc := cX5_sum) (maxL := 4) RX5 (by decide) rfl rfl (Nat.le_of_ble_eq_true rfl) ?_
  intro p e s m below meth cd Qz ls hx hb hml hown hts hK hZ hP hS hl hret
  have hA := sgY.self (n := 52) (h := h) (sz := s.heap.size)
  have hl : lv_has ls 4 [(0, .ref (h 4)), (1, .int 6)] := hl
  obtain ⟨H, hH⟩ : ∃ z : Heap, z = s.heap := ⟨_, rfl⟩
  obtain ⟨locs, hlo⟩ : ∃ z : List Loc, z = [] := ⟨_, rfl⟩
  have hP : va_P D vwCl (sgw 52 h (eX ca h) f L Q) H := by rw [hH]; exact hP
  have hS : va_S (sgA 52 h s.heap.size) s.heap H locs := by rw [hH, hlo]; exact hS
  suffices hgo : W p l e ({ frames := 4, cells := 0, slots := 0, locals := 88 }) s m ([.ref (h 4), .int 6] : List Value).toArray below meth cd H locs 0 0 Qz (F0 m 0 ls []) by rw [hH, hlo] at hgo; exact hgo
  clear hH hlo
  obtain ⟨sp, hsp⟩ : ∃ z : sg_F, z = sX5_sum_6 f L := ⟨_, rfl⟩
  have hs : sp = sX5_sum_6 f L := hsp
  obtain ⟨v_1, ev_1⟩ : ∃ z : Int32, z = f 4 6 := ⟨_, rfl⟩
  have q_2 : 0 ≤ v_1.toInt ∧ v_1.toInt ≤ 120 := by rw [ev_1]; exact hI 4 6
  obtain ⟨v_3, ev_3⟩ : ∃ z : Int32, z = f 4 1 := ⟨_, rfl⟩
  have q_4 : 0 ≤ v_3.toInt ∧ v_3.toInt ≤ 120 := by rw [ev_3]; exact hI 4 1
  have o_5 : (f 4 6).toInt = v_1.toInt := (congrArg Int32.toInt (show f 4 6 = v_1 from ev_1.symm))
  have o_6 : (f 4 1).toInt = v_3.toInt := (congrArg Int32.toInt (show f 4 1 = v_3 from ev_3.symm))
  have hF : sgK WkX5_sum_6 f f := sgK.rf
  have loop_12 : ∀ (n_12 : Nat) (y2_12 : Int32) (y3_12 : Int32) (fp_12 : sg_F) (H : Heap) (locs : List Loc) (ls : Array Slot), sp = sX5_sum_6_l12 n_12 y2_12 y3_12 fp_12 L → 120 - y3_12.toInt < (n_12 : Int) → (-1) ≤ y2_12.toInt ∧ y2_12.toInt ≤ 255 → 0 ≤ y3_12.toInt ∧ y3_12.toInt ≤ 120 → y2_12.toInt < 0 ∨ (fp_12 4 6).toInt < (fp_12 4 1).toInt → sgI loX hiX fp_12 → sgK WkX5_sum_6 f fp_12 → va_P D vwCl (sgw 52 h (eX ca h) fp_12 L Q) H → va_S (sgA 52 h s.heap.size) s.heap H locs → lv_has ls 4 [(0, .ref (h 4)), (1, .int 6), (2, .int y2_12), (3, .int y3_12)] → W p l e ({ frames := 4, cells := 0, slots := 0, locals := 88 }) s m ([.ref (h 4), .int 6] : List Value).toArray below meth cd H locs 0 0 Qz (F0 m 12 ls []) := by
    intro n_12
    induction n_12 with
    | zero => intro y2_12 y3_12 fp_12 H locs ls hs hm_12 hy0_12 hy1_12 hg0_12 hI hF hP hS hl; exact absurd hm_12 (by omega)
    | succ n_12 ih_12 =>
      intro y2_12 y3_12 fp_12 H locs ls hs hm_12 hy0_12 hy1_12 hg0_12 hI hF hP hS hl
      have hs : sp = sX5_sum_6_h12 (sX5_sum_6_l12 n_12) y2_12 y3_12 fp_12 L := hs
      obtain ⟨v_7, ev_7⟩ : ∃ z : Int32, z = fp_12 4 6 := ⟨_, rfl⟩
      have q_8 : 0 ≤ v_7.toInt ∧ v_7.toInt ≤ 120 := by rw [ev_7]; exact hI 4 6
      have q_9 : (fp_12 4 6).toInt = v_7.toInt := by rw [ev_7]
      obtain ⟨v_10, ev_10⟩ : ∃ z : Int32, z = fp_12 4 1 := ⟨_, rfl⟩
      replace hs := hs.trans (spl_e ev_7 (spl_e ev_10 rfl))
      have q_11 : 0 ≤ v_10.toInt ∧ v_10.toInt ≤ 120 := by rw [ev_10]; exact hI 4 1
      have q_12 : (fp_12 4 1).toInt = v_10.toInt := by rw [ev_10]
      refine lv_iload_n hx hb dX5_sum_12 rfl (lv_at hl 3 rfl) ?_
      refine lv_bipush (v := 120) hx hb dX5_sum_13 bp_120 ?_
      refine lv_icmp_ge (tgt := 61) hx hb dX5_sum_15 (by decide) (fun c => ?_) (fun c => ?_)
      · skip
        have c_13 : 120 ≤ y3_12.toInt := (by first | exact (cm_le0 ti_120 c) | (have z := bn_le c; have k1 : (120 : Int32).toInt = 120 := ti_120; omega))
        exact hret _ _ _ _ fp_12 L Q dX5_sum_61 hP hS ⟨⟨hI, hF, rfl, rfl⟩, (Eq.trans (Eq.symm (hs.trans ((if_neg (Int.not_lt.mpr c_13)).trans rfl))) hsp)⟩
      · skip
        have c_14 : y3_12.toInt < 120 := (by first | exact (cm_nle0 ti_120 c) | (have z := bn_nle c; have k1 : (120 : Int32).toInt = 120 := ti_120; omega))
        replace hs := hs.trans ((if_pos c_14).trans rfl)
        refine lv_iload_n hx hb dX5_sum_18 rfl (lv_at hl 2 rfl) ?_
        refine lv_bipush (v := 43) hx hb dX5_sum_19 bp_43 ?_
        refine lv_icmp_eq (tgt := 30) hx hb dX5_sum_21 (by decide) (fun c => ?_) (fun c => ?_)
        · skip
          have c_15 : y2_12.toInt = 43 := (by first | exact (cm_eq1 ti_43 c) | (have z := Int32.toInt_inj.mpr c; have k1 : (43 : Int32).toInt = 43 := ti_43; omega))
          refine lv_aload_n hx hb dX5_sum_30 rfl (lv_at hl 0 rfl) ?_
          refine lv_dup hx hb dX5_sum_31 rfl ?_
          refine sl_gX_4_6_5 (v := v_7) hx hb hts hown hK hP (show fp_12 4 6 = v_7 from ev_7.symm) dX5_sum_32 ?_
          refine lv_iconst (v := 1) hx hb dX5_sum_35 ic_1 ?_
          refine lv_iadd hx hb dX5_sum_36 ?_
          refine lv_topi (fun v_17 ev_17 => ?_)
          have q_18 : v_17.toInt = v_7.toInt + 1 := by rw [ev_17]; first | exact cm_add ti_1 (by omega) (by omega) | (have k1 : (1 : Int32).toInt = 1 := ti_1; exact (bn_addI (by omega) (by omega)).trans (by omega))
          refine sl_pX_4_6_5 (x := v_17) hx hb hts hown hh hA hK hP hS dX5_sum_37 (fun f_19 H locs ef_19 hP hS => ?_)
          have hI : sgI loX hiX f_19 := by rw [ef_19]; exact sgI.put hI 4 6 (show 0 ≤ (v_17 : Int32).toInt ∧ (v_17 : Int32).toInt ≤ 120 from ⟨by omega, by omega⟩)
          have hF : sgK WkX5_sum_6 f f_19 := sgK.put hF ef_19 (by rfl)
          refine lv_aload_n hx hb dX5_sum_40 rfl (lv_at hl 0 rfl) ?_
          refine lv_iload_n hx hb dX5_sum_41 rfl (lv_at hl 1 rfl) ?_
          refine sg_callv (va_runV (As := [.int 6]) (rest := []) ⟨hx, hb, hml, hown, hts⟩ (kX5_product_6 l D ca za h hh f_19 L Q hI H.size) (sl_c5_product_3_0_0_65_5 hts ⟨Nat.le_of_ble_eq_true rfl, Nat.le_of_ble_eq_true rfl⟩) (sl_vX_4 hA hK hP hS hZ) rfl rfl hl.1 rfl (lv_room (Nat.le_of_ble_eq_true rfl)) dX5_sum_42 ⟨Nat.le_refl _, Nat.le_refl _⟩) hA hS (fun f_20 L_21 Q_22 H locs hq hP hS => ?_)
          obtain ⟨⟨hI, hk_f_20, eL9, eQ9⟩, u_23⟩ := hq
          rw [eL9, eQ9] at hP; clear eL9 eQ9
          have hF : sgK WkX5_sum_6 f f_20 := sgK.tr hF hk_f_20 (by decide +kernel)
          refine lv_aload_n hx hb dX5_sum_45 rfl (lv_at hl 0 rfl) ?_
          refine lv_iload_n hx hb dX5_sum_46 rfl (lv_at hl 2 rfl) ?_
          refine sg_callv (va_runV (As := [.int y2_12]) (rest := []) ⟨hx, hb, hml, hown, hts⟩ (kX5_write l D ca za h hh f_20 L Q hI y2_12 H.size) (sl_c5_write_0_0_0_0_5 hts ⟨Nat.le_of_ble_eq_true rfl, Nat.le_of_ble_eq_true rfl⟩) (sl_vX_4 hA hK hP hS hZ) rfl rfl hl.1 rfl (lv_room (Nat.le_of_ble_eq_true rfl)) dX5_sum_47 ⟨Nat.le_refl _, Nat.le_refl _⟩) hA hS (fun f_24 L_25 Q_26 H locs hq hP hS => ?_)
          obtain ⟨⟨hI, hk_f_24, eL9, eQ9⟩, u_27⟩ := hq
          rw [eL9, eQ9] at hP; clear eL9 eQ9
          have hF : sgK WkX5_sum_6 f f_24 := sgK.tr hF hk_f_24 (by decide +kernel)
          refine lv_aload_n hx hb dX5_sum_50 rfl (lv_at hl 0 rfl) ?_
          obtain ⟨v_28, ev_28⟩ : ∃ z : Int32, z = f_24 4 6 := ⟨_, rfl⟩
          have q_29 : 0 ≤ v_28.toInt ∧ v_28.toInt ≤ 120 := by rw [ev_28]; exact hI 4 6
          have q_30 : (f_24 4 6).toInt = v_28.toInt := (congrArg Int32.toInt (show f_24 4 6 = v_28 from ev_28.symm))
          have q_31 : (f_24 4 1).toInt = v_10.toInt := (congrArg Int32.toInt (show f_24 4 1 = v_10 from ((hk_f_24 4 1 (by decide)).trans ((hk_f_20 4 1 (by decide)).trans (by rw [ef_19, sg_up_s, sgu_n (by decide)]; exact ev_10.symm)))))
          refine sg_calli (va_runV (As := []) (rest := []) ⟨hx, hb, hml, hown, hts⟩ (kX5_next l D ca za h hh f_24 L Q hI H.size) (sl_c5_next_0_0_0_0_5 hts ⟨Nat.le_of_ble_eq_true rfl, Nat.le_of_ble_eq_true rfl⟩) (sl_vX_4 hA hK hP hS hZ) rfl rfl hl.1 rfl (lv_room (Nat.le_of_ble_eq_true rfl)) dX5_sum_51 ⟨Nat.le_refl _, Nat.le_refl _⟩) hA hS (fun r_35 f_32 L_33 Q_34 H locs hq hP hS => ?_)
          obtain ⟨⟨ef9, eL9, eQ9⟩, hq, p_36, u_37⟩ := hq
          rw [ef9, eL9, eQ9] at hP; clear ef9 eL9 eQ9
          refine lv_istore_n (lv' := [(2, .int r_35), (0, .ref (h 4)), (1, .int 6), (3, .int y3_12)]) hx hb dX5_sum_54 rfl hl (by decide) rfl (fun ls hl => ?_)
          obtain ⟨v_38, ev_38⟩ : ∃ z : Int32, z = y3_12 + 1 := ⟨_, rfl⟩
          have q_39 : v_38.toInt = y3_12.toInt + 1 := by rw [ev_38]; exact (bn_addc y3_12 1 (by decide) (by omega) (by omega))
          refine lv_iinc (v := v_38) (lv' := [(3, .int v_38), (2, .int r_35), (0, .ref (h 4)), (1, .int 6)]) hx hb dX5_sum_55 hl (k := 3) rfl (by rw [ev_38]; rfl) (by decide) rfl (fun ls hl => ?_)
          refine lv_goto (tgt := 12) hx hb dX5_sum_58 (by decide) ?_
          exact ih_12 r_35 v_38 f_24 _ _ _ (hs.trans ((if_pos c_15).trans (spl_e ev_17 (spl_e ef_19 (spl_e u_23 (spl_e u_27 (spl_e ev_28 (spl_e u_37 (spl_e ev_38 rfl))))))))) (by omega) ⟨by omega, by omega⟩ ⟨by omega, by omega⟩ (by have zz4_6 : (f_24 4 6).toInt = v_28.toInt := (congrArg Int32.toInt (show f_24 4 6 = v_28 from ev_28.symm)); have zz4_1 : (f_24 4 1).toInt = v_10.toInt := (congrArg Int32.toInt (show f_24 4 1 = v_10 from ((hk_f_24 4 1 (by decide)).trans ((hk_f_20 4 1 (by decide)).trans (by rw [ef_19, sg_up_s, sgu_n (by decide)]; exact ev_10.symm))))); omega) hI hF hP hS (lv_sub hl [2, 3, 1, 0] rfl)
        · skip
          have c_16 : y2_12.toInt ≠ 43 := (by first | exact (cm_ne1 ti_43 c) | (have z := bn_ne c; have k1 : (43 : Int32).toInt = 43 := ti_43; omega))
          replace hs := hs.trans ((if_neg c_16).trans rfl)
          refine lv_iload_n hx hb dX5_sum_24 rfl (lv_at hl 2 rfl) ?_
          refine lv_bipush (v := 45) hx hb dX5_sum_25 bp_45 ?_
          refine lv_icmp_ne (tgt := 61) hx hb dX5_sum_27 (by decide) (fun c => ?_) (fun c => ?_)
          · skip
            have c_40 : y2_12.toInt ≠ 45 := (by first | exact (cm_ne1 ti_45 c) | (have z := bn_ne c; have k1 : (45 : Int32).toInt = 45 := ti_45; omega))
            exact hret _ _ _ _ fp_12 L Q dX5_sum_61 hP hS ⟨⟨hI, hF, rfl, rfl⟩, (Eq.trans (Eq.symm (hs.trans ((if_neg c_40).trans rfl))) hsp)⟩
          · skip
            have c_41 : y2_12.toInt = 45 := (by first | exact (cm_eq1 ti_45 c) | (have z := Int32.toInt_inj.mpr c; have k1 : (45 : Int32).toInt = 45 := ti_45; omega))
            refine lv_aload_n hx hb dX5_sum_30 rfl (lv_at hl 0 rfl) ?_
            refine lv_dup hx hb dX5_sum_31 rfl ?_
            refine sl_gX_4_6_5 (v := v_7) hx hb hts hown hK hP (show fp_12 4 6 = v_7 from ev_7.symm) dX5_sum_32 ?_
            refine lv_iconst (v := 1) hx hb dX5_sum_35 ic_1 ?_
            refine lv_iadd hx hb dX5_sum_36 ?_
            refine lv_topi (fun v_42 ev_42 => ?_)
            have q_43 : v_42.toInt = v_7.toInt + 1 := by rw [ev_42]; first | exact cm_add ti_1 (by omega) (by omega) | (have k1 : (1 : Int32).toInt = 1 := ti_1; exact (bn_addI (by omega) (by omega)).trans (by omega))
            refine sl_pX_4_6_5 (x := v_42) hx hb hts hown hh hA hK hP hS dX5_sum_37 (fun f_44 H locs ef_44 hP hS => ?_)
            have hI : sgI loX hiX f_44 := by rw [ef_44]; exact sgI.put hI 4 6 (show 0 ≤ (v_42 : Int32).toInt ∧ (v_42 : Int32).toInt ≤ 120 from ⟨by omega, by omega⟩)
            have hF : sgK WkX5_sum_6 f f_44 := sgK.put hF ef_44 (by rfl)
            refine lv_aload_n hx hb dX5_sum_40 rfl (lv_at hl 0 rfl) ?_
            refine lv_iload_n hx hb dX5_sum_41 rfl (lv_at hl 1 rfl) ?_
            refine sg_callv (va_runV (As := [.int 6]) (rest := []) ⟨hx, hb, hml, hown, hts⟩ (kX5_product_6 l D ca za h hh f_44 L Q hI H.size) (sl_c5_product_3_0_0_65_5 hts ⟨Nat.le_of_ble_eq_true rfl, Nat.le_of_ble_eq_true rfl⟩) (sl_vX_4 hA hK hP hS hZ) rfl rfl hl.1 rfl (lv_room (Nat.le_of_ble_eq_true rfl)) dX5_sum_42 ⟨Nat.le_refl _, Nat.le_refl _⟩) hA hS (fun f_45 L_46 Q_47 H locs hq hP hS => ?_)
            obtain ⟨⟨hI, hk_f_45, eL9, eQ9⟩, u_48⟩ := hq
            rw [eL9, eQ9] at hP; clear eL9 eQ9
            have hF : sgK WkX5_sum_6 f f_45 := sgK.tr hF hk_f_45 (by decide +kernel)
            refine lv_aload_n hx hb dX5_sum_45 rfl (lv_at hl 0 rfl) ?_
            refine lv_iload_n hx hb dX5_sum_46 rfl (lv_at hl 2 rfl) ?_
            refine sg_callv (va_runV (As := [.int y2_12]) (rest := []) ⟨hx, hb, hml, hown, hts⟩ (kX5_write l D ca za h hh f_45 L Q hI y2_12 H.size) (sl_c5_write_0_0_0_0_5 hts ⟨Nat.le_of_ble_eq_true rfl, Nat.le_of_ble_eq_true rfl⟩) (sl_vX_4 hA hK hP hS hZ) rfl rfl hl.1 rfl (lv_room (Nat.le_of_ble_eq_true rfl)) dX5_sum_47 ⟨Nat.le_refl _, Nat.le_refl _⟩) hA hS (fun f_49 L_50 Q_51 H locs hq hP hS => ?_)
            obtain ⟨⟨hI, hk_f_49, eL9, eQ9⟩, u_52⟩ := hq
            rw [eL9, eQ9] at hP; clear eL9 eQ9
            have hF : sgK WkX5_sum_6 f f_49 := sgK.tr hF hk_f_49 (by decide +kernel)
            refine lv_aload_n hx hb dX5_sum_50 rfl (lv_at hl 0 rfl) ?_
            obtain ⟨v_53, ev_53⟩ : ∃ z : Int32, z = f_49 4 6 := ⟨_, rfl⟩
            have q_54 : 0 ≤ v_53.toInt ∧ v_53.toInt ≤ 120 := by rw [ev_53]; exact hI 4 6
            have q_55 : (f_49 4 6).toInt = v_53.toInt := (congrArg Int32.toInt (show f_49 4 6 = v_53 from ev_53.symm))
            have q_56 : (f_49 4 1).toInt = v_10.toInt := (congrArg Int32.toInt (show f_49 4 1 = v_10 from ((hk_f_49 4 1 (by decide)).trans ((hk_f_45 4 1 (by decide)).trans (by rw [ef_44, sg_up_s, sgu_n (by decide)]; exact ev_10.symm)))))
            refine sg_calli (va_runV (As := []) (rest := []) ⟨hx, hb, hml, hown, hts⟩ (kX5_next l D ca za h hh f_49 L Q hI H.size) (sl_c5_next_0_0_0_0_5 hts ⟨Nat.le_of_ble_eq_true rfl, Nat.le_of_ble_eq_true rfl⟩) (sl_vX_4 hA hK hP hS hZ) rfl rfl hl.1 rfl (lv_room (Nat.le_of_ble_eq_true rfl)) dX5_sum_51 ⟨Nat.le_refl _, Nat.le_refl _⟩) hA hS (fun r_60 f_57 L_58 Q_59 H locs hq hP hS => ?_)
            obtain ⟨⟨ef9, eL9, eQ9⟩, hq, p_61, u_62⟩ := hq
            rw [ef9, eL9, eQ9] at hP; clear ef9 eL9 eQ9
            refine lv_istore_n (lv' := [(2, .int r_60), (0, .ref (h 4)), (1, .int 6), (3, .int y3_12)]) hx hb dX5_sum_54 rfl hl (by decide) rfl (fun ls hl => ?_)
            obtain ⟨v_63, ev_63⟩ : ∃ z : Int32, z = y3_12 + 1 := ⟨_, rfl⟩
            have q_64 : v_63.toInt = y3_12.toInt + 1 := by rw [ev_63]; exact (bn_addc y3_12 1 (by decide) (by omega) (by omega))
            refine lv_iinc (v := v_63) (lv' := [(3, .int v_63), (2, .int r_60), (0, .ref (h 4)), (1, .int 6)]) hx hb dX5_sum_55 hl (k := 3) rfl (by rw [ev_63]; rfl) (by decide) rfl (fun ls hl => ?_)
            refine lv_goto (tgt := 12) hx hb dX5_sum_58 (by decide) ?_
            exact ih_12 r_60 v_63 f_49 _ _ _ (hs.trans ((if_pos c_41).trans (spl_e ev_42 (spl_e ef_44 (spl_e u_48 (spl_e u_52 (spl_e ev_53 (spl_e u_62 (spl_e ev_63 rfl))))))))) (by omega) ⟨by omega, by omega⟩ ⟨by omega, by omega⟩ (by have zz4_6 : (f_49 4 6).toInt = v_53.toInt := (congrArg Int32.toInt (show f_49 4 6 = v_53 from ev_53.symm)); have zz4_1 : (f_49 4 1).toInt = v_10.toInt := (congrArg Int32.toInt (show f_49 4 1 = v_10 from ((hk_f_49 4 1 (by decide)).trans ((hk_f_45 4 1 (by decide)).trans (by rw [ef_44, sg_up_s, sgu_n (by decide)]; exact ev_10.symm))))); omega) hI hF hP hS (lv_sub hl [2, 3, 1, 0] rfl)
  refine lv_aload_n hx hb dX5_sum_0 rfl (lv_at hl 0 rfl) ?_
  refine lv_iload_n hx hb dX5_sum_1 rfl (lv_at hl 1 rfl) ?_
  refine sg_callv (va_runV (As := [.int 6]) (rest := []) ⟨hx, hb, hml, hown, hts⟩ (kX5_product_6 l D ca za h hh f L Q hI H.size) (sl_c5_product_3_0_0_65_5 hts ⟨Nat.le_of_ble_eq_true rfl, Nat.le_of_ble_eq_true rfl⟩) (sl_vX_4 hA hK hP hS hZ) rfl rfl hl.1 rfl (lv_room (Nat.le_of_ble_eq_true rfl)) dX5_sum_2 ⟨Nat.le_refl _, Nat.le_refl _⟩) hA hS (fun f_65 L_66 Q_67 H locs hq hP hS => ?_)
  obtain ⟨⟨hI, hk_f_65, eL9, eQ9⟩, u_68⟩ := hq
  rw [eL9, eQ9] at hP; clear eL9 eQ9
  have hF : sgK WkX5_sum_6 f f_65 := sgK.tr hF hk_f_65 (by decide +kernel)
  refine lv_aload_n hx hb dX5_sum_5 rfl (lv_at hl 0 rfl) ?_
  obtain ⟨v_69, ev_69⟩ : ∃ z : Int32, z = f_65 4 6 := ⟨_, rfl⟩
  have q_70 : 0 ≤ v_69.toInt ∧ v_69.toInt ≤ 120 := by rw [ev_69]; exact hI 4 6
  have q_71 : (f_65 4 6).toInt = v_69.toInt := (congrArg Int32.toInt (show f_65 4 6 = v_69 from ev_69.symm))
  have q_72 : (f_65 4 1).toInt = v_3.toInt := (congrArg Int32.toInt (show f_65 4 1 = v_3 from ((hk_f_65 4 1 (by decide)).trans ev_3.symm)))
  refine sg_calli (va_runV (As := []) (rest := []) ⟨hx, hb, hml, hown, hts⟩ (kX5_next l D ca za h hh f_65 L Q hI H.size) (sl_c5_next_0_0_0_0_5 hts ⟨Nat.le_of_ble_eq_true rfl, Nat.le_of_ble_eq_true rfl⟩) (sl_vX_4 hA hK hP hS hZ) rfl rfl hl.1 rfl (lv_room (Nat.le_of_ble_eq_true rfl)) dX5_sum_6 ⟨Nat.le_refl _, Nat.le_refl _⟩) hA hS (fun r_76 f_73 L_74 Q_75 H locs hq hP hS => ?_)
  obtain ⟨⟨ef9, eL9, eQ9⟩, hq, p_77, u_78⟩ := hq
  rw [ef9, eL9, eQ9] at hP; clear ef9 eL9 eQ9
  refine lv_istore_n (lv' := [(2, .int r_76), (0, .ref (h 4)), (1, .int 6)]) hx hb dX5_sum_9 rfl hl (by decide) rfl (fun ls hl => ?_)
  refine lv_iconst (v := 0) hx hb dX5_sum_10 ic_0 ?_
  refine lv_istore_n (lv' := [(3, .int 0), (2, .int r_76), (0, .ref (h 4)), (1, .int 6)]) hx hb dX5_sum_11 rfl hl (by decide) rfl (fun ls hl => ?_)
  exact loop_12 121 r_76 0 f_65 _ _ _ (hs.trans ((spl_e ev_1 (spl_e ev_3 (spl_e u_68 (spl_e ev_69 (spl_e u_78 rfl))))))) (by have kc1 : (0 : Int32).toInt = 0 := ti_0; omega) ⟨by omega, by omega⟩ (by decide) (by have kc1 : (0 : Int32).toInt = 0 := ti_0; have zz4_6 : (f_65 4 6).toInt = v_69.toInt := (congrArg Int32.toInt (show f_65 4 6 = v_69 from ev_69.symm)); have zz4_1 : (f_65 4 1).toInt = v_3.toInt := (congrArg Int32.toInt (show f_65 4 1 = v_3 from ((hk_f_65 4 1 (by decide)).trans ev_3.symm))); omega) hI hF hP hS (lv_sub hl [2, 3, 1, 0] rfl)

abbrev WkX5_compared_6 : List (Nat × Nat × Option Nat) := [(4, 4, some 6), (4, 4, some 7), (4, 4, some 8), (6, 6, none)]
set_option maxHeartbeats 4000000 in
set_option maxRecDepth 100000 in
theorem kX5_compared_6 (l : Launch) (D : va_G) (ca : Nat → ClassId) (za h : Nat → Nat) (hh : sgH 52 h) (f : sg_F) (L : sg_L) (Q : sg_Q) (hI : sgI loX hiX f) (sz : Nat) : Met l yX5_compared gwX5_compared { frames := 5, cells := 0, slots := 0, locals := 111 } (sgP D vwCl (tyX ca) 52 h (eX ca h) zcX za f L Q sz [.ref (h 4), .int 6]) (sgQv D vwCl 52 h (eX ca h) sz (fun f1 L1 Q1 => ((sgI loX hiX f1 ∧ sgK WkX5_compared_6 f f1 ∧ L1 = L ∧ Q1 = Q) ∧ (f1) = sX5_compared_6 f L))) 0 0 (sgA 52 h sz) := by
  refine sg_ofWv (cc := cX5_compared) (maxL := 3) RX5 (by decide) rfl rfl (Nat.le_of_ble_eq_true rfl) ?_
  intro p e s m below meth cd Qz ls hx hb hml hown hts hK hZ hP hS hl hret
  have hA := sgY.self (n := 52) (h := h) (sz := s.heap.size)
  have hl : lv_has ls 3 [(0, .ref (h 4)), (1, .int 6)] := hl
  obtain ⟨H, hH⟩ : ∃ z : Heap, z = s.heap := ⟨_, rfl⟩
  obtain ⟨locs, hlo⟩ : ∃ z : List Loc, z = [] := ⟨_, rfl⟩
  have hP : va_P D vwCl (sgw 52 h (eX ca h) f L Q) H := by rw [hH]; exact hP
  have hS : va_S (sgA 52 h s.heap.size) s.heap H locs := by rw [hH, hlo]; exact hS
  suffices hgo : W p l e ({ frames := 5, cells := 0, slots := 0, locals := 111 }) s m ([.ref (h 4), .int 6] : List Value).toArray below meth cd H locs 0 0 Qz (F0 m 0 ls []) by rw [hH, hlo] at hgo; exact hgo
  clear hH hlo
  obtain ⟨sp, hsp⟩ : ∃ z : sg_F, z = sX5_compared_6 f L := ⟨_, rfl⟩
  have hs : sp = sX5_compared_6 f L := hsp
  have hF : sgK WkX5_compared_6 f f := sgK.rf
  refine lv_aload_n hx hb dX5_compared_0 rfl (lv_at hl 0 rfl) ?_
  refine lv_iload_n hx hb dX5_compared_1 rfl (lv_at hl 1 rfl) ?_
  refine sg_callv (va_runV (As := [.int 6]) (rest := []) ⟨hx, hb, hml, hown, hts⟩ (kX5_sum_6 l D ca za h hh f L Q hI H.size) (sl_c5_sum_4_0_0_88_5 hts ⟨Nat.le_of_ble_eq_true rfl, Nat.le_of_ble_eq_true rfl⟩) (sl_vX_4 hA hK hP hS hZ) rfl rfl hl.1 rfl (lv_room (Nat.le_of_ble_eq_true rfl)) dX5_compared_2 ⟨Nat.le_refl _, Nat.le_refl _⟩) hA hS (fun f_1 L_2 Q_3 H locs hq hP hS => ?_)
  obtain ⟨⟨hI, hk_f_1, eL9, eQ9⟩, u_4⟩ := hq
  rw [eL9, eQ9] at hP; clear eL9 eQ9
  have hF : sgK WkX5_compared_6 f f_1 := sgK.tr hF hk_f_1 (by decide +kernel)
  refine lv_aload_n hx hb dX5_compared_5 rfl (lv_at hl 0 rfl) ?_
  obtain ⟨v_5, ev_5⟩ : ∃ z : Int32, z = f_1 4 6 := ⟨_, rfl⟩
  have q_6 : 0 ≤ v_5.toInt ∧ v_5.toInt ≤ 120 := by rw [ev_5]; exact hI 4 6
  have q_7 : (f_1 4 6).toInt = v_5.toInt := (congrArg Int32.toInt (show f_1 4 6 = v_5 from ev_5.symm))
  obtain ⟨v_8, ev_8⟩ : ∃ z : Int32, z = f_1 4 1 := ⟨_, rfl⟩
  have q_9 : 0 ≤ v_8.toInt ∧ v_8.toInt ≤ 120 := by rw [ev_8]; exact hI 4 1
  have q_10 : (f_1 4 1).toInt = v_8.toInt := (congrArg Int32.toInt (show f_1 4 1 = v_8 from ev_8.symm))
  refine sg_calli (va_runV (As := []) (rest := []) ⟨hx, hb, hml, hown, hts⟩ (kX5_next l D ca za h hh f_1 L Q hI H.size) (sl_c5_next_0_0_0_0_5 hts ⟨Nat.le_of_ble_eq_true rfl, Nat.le_of_ble_eq_true rfl⟩) (sl_vX_4 hA hK hP hS hZ) rfl rfl hl.1 rfl (lv_room (Nat.le_of_ble_eq_true rfl)) dX5_compared_6 ⟨Nat.le_refl _, Nat.le_refl _⟩) hA hS (fun r_14 f_11 L_12 Q_13 H locs hq hP hS => ?_)
  obtain ⟨⟨ef9, eL9, eQ9⟩, hq, p_15, u_16⟩ := hq
  replace hs := hs.trans (spl_e u_4 (spl_e ev_5 (spl_e ev_8 (spl_e u_16 rfl))))
  rw [ef9, eL9, eQ9] at hP; clear ef9 eL9 eQ9
  refine lv_istore_n (lv' := [(2, .int r_14), (0, .ref (h 4)), (1, .int 6)]) hx hb dX5_compared_9 rfl hl (by decide) rfl (fun ls hl => ?_)
  refine lv_iload_n hx hb dX5_compared_10 rfl (lv_at hl 0 rfl) ?_
  refine lv_bipush (v := 60) hx hb dX5_compared_11 bp_60 ?_
  refine lv_icmp_eq (tgt := 28) hx hb dX5_compared_13 (by decide) (fun c => ?_) (fun c => ?_)
  · skip
    have c_17 : r_14.toInt = 60 := (by first | exact (cm_eq1 ti_60 c) | (have z := Int32.toInt_inj.mpr c; have k1 : (60 : Int32).toInt = 60 := ti_60; omega))
    refine lv_aload_n hx hb dX5_compared_28 rfl (lv_at hl 1 rfl) ?_
    refine lv_dup hx hb dX5_compared_29 rfl ?_
    refine sl_gX_4_6_5 (v := v_5) hx hb hts hown hK hP (show f_1 4 6 = v_5 from ev_5.symm) dX5_compared_30 ?_
    refine lv_iconst (v := 1) hx hb dX5_compared_33 ic_1 ?_
    refine lv_iadd hx hb dX5_compared_34 ?_
    refine lv_topi (fun v_19 ev_19 => ?_)
    have q_20 : v_19.toInt = v_5.toInt + 1 := by rw [ev_19]; first | exact cm_add ti_1 (by omega) (by omega) | (have k1 : (1 : Int32).toInt = 1 := ti_1; exact (bn_addI (by omega) (by omega)).trans (by omega))
    refine sl_pX_4_6_5 (x := v_19) hx hb hts hown hh hA hK hP hS dX5_compared_35 (fun f_21 H locs ef_21 hP hS => ?_)
    have hI : sgI loX hiX f_21 := by rw [ef_21]; exact sgI.put hI 4 6 (show 0 ≤ (v_19 : Int32).toInt ∧ (v_19 : Int32).toInt ≤ 120 from ⟨by omega, by omega⟩)
    have hF : sgK WkX5_compared_6 f f_21 := sgK.put hF ef_21 (by rfl)
    refine lv_aload_n hx hb dX5_compared_38 rfl (lv_at hl 1 rfl) ?_
    refine lv_iload_n hx hb dX5_compared_39 rfl (lv_at hl 2 rfl) ?_
    refine sg_callv (va_runV (As := [.int 6]) (rest := []) ⟨hx, hb, hml, hown, hts⟩ (kX5_sum_6 l D ca za h hh f_21 L Q hI H.size) (sl_c5_sum_4_0_0_88_5 hts ⟨Nat.le_of_ble_eq_true rfl, Nat.le_of_ble_eq_true rfl⟩) (sl_vX_4 hA hK hP hS hZ) rfl rfl hl.1 rfl (lv_room (Nat.le_of_ble_eq_true rfl)) dX5_compared_40 ⟨Nat.le_refl _, Nat.le_refl _⟩) hA hS (fun f_22 L_23 Q_24 H locs hq hP hS => ?_)
    obtain ⟨⟨hI, hk_f_22, eL9, eQ9⟩, u_25⟩ := hq
    rw [eL9, eQ9] at hP; clear eL9 eQ9
    have hF : sgK WkX5_compared_6 f f_22 := sgK.tr hF hk_f_22 (by decide +kernel)
    refine lv_aload_n hx hb dX5_compared_43 rfl (lv_at hl 1 rfl) ?_
    refine lv_iload_n hx hb dX5_compared_44 rfl (lv_at hl 0 rfl) ?_
    refine sg_callv (va_runV (As := [.int r_14]) (rest := []) ⟨hx, hb, hml, hown, hts⟩ (kX5_write l D ca za h hh f_22 L Q hI r_14 H.size) (sl_c5_write_0_0_0_0_5 hts ⟨Nat.le_of_ble_eq_true rfl, Nat.le_of_ble_eq_true rfl⟩) (sl_vX_4 hA hK hP hS hZ) rfl rfl hl.1 rfl (lv_room (Nat.le_of_ble_eq_true rfl)) dX5_compared_45 ⟨Nat.le_refl _, Nat.le_refl _⟩) hA hS (fun f_26 L_27 Q_28 H locs hq hP hS => ?_)
    obtain ⟨⟨hI, hk_f_26, eL9, eQ9⟩, u_29⟩ := hq
    rw [eL9, eQ9] at hP; clear eL9 eQ9
    have hF : sgK WkX5_compared_6 f f_26 := sgK.tr hF hk_f_26 (by decide +kernel)
    exact hret _ _ _ _ f_26 L Q dX5_compared_48 hP hS ⟨⟨hI, hF, rfl, rfl⟩, (Eq.trans (Eq.symm (hs.trans ((if_pos c_17).trans (spl_e ev_19 (spl_e ef_21 (spl_e u_25 (spl_e u_29 rfl))))))) hsp)⟩
  · skip
    have c_18 : r_14.toInt ≠ 60 := (by first | exact (cm_ne1 ti_60 c) | (have z := bn_ne c; have k1 : (60 : Int32).toInt = 60 := ti_60; omega))
    replace hs := hs.trans ((if_neg c_18).trans rfl)
    refine lv_iload_n hx hb dX5_compared_16 rfl (lv_at hl 0 rfl) ?_
    refine lv_bipush (v := 61) hx hb dX5_compared_17 bp_61 ?_
    refine lv_icmp_eq (tgt := 28) hx hb dX5_compared_19 (by decide) (fun c => ?_) (fun c => ?_)
    · skip
      have c_30 : r_14.toInt = 61 := (by first | exact (cm_eq1 ti_61 c) | (have z := Int32.toInt_inj.mpr c; have k1 : (61 : Int32).toInt = 61 := ti_61; omega))
      refine lv_aload_n hx hb dX5_compared_28 rfl (lv_at hl 1 rfl) ?_
      refine lv_dup hx hb dX5_compared_29 rfl ?_
      refine sl_gX_4_6_5 (v := v_5) hx hb hts hown hK hP (show f_1 4 6 = v_5 from ev_5.symm) dX5_compared_30 ?_
      refine lv_iconst (v := 1) hx hb dX5_compared_33 ic_1 ?_
      refine lv_iadd hx hb dX5_compared_34 ?_
      refine lv_topi (fun v_32 ev_32 => ?_)
      have q_33 : v_32.toInt = v_5.toInt + 1 := by rw [ev_32]; first | exact cm_add ti_1 (by omega) (by omega) | (have k1 : (1 : Int32).toInt = 1 := ti_1; exact (bn_addI (by omega) (by omega)).trans (by omega))
      refine sl_pX_4_6_5 (x := v_32) hx hb hts hown hh hA hK hP hS dX5_compared_35 (fun f_34 H locs ef_34 hP hS => ?_)
      have hI : sgI loX hiX f_34 := by rw [ef_34]; exact sgI.put hI 4 6 (show 0 ≤ (v_32 : Int32).toInt ∧ (v_32 : Int32).toInt ≤ 120 from ⟨by omega, by omega⟩)
      have hF : sgK WkX5_compared_6 f f_34 := sgK.put hF ef_34 (by rfl)
      refine lv_aload_n hx hb dX5_compared_38 rfl (lv_at hl 1 rfl) ?_
      refine lv_iload_n hx hb dX5_compared_39 rfl (lv_at hl 2 rfl) ?_
      refine sg_callv (va_runV (As := [.int 6]) (rest := []) ⟨hx, hb, hml, hown, hts⟩ (kX5_sum_6 l D ca za h hh f_34 L Q hI H.size) (sl_c5_sum_4_0_0_88_5 hts ⟨Nat.le_of_ble_eq_true rfl, Nat.le_of_ble_eq_true rfl⟩) (sl_vX_4 hA hK hP hS hZ) rfl rfl hl.1 rfl (lv_room (Nat.le_of_ble_eq_true rfl)) dX5_compared_40 ⟨Nat.le_refl _, Nat.le_refl _⟩) hA hS (fun f_35 L_36 Q_37 H locs hq hP hS => ?_)
      obtain ⟨⟨hI, hk_f_35, eL9, eQ9⟩, u_38⟩ := hq
      rw [eL9, eQ9] at hP; clear eL9 eQ9
      have hF : sgK WkX5_compared_6 f f_35 := sgK.tr hF hk_f_35 (by decide +kernel)
      refine lv_aload_n hx hb dX5_compared_43 rfl (lv_at hl 1 rfl) ?_
      refine lv_iload_n hx hb dX5_compared_44 rfl (lv_at hl 0 rfl) ?_
      refine sg_callv (va_runV (As := [.int r_14]) (rest := []) ⟨hx, hb, hml, hown, hts⟩ (kX5_write l D ca za h hh f_35 L Q hI r_14 H.size) (sl_c5_write_0_0_0_0_5 hts ⟨Nat.le_of_ble_eq_true rfl, Nat.le_of_ble_eq_true rfl⟩) (sl_vX_4 hA hK hP hS hZ) rfl rfl hl.1 rfl (lv_room (Nat.le_of_ble_eq_true rfl)) dX5_compared_45 ⟨Nat.le_refl _, Nat.le_refl _⟩) hA hS (fun f_39 L_40 Q_41 H locs hq hP hS => ?_)
      obtain ⟨⟨hI, hk_f_39, eL9, eQ9⟩, u_42⟩ := hq
      rw [eL9, eQ9] at hP; clear eL9 eQ9
      have hF : sgK WkX5_compared_6 f f_39 := sgK.tr hF hk_f_39 (by decide +kernel)
      exact hret _ _ _ _ f_39 L Q dX5_compared_48 hP hS ⟨⟨hI, hF, rfl, rfl⟩, (Eq.trans (Eq.symm (hs.trans ((if_pos c_30).trans (spl_e ev_32 (spl_e ef_34 (spl_e u_38 (spl_e u_42 rfl))))))) hsp)⟩
    · skip
      have c_31 : r_14.toInt ≠ 61 := (by first | exact (cm_ne1 ti_61 c) | (have z := bn_ne c; have k1 : (61 : Int32).toInt = 61 := ti_61; omega))
      replace hs := hs.trans ((if_neg c_31).trans rfl)
      refine lv_iload_n hx hb dX5_compared_22 rfl (lv_at hl 0 rfl) ?_
      refine lv_bipush (v := 62) hx hb dX5_compared_23 bp_62 ?_
      refine lv_icmp_ne (tgt := 48) hx hb dX5_compared_25 (by decide) (fun c => ?_) (fun c => ?_)
      · skip
        have c_43 : r_14.toInt ≠ 62 := (by first | exact (cm_ne1 ti_62 c) | (have z := bn_ne c; have k1 : (62 : Int32).toInt = 62 := ti_62; omega))
        exact hret _ _ _ _ f_1 L Q dX5_compared_48 hP hS ⟨⟨hI, hF, rfl, rfl⟩, (Eq.trans (Eq.symm (hs.trans ((if_neg c_43).trans rfl))) hsp)⟩
      · skip
        have c_44 : r_14.toInt = 62 := (by first | exact (cm_eq1 ti_62 c) | (have z := Int32.toInt_inj.mpr c; have k1 : (62 : Int32).toInt = 62 := ti_62; omega))
        refine lv_aload_n hx hb dX5_compared_28 rfl (lv_at hl 1 rfl) ?_
        refine lv_dup hx hb dX5_compared_29 rfl ?_
        refine sl_gX_4_6_5 (v := v_5) hx hb hts hown hK hP (show f_1 4 6 = v_5 from ev_5.symm) dX5_compared_30 ?_
        refine lv_iconst (v := 1) hx hb dX5_compared_33 ic_1 ?_
        refine lv_iadd hx hb dX5_compared_34 ?_
        refine lv_topi (fun v_45 ev_45 => ?_)
        have q_46 : v_45.toInt = v_5.toInt + 1 := by rw [ev_45]; first | exact cm_add ti_1 (by omega) (by omega) | (have k1 : (1 : Int32).toInt = 1 := ti_1; exact (bn_addI (by omega) (by omega)).trans (by omega))
        refine sl_pX_4_6_5 (x := v_45) hx hb hts hown hh hA hK hP hS dX5_compared_35 (fun f_47 H locs ef_47 hP hS => ?_)
        have hI : sgI loX hiX f_47 := by rw [ef_47]; exact sgI.put hI 4 6 (show 0 ≤ (v_45 : Int32).toInt ∧ (v_45 : Int32).toInt ≤ 120 from ⟨by omega, by omega⟩)
        have hF : sgK WkX5_compared_6 f f_47 := sgK.put hF ef_47 (by rfl)
        refine lv_aload_n hx hb dX5_compared_38 rfl (lv_at hl 1 rfl) ?_
        refine lv_iload_n hx hb dX5_compared_39 rfl (lv_at hl 2 rfl) ?_
        refine sg_callv (va_runV (As := [.int 6]) (rest := []) ⟨hx, hb, hml, hown, hts⟩ (kX5_sum_6 l D ca za h hh f_47 L Q hI H.size) (sl_c5_sum_4_0_0_88_5 hts ⟨Nat.le_of_ble_eq_true rfl, Nat.le_of_ble_eq_true rfl⟩) (sl_vX_4 hA hK hP hS hZ) rfl rfl hl.1 rfl (lv_room (Nat.le_of_ble_eq_true rfl)) dX5_compared_40 ⟨Nat.le_refl _, Nat.le_refl _⟩) hA hS (fun f_48 L_49 Q_50 H locs hq hP hS => ?_)
        obtain ⟨⟨hI, hk_f_48, eL9, eQ9⟩, u_51⟩ := hq
        rw [eL9, eQ9] at hP; clear eL9 eQ9
        have hF : sgK WkX5_compared_6 f f_48 := sgK.tr hF hk_f_48 (by decide +kernel)
        refine lv_aload_n hx hb dX5_compared_43 rfl (lv_at hl 1 rfl) ?_
        refine lv_iload_n hx hb dX5_compared_44 rfl (lv_at hl 0 rfl) ?_
        refine sg_callv (va_runV (As := [.int r_14]) (rest := []) ⟨hx, hb, hml, hown, hts⟩ (kX5_write l D ca za h hh f_48 L Q hI r_14 H.size) (sl_c5_write_0_0_0_0_5 hts ⟨Nat.le_of_ble_eq_true rfl, Nat.le_of_ble_eq_true rfl⟩) (sl_vX_4 hA hK hP hS hZ) rfl rfl hl.1 rfl (lv_room (Nat.le_of_ble_eq_true rfl)) dX5_compared_45 ⟨Nat.le_refl _, Nat.le_refl _⟩) hA hS (fun f_52 L_53 Q_54 H locs hq hP hS => ?_)
        obtain ⟨⟨hI, hk_f_52, eL9, eQ9⟩, u_55⟩ := hq
        rw [eL9, eQ9] at hP; clear eL9 eQ9
        have hF : sgK WkX5_compared_6 f f_52 := sgK.tr hF hk_f_52 (by decide +kernel)
        exact hret _ _ _ _ f_52 L Q dX5_compared_48 hP hS ⟨⟨hI, hF, rfl, rfl⟩, (Eq.trans (Eq.symm (hs.trans ((if_pos c_44).trans (spl_e ev_45 (spl_e ef_47 (spl_e u_51 (spl_e u_55 rfl))))))) hsp)⟩

abbrev WkX5_both_6 : List (Nat × Nat × Option Nat) := [(4, 4, some 6), (4, 4, some 7), (4, 4, some 8), (6, 6, none)]
set_option maxHeartbeats 4000000 in
set_option maxRecDepth 100000 in
theorem kX5_both_6 (l : Launch) (D : va_G) (ca : Nat → ClassId) (za h : Nat → Nat) (hh : sgH 52 h) (f : sg_F) (L : sg_L) (Q : sg_Q) (hI : sgI loX hiX f) (sz : Nat) : Met l yX5_both gwX5_both { frames := 6, cells := 0, slots := 0, locals := 133 } (sgP D vwCl (tyX ca) 52 h (eX ca h) zcX za f L Q sz [.ref (h 4), .int 6]) (sgQv D vwCl 52 h (eX ca h) sz (fun f1 L1 Q1 => ((sgI loX hiX f1 ∧ sgK WkX5_both_6 f f1 ∧ L1 = L ∧ Q1 = Q) ∧ (f1) = sX5_both_6 f L))) 0 0 (sgA 52 h sz) := by
  refine sg_ofWv (cc := cX5_both) (maxL := 3) RX5 (by decide) rfl rfl (Nat.le_of_ble_eq_true rfl) ?_
  intro p e s m below meth cd Qz ls hx hb hml hown hts hK hZ hP hS hl hret
  have hA := sgY.self (n := 52) (h := h) (sz := s.heap.size)
  have hl : lv_has ls 3 [(0, .ref (h 4)), (1, .int 6)] := hl
  obtain ⟨H, hH⟩ : ∃ z : Heap, z = s.heap := ⟨_, rfl⟩
  obtain ⟨locs, hlo⟩ : ∃ z : List Loc, z = [] := ⟨_, rfl⟩
  have hP : va_P D vwCl (sgw 52 h (eX ca h) f L Q) H := by rw [hH]; exact hP
  have hS : va_S (sgA 52 h s.heap.size) s.heap H locs := by rw [hH, hlo]; exact hS
  suffices hgo : W p l e ({ frames := 6, cells := 0, slots := 0, locals := 133 }) s m ([.ref (h 4), .int 6] : List Value).toArray below meth cd H locs 0 0 Qz (F0 m 0 ls []) by rw [hH, hlo] at hgo; exact hgo
  clear hH hlo
  obtain ⟨sp, hsp⟩ : ∃ z : sg_F, z = sX5_both_6 f L := ⟨_, rfl⟩
  have hs : sp = sX5_both_6 f L := hsp
  have hF : sgK WkX5_both_6 f f := sgK.rf
  have loop_7 : ∀ (n_7 : Nat) (y2_7 : Int32) (fp_7 : sg_F) (H : Heap) (locs : List Loc) (ls : Array Slot), sp = sX5_both_6_l7 n_7 y2_7 fp_7 L → 120 - y2_7.toInt < (n_7 : Int) → 0 ≤ y2_7.toInt ∧ y2_7.toInt ≤ 120 → sgI loX hiX fp_7 → sgK WkX5_both_6 f fp_7 → va_P D vwCl (sgw 52 h (eX ca h) fp_7 L Q) H → va_S (sgA 52 h s.heap.size) s.heap H locs → lv_has ls 3 [(0, .ref (h 4)), (1, .int 6), (2, .int y2_7)] → W p l e ({ frames := 6, cells := 0, slots := 0, locals := 133 }) s m ([.ref (h 4), .int 6] : List Value).toArray below meth cd H locs 0 0 Qz (F0 m 7 ls []) := by
    intro n_7
    induction n_7 with
    | zero => intro y2_7 fp_7 H locs ls hs hm_7 hy0_7 hI hF hP hS hl; exact absurd hm_7 (by omega)
    | succ n_7 ih_7 =>
      intro y2_7 fp_7 H locs ls hs hm_7 hy0_7 hI hF hP hS hl
      have hs : sp = sX5_both_6_h7 (sX5_both_6_l7 n_7) y2_7 fp_7 L := hs
      refine lv_iload_n hx hb dX5_both_7 rfl (lv_at hl 2 rfl) ?_
      refine lv_bipush (v := 120) hx hb dX5_both_8 bp_120 ?_
      refine lv_icmp_ge (tgt := 49) hx hb dX5_both_10 (by decide) (fun c => ?_) (fun c => ?_)
      · skip
        have c_1 : 120 ≤ y2_7.toInt := (by first | exact (cm_le0 ti_120 c) | (have z := bn_le c; have k1 : (120 : Int32).toInt = 120 := ti_120; omega))
        exact hret _ _ _ _ fp_7 L Q dX5_both_49 hP hS ⟨⟨hI, hF, rfl, rfl⟩, (Eq.trans (Eq.symm (hs.trans (((if_neg (Int.not_lt.mpr c_1)).trans rfl)))) hsp)⟩
      · skip
        have c_2 : y2_7.toInt < 120 := (by first | exact (cm_nle0 ti_120 c) | (have z := bn_nle c; have k1 : (120 : Int32).toInt = 120 := ti_120; omega))
        refine lv_aload_n hx hb dX5_both_13 rfl (lv_at hl 0 rfl) ?_
        obtain ⟨v_3, ev_3⟩ : ∃ z : Int32, z = fp_7 4 6 := ⟨_, rfl⟩
        have q_4 : 0 ≤ v_3.toInt ∧ v_3.toInt ≤ 120 := by rw [ev_3]; exact hI 4 6
        have q_5 : (fp_7 4 6).toInt = v_3.toInt := (congrArg Int32.toInt (show fp_7 4 6 = v_3 from ev_3.symm))
        obtain ⟨v_6, ev_6⟩ : ∃ z : Int32, z = fp_7 4 1 := ⟨_, rfl⟩
        have q_7 : 0 ≤ v_6.toInt ∧ v_6.toInt ≤ 120 := by rw [ev_6]; exact hI 4 1
        have q_8 : (fp_7 4 1).toInt = v_6.toInt := (congrArg Int32.toInt (show fp_7 4 1 = v_6 from ev_6.symm))
        refine sg_calli (va_runV (As := []) (rest := []) ⟨hx, hb, hml, hown, hts⟩ (kX5_next l D ca za h hh fp_7 L Q hI H.size) (sl_c5_next_0_0_0_0_5 hts ⟨Nat.le_of_ble_eq_true rfl, Nat.le_of_ble_eq_true rfl⟩) (sl_vX_4 hA hK hP hS hZ) rfl rfl hl.1 rfl (lv_room (Nat.le_of_ble_eq_true rfl)) dX5_both_14 ⟨Nat.le_refl _, Nat.le_refl _⟩) hA hS (fun r_12 f_9 L_10 Q_11 H locs hq hP hS => ?_)
        obtain ⟨⟨ef9, eL9, eQ9⟩, hq, p_13, u_14⟩ := hq
        replace hs := hs.trans ((if_pos c_2).trans (spl_e ev_3 (spl_e ev_6 (spl_e u_14 rfl))))
        rw [ef9, eL9, eQ9] at hP; clear ef9 eL9 eQ9
        refine lv_bipush (v := 38) hx hb dX5_both_17 bp_38 ?_
        refine lv_icmp_ne (tgt := 49) hx hb dX5_both_19 (by decide) (fun c => ?_) (fun c => ?_)
        · skip
          have c_15 : r_12.toInt ≠ 38 := (by first | exact (cm_ne1 ti_38 c) | (have z := bn_ne c; have k1 : (38 : Int32).toInt = 38 := ti_38; omega))
          exact hret _ _ _ _ fp_7 L Q dX5_both_49 hP hS ⟨⟨hI, hF, rfl, rfl⟩, (Eq.trans (Eq.symm (hs.trans ((if_neg c_15).trans rfl))) hsp)⟩
        · skip
          have c_16 : r_12.toInt = 38 := (by first | exact (cm_eq1 ti_38 c) | (have z := Int32.toInt_inj.mpr c; have k1 : (38 : Int32).toInt = 38 := ti_38; omega))
          refine lv_aload_n hx hb dX5_both_22 rfl (lv_at hl 0 rfl) ?_
          refine lv_dup hx hb dX5_both_23 rfl ?_
          refine sl_gX_4_6_5 (v := v_3) hx hb hts hown hK hP (show fp_7 4 6 = v_3 from ev_3.symm) dX5_both_24 ?_
          refine lv_iconst (v := 1) hx hb dX5_both_27 ic_1 ?_
          refine lv_iadd hx hb dX5_both_28 ?_
          refine lv_topi (fun v_17 ev_17 => ?_)
          have q_18 : v_17.toInt = v_3.toInt + 1 := by rw [ev_17]; first | exact cm_add ti_1 (by omega) (by omega) | (have k1 : (1 : Int32).toInt = 1 := ti_1; exact (bn_addI (by omega) (by omega)).trans (by omega))
          refine sl_pX_4_6_5 (x := v_17) hx hb hts hown hh hA hK hP hS dX5_both_29 (fun f_19 H locs ef_19 hP hS => ?_)
          have hI : sgI loX hiX f_19 := by rw [ef_19]; exact sgI.put hI 4 6 (show 0 ≤ (v_17 : Int32).toInt ∧ (v_17 : Int32).toInt ≤ 120 from ⟨by omega, by omega⟩)
          have hF : sgK WkX5_both_6 f f_19 := sgK.put hF ef_19 (by rfl)
          refine lv_aload_n hx hb dX5_both_32 rfl (lv_at hl 0 rfl) ?_
          refine lv_iload_n hx hb dX5_both_33 rfl (lv_at hl 1 rfl) ?_
          refine sg_callv (va_runV (As := [.int 6]) (rest := []) ⟨hx, hb, hml, hown, hts⟩ (kX5_compared_6 l D ca za h hh f_19 L Q hI H.size) (sl_c5_compared_5_0_0_111_5 hts ⟨Nat.le_of_ble_eq_true rfl, Nat.le_of_ble_eq_true rfl⟩) (sl_vX_4 hA hK hP hS hZ) rfl rfl hl.1 rfl (lv_room (Nat.le_of_ble_eq_true rfl)) dX5_both_34 ⟨Nat.le_refl _, Nat.le_refl _⟩) hA hS (fun f_20 L_21 Q_22 H locs hq hP hS => ?_)
          obtain ⟨⟨hI, hk_f_20, eL9, eQ9⟩, u_23⟩ := hq
          rw [eL9, eQ9] at hP; clear eL9 eQ9
          have hF : sgK WkX5_both_6 f f_20 := sgK.tr hF hk_f_20 (by decide +kernel)
          refine lv_aload_n hx hb dX5_both_37 rfl (lv_at hl 0 rfl) ?_
          refine lv_bipush (v := 38) hx hb dX5_both_38 bp_38 ?_
          refine sg_callv (va_runV (As := [.int 38]) (rest := []) ⟨hx, hb, hml, hown, hts⟩ (kX5_write l D ca za h hh f_20 L Q hI 38 H.size) (sl_c5_write_0_0_0_0_5 hts ⟨Nat.le_of_ble_eq_true rfl, Nat.le_of_ble_eq_true rfl⟩) (sl_vX_4 hA hK hP hS hZ) rfl rfl hl.1 rfl (lv_room (Nat.le_of_ble_eq_true rfl)) dX5_both_40 ⟨Nat.le_refl _, Nat.le_refl _⟩) hA hS (fun f_24 L_25 Q_26 H locs hq hP hS => ?_)
          obtain ⟨⟨hI, hk_f_24, eL9, eQ9⟩, u_27⟩ := hq
          rw [eL9, eQ9] at hP; clear eL9 eQ9
          have hF : sgK WkX5_both_6 f f_24 := sgK.tr hF hk_f_24 (by decide +kernel)
          obtain ⟨v_28, ev_28⟩ : ∃ z : Int32, z = y2_7 + 1 := ⟨_, rfl⟩
          have q_29 : v_28.toInt = y2_7.toInt + 1 := by rw [ev_28]; exact (bn_addc y2_7 1 (by decide) (by omega) (by omega))
          refine lv_iinc (v := v_28) (lv' := [(2, .int v_28), (0, .ref (h 4)), (1, .int 6)]) hx hb dX5_both_43 hl (k := 2) rfl (by rw [ev_28]; rfl) (by decide) rfl (fun ls hl => ?_)
          refine lv_goto (tgt := 7) hx hb dX5_both_46 (by decide) ?_
          exact ih_7 v_28 f_24 _ _ _ (hs.trans ((if_pos c_16).trans (spl_e ev_17 (spl_e ef_19 (spl_e u_23 (spl_e u_27 (spl_e ev_28 rfl))))))) (by omega) ⟨by omega, by omega⟩ hI hF hP hS (lv_sub hl [1, 2, 0] rfl)
  refine lv_aload_n hx hb dX5_both_0 rfl (lv_at hl 0 rfl) ?_
  refine lv_iload_n hx hb dX5_both_1 rfl (lv_at hl 1 rfl) ?_
  refine sg_callv (va_runV (As := [.int 6]) (rest := []) ⟨hx, hb, hml, hown, hts⟩ (kX5_compared_6 l D ca za h hh f L Q hI H.size) (sl_c5_compared_5_0_0_111_5 hts ⟨Nat.le_of_ble_eq_true rfl, Nat.le_of_ble_eq_true rfl⟩) (sl_vX_4 hA hK hP hS hZ) rfl rfl hl.1 rfl (lv_room (Nat.le_of_ble_eq_true rfl)) dX5_both_2 ⟨Nat.le_refl _, Nat.le_refl _⟩) hA hS (fun f_30 L_31 Q_32 H locs hq hP hS => ?_)
  obtain ⟨⟨hI, hk_f_30, eL9, eQ9⟩, u_33⟩ := hq
  rw [eL9, eQ9] at hP; clear eL9 eQ9
  have hF : sgK WkX5_both_6 f f_30 := sgK.tr hF hk_f_30 (by decide +kernel)
  refine lv_iconst (v := 0) hx hb dX5_both_5 ic_0 ?_
  refine lv_istore_n (lv' := [(2, .int 0), (0, .ref (h 4)), (1, .int 6)]) hx hb dX5_both_6 rfl hl (by decide) rfl (fun ls hl => ?_)
  exact loop_7 121 0 f_30 _ _ _ (hs.trans ((spl_e u_33 rfl))) (by have kc0 : (0 : Int32).toInt = 0 := ti_0; omega) (by decide) hI hF hP hS (lv_sub hl [1, 2, 0] rfl)

abbrev WkX5_either_6 : List (Nat × Nat × Option Nat) := [(4, 4, some 6), (4, 4, some 7), (4, 4, some 8), (6, 6, none)]
set_option maxHeartbeats 4000000 in
set_option maxRecDepth 100000 in
theorem kX5_either_6 (l : Launch) (D : va_G) (ca : Nat → ClassId) (za h : Nat → Nat) (hh : sgH 52 h) (f : sg_F) (L : sg_L) (Q : sg_Q) (hI : sgI loX hiX f) (sz : Nat) : Met l yX5_either gwX5_either { frames := 7, cells := 0, slots := 0, locals := 155 } (sgP D vwCl (tyX ca) 52 h (eX ca h) zcX za f L Q sz [.ref (h 4), .int 6]) (sgQv D vwCl 52 h (eX ca h) sz (fun f1 L1 Q1 => ((sgI loX hiX f1 ∧ sgK WkX5_either_6 f f1 ∧ L1 = L ∧ Q1 = Q) ∧ (f1) = sX5_either_6 f L))) 0 0 (sgA 52 h sz) := by
  refine sg_ofWv (cc := cX5_either) (maxL := 3) RX5 (by decide) rfl rfl (Nat.le_of_ble_eq_true rfl) ?_
  intro p e s m below meth cd Qz ls hx hb hml hown hts hK hZ hP hS hl hret
  have hA := sgY.self (n := 52) (h := h) (sz := s.heap.size)
  have hl : lv_has ls 3 [(0, .ref (h 4)), (1, .int 6)] := hl
  obtain ⟨H, hH⟩ : ∃ z : Heap, z = s.heap := ⟨_, rfl⟩
  obtain ⟨locs, hlo⟩ : ∃ z : List Loc, z = [] := ⟨_, rfl⟩
  have hP : va_P D vwCl (sgw 52 h (eX ca h) f L Q) H := by rw [hH]; exact hP
  have hS : va_S (sgA 52 h s.heap.size) s.heap H locs := by rw [hH, hlo]; exact hS
  suffices hgo : W p l e ({ frames := 7, cells := 0, slots := 0, locals := 155 }) s m ([.ref (h 4), .int 6] : List Value).toArray below meth cd H locs 0 0 Qz (F0 m 0 ls []) by rw [hH, hlo] at hgo; exact hgo
  clear hH hlo
  obtain ⟨sp, hsp⟩ : ∃ z : sg_F, z = sX5_either_6 f L := ⟨_, rfl⟩
  have hs : sp = sX5_either_6 f L := hsp
  have hF : sgK WkX5_either_6 f f := sgK.rf
  have loop_7 : ∀ (n_7 : Nat) (y2_7 : Int32) (fp_7 : sg_F) (H : Heap) (locs : List Loc) (ls : Array Slot), sp = sX5_either_6_l7 n_7 y2_7 fp_7 L → 120 - y2_7.toInt < (n_7 : Int) → 0 ≤ y2_7.toInt ∧ y2_7.toInt ≤ 120 → sgI loX hiX fp_7 → sgK WkX5_either_6 f fp_7 → va_P D vwCl (sgw 52 h (eX ca h) fp_7 L Q) H → va_S (sgA 52 h s.heap.size) s.heap H locs → lv_has ls 3 [(0, .ref (h 4)), (1, .int 6), (2, .int y2_7)] → W p l e ({ frames := 7, cells := 0, slots := 0, locals := 155 }) s m ([.ref (h 4), .int 6] : List Value).toArray below meth cd H locs 0 0 Qz (F0 m 7 ls []) := by
    intro n_7
    induction n_7 with
    | zero => intro y2_7 fp_7 H locs ls hs hm_7 hy0_7 hI hF hP hS hl; exact absurd hm_7 (by omega)
    | succ n_7 ih_7 =>
      intro y2_7 fp_7 H locs ls hs hm_7 hy0_7 hI hF hP hS hl
      have hs : sp = sX5_either_6_h7 (sX5_either_6_l7 n_7) y2_7 fp_7 L := hs
      refine lv_iload_n hx hb dX5_either_7 rfl (lv_at hl 2 rfl) ?_
      refine lv_bipush (v := 120) hx hb dX5_either_8 bp_120 ?_
      refine lv_icmp_ge (tgt := 49) hx hb dX5_either_10 (by decide) (fun c => ?_) (fun c => ?_)
      · skip
        have c_1 : 120 ≤ y2_7.toInt := (by first | exact (cm_le0 ti_120 c) | (have z := bn_le c; have k1 : (120 : Int32).toInt = 120 := ti_120; omega))
        exact hret _ _ _ _ fp_7 L Q dX5_either_49 hP hS ⟨⟨hI, hF, rfl, rfl⟩, (Eq.trans (Eq.symm (hs.trans (((if_neg (Int.not_lt.mpr c_1)).trans rfl)))) hsp)⟩
      · skip
        have c_2 : y2_7.toInt < 120 := (by first | exact (cm_nle0 ti_120 c) | (have z := bn_nle c; have k1 : (120 : Int32).toInt = 120 := ti_120; omega))
        refine lv_aload_n hx hb dX5_either_13 rfl (lv_at hl 0 rfl) ?_
        obtain ⟨v_3, ev_3⟩ : ∃ z : Int32, z = fp_7 4 6 := ⟨_, rfl⟩
        have q_4 : 0 ≤ v_3.toInt ∧ v_3.toInt ≤ 120 := by rw [ev_3]; exact hI 4 6
        have q_5 : (fp_7 4 6).toInt = v_3.toInt := (congrArg Int32.toInt (show fp_7 4 6 = v_3 from ev_3.symm))
        obtain ⟨v_6, ev_6⟩ : ∃ z : Int32, z = fp_7 4 1 := ⟨_, rfl⟩
        have q_7 : 0 ≤ v_6.toInt ∧ v_6.toInt ≤ 120 := by rw [ev_6]; exact hI 4 1
        have q_8 : (fp_7 4 1).toInt = v_6.toInt := (congrArg Int32.toInt (show fp_7 4 1 = v_6 from ev_6.symm))
        refine sg_calli (va_runV (As := []) (rest := []) ⟨hx, hb, hml, hown, hts⟩ (kX5_next l D ca za h hh fp_7 L Q hI H.size) (sl_c5_next_0_0_0_0_5 hts ⟨Nat.le_of_ble_eq_true rfl, Nat.le_of_ble_eq_true rfl⟩) (sl_vX_4 hA hK hP hS hZ) rfl rfl hl.1 rfl (lv_room (Nat.le_of_ble_eq_true rfl)) dX5_either_14 ⟨Nat.le_refl _, Nat.le_refl _⟩) hA hS (fun r_12 f_9 L_10 Q_11 H locs hq hP hS => ?_)
        obtain ⟨⟨ef9, eL9, eQ9⟩, hq, p_13, u_14⟩ := hq
        replace hs := hs.trans ((if_pos c_2).trans (spl_e ev_3 (spl_e ev_6 (spl_e u_14 rfl))))
        rw [ef9, eL9, eQ9] at hP; clear ef9 eL9 eQ9
        refine lv_bipush (v := 124) hx hb dX5_either_17 bp_124 ?_
        refine lv_icmp_ne (tgt := 49) hx hb dX5_either_19 (by decide) (fun c => ?_) (fun c => ?_)
        · skip
          have c_15 : r_12.toInt ≠ 124 := (by first | exact (cm_ne1 ti_124 c) | (have z := bn_ne c; have k1 : (124 : Int32).toInt = 124 := ti_124; omega))
          exact hret _ _ _ _ fp_7 L Q dX5_either_49 hP hS ⟨⟨hI, hF, rfl, rfl⟩, (Eq.trans (Eq.symm (hs.trans ((if_neg c_15).trans rfl))) hsp)⟩
        · skip
          have c_16 : r_12.toInt = 124 := (by first | exact (cm_eq1 ti_124 c) | (have z := Int32.toInt_inj.mpr c; have k1 : (124 : Int32).toInt = 124 := ti_124; omega))
          refine lv_aload_n hx hb dX5_either_22 rfl (lv_at hl 0 rfl) ?_
          refine lv_dup hx hb dX5_either_23 rfl ?_
          refine sl_gX_4_6_5 (v := v_3) hx hb hts hown hK hP (show fp_7 4 6 = v_3 from ev_3.symm) dX5_either_24 ?_
          refine lv_iconst (v := 1) hx hb dX5_either_27 ic_1 ?_
          refine lv_iadd hx hb dX5_either_28 ?_
          refine lv_topi (fun v_17 ev_17 => ?_)
          have q_18 : v_17.toInt = v_3.toInt + 1 := by rw [ev_17]; first | exact cm_add ti_1 (by omega) (by omega) | (have k1 : (1 : Int32).toInt = 1 := ti_1; exact (bn_addI (by omega) (by omega)).trans (by omega))
          refine sl_pX_4_6_5 (x := v_17) hx hb hts hown hh hA hK hP hS dX5_either_29 (fun f_19 H locs ef_19 hP hS => ?_)
          have hI : sgI loX hiX f_19 := by rw [ef_19]; exact sgI.put hI 4 6 (show 0 ≤ (v_17 : Int32).toInt ∧ (v_17 : Int32).toInt ≤ 120 from ⟨by omega, by omega⟩)
          have hF : sgK WkX5_either_6 f f_19 := sgK.put hF ef_19 (by rfl)
          refine lv_aload_n hx hb dX5_either_32 rfl (lv_at hl 0 rfl) ?_
          refine lv_iload_n hx hb dX5_either_33 rfl (lv_at hl 1 rfl) ?_
          refine sg_callv (va_runV (As := [.int 6]) (rest := []) ⟨hx, hb, hml, hown, hts⟩ (kX5_both_6 l D ca za h hh f_19 L Q hI H.size) (sl_c5_both_6_0_0_133_5 hts ⟨Nat.le_of_ble_eq_true rfl, Nat.le_of_ble_eq_true rfl⟩) (sl_vX_4 hA hK hP hS hZ) rfl rfl hl.1 rfl (lv_room (Nat.le_of_ble_eq_true rfl)) dX5_either_34 ⟨Nat.le_refl _, Nat.le_refl _⟩) hA hS (fun f_20 L_21 Q_22 H locs hq hP hS => ?_)
          obtain ⟨⟨hI, hk_f_20, eL9, eQ9⟩, u_23⟩ := hq
          rw [eL9, eQ9] at hP; clear eL9 eQ9
          have hF : sgK WkX5_either_6 f f_20 := sgK.tr hF hk_f_20 (by decide +kernel)
          refine lv_aload_n hx hb dX5_either_37 rfl (lv_at hl 0 rfl) ?_
          refine lv_bipush (v := 124) hx hb dX5_either_38 bp_124 ?_
          refine sg_callv (va_runV (As := [.int 124]) (rest := []) ⟨hx, hb, hml, hown, hts⟩ (kX5_write l D ca za h hh f_20 L Q hI 124 H.size) (sl_c5_write_0_0_0_0_5 hts ⟨Nat.le_of_ble_eq_true rfl, Nat.le_of_ble_eq_true rfl⟩) (sl_vX_4 hA hK hP hS hZ) rfl rfl hl.1 rfl (lv_room (Nat.le_of_ble_eq_true rfl)) dX5_either_40 ⟨Nat.le_refl _, Nat.le_refl _⟩) hA hS (fun f_24 L_25 Q_26 H locs hq hP hS => ?_)
          obtain ⟨⟨hI, hk_f_24, eL9, eQ9⟩, u_27⟩ := hq
          rw [eL9, eQ9] at hP; clear eL9 eQ9
          have hF : sgK WkX5_either_6 f f_24 := sgK.tr hF hk_f_24 (by decide +kernel)
          obtain ⟨v_28, ev_28⟩ : ∃ z : Int32, z = y2_7 + 1 := ⟨_, rfl⟩
          have q_29 : v_28.toInt = y2_7.toInt + 1 := by rw [ev_28]; exact (bn_addc y2_7 1 (by decide) (by omega) (by omega))
          refine lv_iinc (v := v_28) (lv' := [(2, .int v_28), (0, .ref (h 4)), (1, .int 6)]) hx hb dX5_either_43 hl (k := 2) rfl (by rw [ev_28]; rfl) (by decide) rfl (fun ls hl => ?_)
          refine lv_goto (tgt := 7) hx hb dX5_either_46 (by decide) ?_
          exact ih_7 v_28 f_24 _ _ _ (hs.trans ((if_pos c_16).trans (spl_e ev_17 (spl_e ef_19 (spl_e u_23 (spl_e u_27 (spl_e ev_28 rfl))))))) (by omega) ⟨by omega, by omega⟩ hI hF hP hS (lv_sub hl [1, 2, 0] rfl)
  refine lv_aload_n hx hb dX5_either_0 rfl (lv_at hl 0 rfl) ?_
  refine lv_iload_n hx hb dX5_either_1 rfl (lv_at hl 1 rfl) ?_
  refine sg_callv (va_runV (As := [.int 6]) (rest := []) ⟨hx, hb, hml, hown, hts⟩ (kX5_both_6 l D ca za h hh f L Q hI H.size) (sl_c5_both_6_0_0_133_5 hts ⟨Nat.le_of_ble_eq_true rfl, Nat.le_of_ble_eq_true rfl⟩) (sl_vX_4 hA hK hP hS hZ) rfl rfl hl.1 rfl (lv_room (Nat.le_of_ble_eq_true rfl)) dX5_either_2 ⟨Nat.le_refl _, Nat.le_refl _⟩) hA hS (fun f_30 L_31 Q_32 H locs hq hP hS => ?_)
  obtain ⟨⟨hI, hk_f_30, eL9, eQ9⟩, u_33⟩ := hq
  rw [eL9, eQ9] at hP; clear eL9 eQ9
  have hF : sgK WkX5_either_6 f f_30 := sgK.tr hF hk_f_30 (by decide +kernel)
  refine lv_iconst (v := 0) hx hb dX5_either_5 ic_0 ?_
  refine lv_istore_n (lv' := [(2, .int 0), (0, .ref (h 4)), (1, .int 6)]) hx hb dX5_either_6 rfl hl (by decide) rfl (fun ls hl => ?_)
  exact loop_7 121 0 f_30 _ _ _ (hs.trans ((spl_e u_33 rfl))) (by have kc0 : (0 : Int32).toInt = 0 := ti_0; omega) (by decide) hI hF hP hS (lv_sub hl [1, 2, 0] rfl)

abbrev WkX5_opened_6 : List (Nat × Nat × Option Nat) := [(4, 4, some 6), (4, 4, some 7), (4, 4, some 8), (6, 6, none)]
set_option maxHeartbeats 4000000 in
set_option maxRecDepth 100000 in
theorem kX5_opened_6 (l : Launch) (D : va_G) (ca : Nat → ClassId) (za h : Nat → Nat) (hh : sgH 52 h) (f : sg_F) (L : sg_L) (Q : sg_Q) (hI : sgI loX hiX f) (x0 : Int32) (b0 : 33 ≤ x0.toInt ∧ x0.toInt ≤ 49) (sz : Nat) : Met l yX5_opened gwX5_opened { frames := 8, cells := 0, slots := 0, locals := 177 } (sgP D vwCl (tyX ca) 52 h (eX ca h) zcX za f L Q sz [.ref (h 4), .int x0, .int 6]) (sgQv D vwCl 52 h (eX ca h) sz (fun f1 L1 Q1 => ((sgI loX hiX f1 ∧ sgK WkX5_opened_6 f f1 ∧ L1 = L ∧ Q1 = Q) ∧ (f1) = sX5_opened_6 x0 f L))) 0 0 (sgA 52 h sz) := by
  refine sg_ofWv (cc := cX5_opened) (maxL := 3) RX5 (by decide) rfl rfl (Nat.le_of_ble_eq_true rfl) ?_
  intro p e s m below meth cd Qz ls hx hb hml hown hts hK hZ hP hS hl hret
  have hA := sgY.self (n := 52) (h := h) (sz := s.heap.size)
  have hl : lv_has ls 3 [(0, .ref (h 4)), (1, .int x0), (2, .int 6)] := hl
  obtain ⟨H, hH⟩ : ∃ z : Heap, z = s.heap := ⟨_, rfl⟩
  obtain ⟨locs, hlo⟩ : ∃ z : List Loc, z = [] := ⟨_, rfl⟩
  have hP : va_P D vwCl (sgw 52 h (eX ca h) f L Q) H := by rw [hH]; exact hP
  have hS : va_S (sgA 52 h s.heap.size) s.heap H locs := by rw [hH, hlo]; exact hS
  suffices hgo : W p l e ({ frames := 8, cells := 0, slots := 0, locals := 177 }) s m ([.ref (h 4), .int x0, .int 6] : List Value).toArray below meth cd H locs 0 0 Qz (F0 m 0 ls []) by rw [hH, hlo] at hgo; exact hgo
  clear hH hlo
  obtain ⟨sp, hsp⟩ : ∃ z : sg_F, z = sX5_opened_6 x0 f L := ⟨_, rfl⟩
  have hs : sp = sX5_opened_6 x0 f L := hsp
  have hF : sgK WkX5_opened_6 f f := sgK.rf
  refine lv_iload_n hx hb dX5_opened_0 rfl (lv_at hl 1 rfl) ?_
  refine lv_bipush (v := 40) hx hb dX5_opened_1 bp_40 ?_
  refine lv_icmp_eq (tgt := 29) hx hb dX5_opened_3 (by decide) (fun c => ?_) (fun c => ?_)
  · skip
    have c_1 : x0.toInt = 40 := (by first | exact (cm_eq1 ti_40 c) | (have z := Int32.toInt_inj.mpr c; have k1 : (40 : Int32).toInt = 40 := ti_40; omega))
    refine lv_aload_n hx hb dX5_opened_29 rfl (lv_at hl 0 rfl) ?_
    refine lv_iload_n hx hb dX5_opened_30 rfl (lv_at hl 2 rfl) ?_
    refine sg_callv (va_runV (As := [.int 6]) (rest := []) ⟨hx, hb, hml, hown, hts⟩ (kX5_either_6 l D ca za h hh f L Q hI H.size) (sl_c5_either_7_0_0_155_5 hts ⟨Nat.le_of_ble_eq_true rfl, Nat.le_of_ble_eq_true rfl⟩) (sl_vX_4 hA hK hP hS hZ) rfl rfl hl.1 rfl (lv_room (Nat.le_of_ble_eq_true rfl)) dX5_opened_31 ⟨Nat.le_refl _, Nat.le_refl _⟩) hA hS (fun f_3 L_4 Q_5 H locs hq hP hS => ?_)
    obtain ⟨⟨hI, hk_f_3, eL9, eQ9⟩, u_6⟩ := hq
    rw [eL9, eQ9] at hP; clear eL9 eQ9
    have hF : sgK WkX5_opened_6 f f_3 := sgK.tr hF hk_f_3 (by decide +kernel)
    refine lv_aload_n hx hb dX5_opened_34 rfl (lv_at hl 0 rfl) ?_
    obtain ⟨v_7, ev_7⟩ : ∃ z : Int32, z = f_3 4 6 := ⟨_, rfl⟩
    have q_8 : 0 ≤ v_7.toInt ∧ v_7.toInt ≤ 120 := by rw [ev_7]; exact hI 4 6
    have q_9 : (f_3 4 6).toInt = v_7.toInt := (congrArg Int32.toInt (show f_3 4 6 = v_7 from ev_7.symm))
    obtain ⟨v_10, ev_10⟩ : ∃ z : Int32, z = f_3 4 1 := ⟨_, rfl⟩
    have q_11 : 0 ≤ v_10.toInt ∧ v_10.toInt ≤ 120 := by rw [ev_10]; exact hI 4 1
    have q_12 : (f_3 4 1).toInt = v_10.toInt := (congrArg Int32.toInt (show f_3 4 1 = v_10 from ev_10.symm))
    refine sg_calli (va_runV (As := []) (rest := []) ⟨hx, hb, hml, hown, hts⟩ (kX5_next l D ca za h hh f_3 L Q hI H.size) (sl_c5_next_0_0_0_0_5 hts ⟨Nat.le_of_ble_eq_true rfl, Nat.le_of_ble_eq_true rfl⟩) (sl_vX_4 hA hK hP hS hZ) rfl rfl hl.1 rfl (lv_room (Nat.le_of_ble_eq_true rfl)) dX5_opened_35 ⟨Nat.le_refl _, Nat.le_refl _⟩) hA hS (fun r_16 f_13 L_14 Q_15 H locs hq hP hS => ?_)
    obtain ⟨⟨ef9, eL9, eQ9⟩, hq, p_17, u_18⟩ := hq
    replace hs := hs.trans ((if_pos c_1).trans (spl_e u_6 (spl_e ev_7 (spl_e ev_10 (spl_e u_18 rfl)))))
    rw [ef9, eL9, eQ9] at hP; clear ef9 eL9 eQ9
    refine lv_bipush (v := 41) hx hb dX5_opened_38 bp_41 ?_
    refine lv_icmp_ne (tgt := 56) hx hb dX5_opened_40 (by decide) (fun c => ?_) (fun c => ?_)
    · skip
      have c_19 : r_16.toInt ≠ 41 := (by first | exact (cm_ne1 ti_41 c) | (have z := bn_ne c; have k1 : (41 : Int32).toInt = 41 := ti_41; omega))
      refine lv_aload_n hx hb dX5_opened_56 rfl (lv_at hl 0 rfl) ?_
      refine sg_callv (va_runV (As := []) (rest := []) ⟨hx, hb, hml, hown, hts⟩ (kX5_fail l D ca za h hh f_3 L Q hI H.size) (sl_c5_fail_0_0_0_0_5 hts ⟨Nat.le_of_ble_eq_true rfl, Nat.le_of_ble_eq_true rfl⟩) (sl_vX_4 hA hK hP hS hZ) rfl rfl hl.1 rfl (lv_room (Nat.le_of_ble_eq_true rfl)) dX5_opened_57 ⟨Nat.le_refl _, Nat.le_refl _⟩) hA hS (fun f_21 L_22 Q_23 H locs hq hP hS => ?_)
      obtain ⟨⟨hI, hk_f_21, eL9, eQ9⟩, u_24⟩ := hq
      rw [eL9, eQ9] at hP; clear eL9 eQ9
      have hF : sgK WkX5_opened_6 f f_21 := sgK.tr hF hk_f_21 (by decide +kernel)
      exact hret _ _ _ _ f_21 L Q dX5_opened_60 hP hS ⟨⟨hI, hF, rfl, rfl⟩, (Eq.trans (Eq.symm (hs.trans ((if_neg c_19).trans (spl_e u_24 rfl)))) hsp)⟩
    · skip
      have c_20 : r_16.toInt = 41 := (by first | exact (cm_eq1 ti_41 c) | (have z := Int32.toInt_inj.mpr c; have k1 : (41 : Int32).toInt = 41 := ti_41; omega))
      refine lv_aload_n hx hb dX5_opened_43 rfl (lv_at hl 0 rfl) ?_
      refine lv_dup hx hb dX5_opened_44 rfl ?_
      refine sl_gX_4_6_5 (v := v_7) hx hb hts hown hK hP (show f_3 4 6 = v_7 from ev_7.symm) dX5_opened_45 ?_
      refine lv_iconst (v := 1) hx hb dX5_opened_48 ic_1 ?_
      refine lv_iadd hx hb dX5_opened_49 ?_
      refine lv_topi (fun v_25 ev_25 => ?_)
      have q_26 : v_25.toInt = v_7.toInt + 1 := by rw [ev_25]; first | exact cm_add ti_1 (by omega) (by omega) | (have k1 : (1 : Int32).toInt = 1 := ti_1; exact (bn_addI (by omega) (by omega)).trans (by omega))
      refine sl_pX_4_6_5 (x := v_25) hx hb hts hown hh hA hK hP hS dX5_opened_50 (fun f_27 H locs ef_27 hP hS => ?_)
      have hI : sgI loX hiX f_27 := by rw [ef_27]; exact sgI.put hI 4 6 (show 0 ≤ (v_25 : Int32).toInt ∧ (v_25 : Int32).toInt ≤ 120 from ⟨by omega, by omega⟩)
      have hF : sgK WkX5_opened_6 f f_27 := sgK.put hF ef_27 (by rfl)
      refine lv_goto (tgt := 60) hx hb dX5_opened_53 (by decide) ?_
      exact hret _ _ _ _ f_27 L Q dX5_opened_60 hP hS ⟨⟨hI, hF, rfl, rfl⟩, (Eq.trans (Eq.symm (hs.trans ((if_pos c_20).trans (spl_e ev_25 (spl_e ef_27 rfl))))) hsp)⟩
  · skip
    have c_2 : x0.toInt ≠ 40 := (by first | exact (cm_ne1 ti_40 c) | (have z := bn_ne c; have k1 : (40 : Int32).toInt = 40 := ti_40; omega))
    refine lv_aload_n hx hb dX5_opened_6 rfl (lv_at hl 0 rfl) ?_
    refine lv_iload_n hx hb dX5_opened_7 rfl (lv_at hl 2 rfl) ?_
    refine sg_callv (va_runV (As := [.int 6]) (rest := []) ⟨hx, hb, hml, hown, hts⟩ (kX5_operand_6 l D ca za h hh f L Q hI H.size) (sl_c5_operand_2_0_0_43_5 hts ⟨Nat.le_of_ble_eq_true rfl, Nat.le_of_ble_eq_true rfl⟩) (sl_vX_4 hA hK hP hS hZ) rfl rfl hl.1 rfl (lv_room (Nat.le_of_ble_eq_true rfl)) dX5_opened_8 ⟨Nat.le_refl _, Nat.le_refl _⟩) hA hS (fun f_28 L_29 Q_30 H locs hq hP hS => ?_)
    obtain ⟨⟨hI, hk_f_28, eL9, eQ9⟩, u_31⟩ := hq
    replace hs := hs.trans ((if_neg c_2).trans (spl_e u_31 rfl))
    rw [eL9, eQ9] at hP; clear eL9 eQ9
    have hF : sgK WkX5_opened_6 f f_28 := sgK.tr hF hk_f_28 (by decide +kernel)
    refine lv_aload_n hx hb dX5_opened_11 rfl (lv_at hl 0 rfl) ?_
    refine lv_iload_n hx hb dX5_opened_12 rfl (lv_at hl 1 rfl) ?_
    refine lv_bipush (v := 33) hx hb dX5_opened_13 bp_33 ?_
    refine lv_icmp_ne (tgt := 23) hx hb dX5_opened_15 (by decide) (fun c => ?_) (fun c => ?_)
    · skip
      have c_32 : x0.toInt ≠ 33 := (by first | exact (cm_ne1 ti_33 c) | (have z := bn_ne c; have k1 : (33 : Int32).toInt = 33 := ti_33; omega))
      refine lv_bipush (v := 126) hx hb dX5_opened_23 bp_126 ?_
      refine sg_callv (va_runV (As := [.int 126]) (rest := []) ⟨hx, hb, hml, hown, hts⟩ (kX5_write l D ca za h hh f_28 L Q hI 126 H.size) (sl_c5_write_0_0_0_0_5 hts ⟨Nat.le_of_ble_eq_true rfl, Nat.le_of_ble_eq_true rfl⟩) (sl_vX_4 hA hK hP hS hZ) rfl rfl hl.1 rfl (lv_room (Nat.le_of_ble_eq_true rfl)) dX5_opened_25 ⟨Nat.le_refl _, Nat.le_refl _⟩) hA hS (fun f_34 L_35 Q_36 H locs hq hP hS => ?_)
      obtain ⟨⟨hI, hk_f_34, eL9, eQ9⟩, u_37⟩ := hq
      rw [eL9, eQ9] at hP; clear eL9 eQ9
      have hF : sgK WkX5_opened_6 f f_34 := sgK.tr hF hk_f_34 (by decide +kernel)
      exact hret _ _ _ _ f_34 L Q dX5_opened_28 hP hS ⟨⟨hI, hF, rfl, rfl⟩, (Eq.trans (Eq.symm (hs.trans ((if_neg c_32).trans (spl_e u_37 rfl)))) hsp)⟩
    · skip
      have c_33 : x0.toInt = 33 := (by first | exact (cm_eq1 ti_33 c) | (have z := Int32.toInt_inj.mpr c; have k1 : (33 : Int32).toInt = 33 := ti_33; omega))
      refine lv_bipush (v := 33) hx hb dX5_opened_18 bp_33 ?_
      refine lv_goto (tgt := 25) hx hb dX5_opened_20 (by decide) ?_
      refine sg_callv (va_runV (As := [.int 33]) (rest := []) ⟨hx, hb, hml, hown, hts⟩ (kX5_write l D ca za h hh f_28 L Q hI 33 H.size) (sl_c5_write_0_0_0_0_5 hts ⟨Nat.le_of_ble_eq_true rfl, Nat.le_of_ble_eq_true rfl⟩) (sl_vX_4 hA hK hP hS hZ) rfl rfl hl.1 rfl (lv_room (Nat.le_of_ble_eq_true rfl)) dX5_opened_25 ⟨Nat.le_refl _, Nat.le_refl _⟩) hA hS (fun f_38 L_39 Q_40 H locs hq hP hS => ?_)
      obtain ⟨⟨hI, hk_f_38, eL9, eQ9⟩, u_41⟩ := hq
      rw [eL9, eQ9] at hP; clear eL9 eQ9
      have hF : sgK WkX5_opened_6 f f_38 := sgK.tr hF hk_f_38 (by decide +kernel)
      exact hret _ _ _ _ f_38 L Q dX5_opened_28 hP hS ⟨⟨hI, hF, rfl, rfl⟩, (Eq.trans (Eq.symm (hs.trans ((if_pos c_33).trans (spl_e u_41 rfl)))) hsp)⟩

abbrev WkX5_operand_5 : List (Nat × Nat × Option Nat) := [(4, 4, some 6), (4, 4, some 7), (4, 4, some 8), (6, 6, none)]
set_option maxHeartbeats 4000000 in
set_option maxRecDepth 100000 in
theorem kX5_operand_5 (l : Launch) (D : va_G) (ca : Nat → ClassId) (za h : Nat → Nat) (hh : sgH 52 h) (f : sg_F) (L : sg_L) (Q : sg_Q) (hI : sgI loX hiX f) (sz : Nat) : Met l yX5_operand gwX5_operand { frames := 9, cells := 0, slots := 0, locals := 199 } (sgP D vwCl (tyX ca) 52 h (eX ca h) zcX za f L Q sz [.ref (h 4), .int 5]) (sgQv D vwCl 52 h (eX ca h) sz (fun f1 L1 Q1 => ((sgI loX hiX f1 ∧ sgK WkX5_operand_5 f f1 ∧ L1 = L ∧ Q1 = Q) ∧ (f1) = sX5_operand_5 f L))) 0 0 (sgA 52 h sz) := by
  refine sg_ofWv (cc := cX5_operand) (maxL := 3) RX5 (by decide) rfl rfl (Nat.le_of_ble_eq_true rfl) ?_
  intro p e s m below meth cd Qz ls hx hb hml hown hts hK hZ hP hS hl hret
  have hA := sgY.self (n := 52) (h := h) (sz := s.heap.size)
  have hl : lv_has ls 3 [(0, .ref (h 4)), (1, .int 5)] := hl
  obtain ⟨H, hH⟩ : ∃ z : Heap, z = s.heap := ⟨_, rfl⟩
  obtain ⟨locs, hlo⟩ : ∃ z : List Loc, z = [] := ⟨_, rfl⟩
  have hP : va_P D vwCl (sgw 52 h (eX ca h) f L Q) H := by rw [hH]; exact hP
  have hS : va_S (sgA 52 h s.heap.size) s.heap H locs := by rw [hH, hlo]; exact hS
  suffices hgo : W p l e ({ frames := 9, cells := 0, slots := 0, locals := 199 }) s m ([.ref (h 4), .int 5] : List Value).toArray below meth cd H locs 0 0 Qz (F0 m 0 ls []) by rw [hH, hlo] at hgo; exact hgo
  clear hH hlo
  obtain ⟨sp, hsp⟩ : ∃ z : sg_F, z = sX5_operand_5 f L := ⟨_, rfl⟩
  have hs : sp = sX5_operand_5 f L := hsp
  have hF : sgK WkX5_operand_5 f f := sgK.rf
  refine lv_aload_n hx hb dX5_operand_0 rfl (lv_at hl 0 rfl) ?_
  obtain ⟨v_1, ev_1⟩ : ∃ z : Int32, z = f 4 6 := ⟨_, rfl⟩
  have q_2 : 0 ≤ v_1.toInt ∧ v_1.toInt ≤ 120 := by rw [ev_1]; exact hI 4 6
  have q_3 : (f 4 6).toInt = v_1.toInt := (congrArg Int32.toInt (show f 4 6 = v_1 from ev_1.symm))
  obtain ⟨v_4, ev_4⟩ : ∃ z : Int32, z = f 4 1 := ⟨_, rfl⟩
  have q_5 : 0 ≤ v_4.toInt ∧ v_4.toInt ≤ 120 := by rw [ev_4]; exact hI 4 1
  have q_6 : (f 4 1).toInt = v_4.toInt := (congrArg Int32.toInt (show f 4 1 = v_4 from ev_4.symm))
  refine sg_calli (va_runV (As := []) (rest := []) ⟨hx, hb, hml, hown, hts⟩ (kX5_next l D ca za h hh f L Q hI H.size) (sl_c5_next_0_0_0_0_5 hts ⟨Nat.le_of_ble_eq_true rfl, Nat.le_of_ble_eq_true rfl⟩) (sl_vX_4 hA hK hP hS hZ) rfl rfl hl.1 rfl (lv_room (Nat.le_of_ble_eq_true rfl)) dX5_operand_1 ⟨Nat.le_refl _, Nat.le_refl _⟩) hA hS (fun r_10 f_7 L_8 Q_9 H locs hq hP hS => ?_)
  obtain ⟨⟨ef9, eL9, eQ9⟩, hq, p_11, u_12⟩ := hq
  rw [ef9, eL9, eQ9] at hP; clear ef9 eL9 eQ9
  refine lv_istore_n (lv' := [(2, .int r_10), (0, .ref (h 4)), (1, .int 5)]) hx hb dX5_operand_4 rfl hl (by decide) rfl (fun ls hl => ?_)
  refine lv_iload_n hx hb dX5_operand_5 rfl (lv_at hl 0 rfl) ?_
  refine sg_calli (va_runS (As := [.int r_10]) (rest := []) ⟨hx, hb, hml, hown, hts⟩ (kX5_isDigit l D ca za h hh f L Q hI r_10 ⟨by omega, by omega⟩ H.size) (va_cwS 1 hts (gw_S (fun _ h => List.mem_cons_of_mem _ h) mw_505 mw_506 mw_73 mw_504) rfl rfl rfl hd_yX5_isDigit.2 ⟨Nat.le_of_ble_eq_true rfl, Nat.le_of_ble_eq_true rfl⟩) (sg_preS hA hK hP hS hZ) rfl rfl hl.1 rfl (lv_room (Nat.le_of_ble_eq_true rfl)) dX5_operand_6 ⟨Nat.le_refl _, Nat.le_refl _⟩) hA hS (fun r_16 f_13 L_14 Q_15 H locs hq hP hS => ?_)
  obtain ⟨⟨ef9, eL9, eQ9⟩, hq, u_17⟩ := hq
  replace hs := hs.trans (spl_e ev_1 (spl_e ev_4 (spl_e u_12 (spl_e u_17 rfl))))
  rw [ef9, eL9, eQ9] at hP; clear ef9 eL9 eQ9
  rcases hq with ⟨rfl, hq⟩ | ⟨rfl, hq⟩
  · skip
    have hc_18 := hq
    refine lv_if_eq (tgt := 19) hx hb dX5_operand_9 (by decide) (fun c => absurd c (by decide)) (fun c => ?_)
    refine lv_aload_n hx hb dX5_operand_12 rfl (lv_at hl 1 rfl) ?_
    refine sg_callv (va_runV (As := []) (rest := []) ⟨hx, hb, hml, hown, hts⟩ (kX5_number l D ca za h hh f L Q hI H.size) (sl_c5_number_1_0_0_21_5 hts ⟨Nat.le_of_ble_eq_true rfl, Nat.le_of_ble_eq_true rfl⟩) (sl_vX_4 hA hK hP hS hZ) rfl rfl hl.1 rfl (lv_room (Nat.le_of_ble_eq_true rfl)) dX5_operand_13 ⟨Nat.le_refl _, Nat.le_refl _⟩) hA hS (fun f_19 L_20 Q_21 H locs hq hP hS => ?_)
    obtain ⟨⟨hI, hk_f_19, eL9, eQ9⟩, u_22⟩ := hq
    rw [eL9, eQ9] at hP; clear eL9 eQ9
    have hF : sgK WkX5_operand_5 f f_19 := sgK.tr hF hk_f_19 (by decide +kernel)
    refine lv_goto (tgt := 93) hx hb dX5_operand_16 (by decide) ?_
    exact hret _ _ _ _ f_19 L Q dX5_operand_93 hP hS ⟨⟨hI, hF, rfl, rfl⟩, (Eq.trans (Eq.symm (hs.trans ((if_pos rfl).trans (spl_e u_22 rfl)))) hsp)⟩
  · skip
    have hc_18 := hq
    refine lv_if_eq (tgt := 19) hx hb dX5_operand_9 (by decide) (fun c => ?_) (fun c => absurd c (by decide))
    refine lv_iload_n hx hb dX5_operand_19 rfl (lv_at hl 0 rfl) ?_
    refine sg_calli (va_runS (As := [.int r_10]) (rest := []) ⟨hx, hb, hml, hown, hts⟩ (kX5_isName l D ca za h hh f L Q hI r_10 ⟨by omega, by omega⟩ H.size) (va_cwS 1 hts (gw_S (fun _ h => List.mem_cons_of_mem _ h) mw_525 mw_526 mw_73 mw_524) rfl rfl rfl hd_yX5_isName.2 ⟨Nat.le_of_ble_eq_true rfl, Nat.le_of_ble_eq_true rfl⟩) (sg_preS hA hK hP hS hZ) rfl rfl hl.1 rfl (lv_room (Nat.le_of_ble_eq_true rfl)) dX5_operand_20 ⟨Nat.le_refl _, Nat.le_refl _⟩) hA hS (fun r_26 f_23 L_24 Q_25 H locs hq hP hS => ?_)
    obtain ⟨⟨ef9, eL9, eQ9⟩, hq, u_27⟩ := hq
    replace hs := hs.trans ((if_neg (by decide)).trans (spl_e u_27 rfl))
    rw [ef9, eL9, eQ9] at hP; clear ef9 eL9 eQ9
    rcases hq with ⟨rfl, hq⟩ | ⟨rfl, hq⟩
    · skip
      have hc_28 := hq
      refine lv_if_eq (tgt := 44) hx hb dX5_operand_23 (by decide) (fun c => absurd c (by decide)) (fun c => ?_)
      refine lv_aload_n hx hb dX5_operand_26 rfl (lv_at hl 1 rfl) ?_
      refine lv_dup hx hb dX5_operand_27 rfl ?_
      refine sl_gX_4_6_5 (v := v_1) hx hb hts hown hK hP (show f 4 6 = v_1 from ev_1.symm) dX5_operand_28 ?_
      refine lv_iconst (v := 1) hx hb dX5_operand_31 ic_1 ?_
      refine lv_iadd hx hb dX5_operand_32 ?_
      refine lv_topi (fun v_29 ev_29 => ?_)
      have q_30 : v_29.toInt = v_1.toInt + 1 := by rw [ev_29]; first | exact cm_add ti_1 (by omega) (by omega) | (have k1 : (1 : Int32).toInt = 1 := ti_1; exact (bn_addI (by omega) (by omega)).trans (by omega))
      refine sl_pX_4_6_5 (x := v_29) hx hb hts hown hh hA hK hP hS dX5_operand_33 (fun f_31 H locs ef_31 hP hS => ?_)
      have hI : sgI loX hiX f_31 := by rw [ef_31]; exact sgI.put hI 4 6 (show 0 ≤ (v_29 : Int32).toInt ∧ (v_29 : Int32).toInt ≤ 120 from ⟨by omega, by omega⟩)
      have hF : sgK WkX5_operand_5 f f_31 := sgK.put hF ef_31 (by rfl)
      refine lv_aload_n hx hb dX5_operand_36 rfl (lv_at hl 1 rfl) ?_
      refine lv_iload_n hx hb dX5_operand_37 rfl (lv_at hl 0 rfl) ?_
      refine sg_callv (va_runV (As := [.int r_10]) (rest := []) ⟨hx, hb, hml, hown, hts⟩ (kX5_write l D ca za h hh f_31 L Q hI r_10 H.size) (sl_c5_write_0_0_0_0_5 hts ⟨Nat.le_of_ble_eq_true rfl, Nat.le_of_ble_eq_true rfl⟩) (sl_vX_4 hA hK hP hS hZ) rfl rfl hl.1 rfl (lv_room (Nat.le_of_ble_eq_true rfl)) dX5_operand_38 ⟨Nat.le_refl _, Nat.le_refl _⟩) hA hS (fun f_32 L_33 Q_34 H locs hq hP hS => ?_)
      obtain ⟨⟨hI, hk_f_32, eL9, eQ9⟩, u_35⟩ := hq
      rw [eL9, eQ9] at hP; clear eL9 eQ9
      have hF : sgK WkX5_operand_5 f f_32 := sgK.tr hF hk_f_32 (by decide +kernel)
      refine lv_goto (tgt := 93) hx hb dX5_operand_41 (by decide) ?_
      exact hret _ _ _ _ f_32 L Q dX5_operand_93 hP hS ⟨⟨hI, hF, rfl, rfl⟩, (Eq.trans (Eq.symm (hs.trans ((if_pos rfl).trans (spl_e ev_29 (spl_e ef_31 (spl_e u_35 rfl)))))) hsp)⟩
    · skip
      have hc_28 := hq
      refine lv_if_eq (tgt := 44) hx hb dX5_operand_23 (by decide) (fun c => ?_) (fun c => absurd c (by decide))
      refine lv_iload_n hx hb dX5_operand_44 rfl (lv_at hl 0 rfl) ?_
      refine lv_bipush (v := 40) hx hb dX5_operand_45 bp_40 ?_
      refine lv_icmp_eq (tgt := 62) hx hb dX5_operand_47 (by decide) (fun c => ?_) (fun c => ?_)
      · skip
        have c_36 : r_10.toInt = 40 := (by first | exact (cm_eq1 ti_40 c) | (have z := Int32.toInt_inj.mpr c; have k1 : (40 : Int32).toInt = 40 := ti_40; omega))
        refine lv_iload_n hx hb dX5_operand_62 rfl (lv_at hl 2 rfl) ?_
        refine lv_bipush (v := 6) hx hb dX5_operand_63 bp_6 ?_
        refine lv_icmp_lt (tgt := 75) hx hb dX5_operand_65 (by decide) (fun c => ?_) (fun c => absurd c (by decide))
        refine lv_aload_n hx hb dX5_operand_75 rfl (lv_at hl 1 rfl) ?_
        refine lv_dup hx hb dX5_operand_76 rfl ?_
        refine sl_gX_4_6_5 (v := v_1) hx hb hts hown hK hP (show f 4 6 = v_1 from ev_1.symm) dX5_operand_77 ?_
        refine lv_iconst (v := 1) hx hb dX5_operand_80 ic_1 ?_
        refine lv_iadd hx hb dX5_operand_81 ?_
        refine lv_topi (fun v_38 ev_38 => ?_)
        have q_39 : v_38.toInt = v_1.toInt + 1 := by rw [ev_38]; first | exact cm_add ti_1 (by omega) (by omega) | (have k1 : (1 : Int32).toInt = 1 := ti_1; exact (bn_addI (by omega) (by omega)).trans (by omega))
        refine sl_pX_4_6_5 (x := v_38) hx hb hts hown hh hA hK hP hS dX5_operand_82 (fun f_40 H locs ef_40 hP hS => ?_)
        have hI : sgI loX hiX f_40 := by rw [ef_40]; exact sgI.put hI 4 6 (show 0 ≤ (v_38 : Int32).toInt ∧ (v_38 : Int32).toInt ≤ 120 from ⟨by omega, by omega⟩)
        have hF : sgK WkX5_operand_5 f f_40 := sgK.put hF ef_40 (by rfl)
        refine lv_aload_n hx hb dX5_operand_85 rfl (lv_at hl 1 rfl) ?_
        refine lv_iload_n hx hb dX5_operand_86 rfl (lv_at hl 0 rfl) ?_
        refine lv_iload_n hx hb dX5_operand_87 rfl (lv_at hl 2 rfl) ?_
        refine lv_iconst (v := 1) hx hb dX5_operand_88 ic_1 ?_
        refine lv_iadd hx hb dX5_operand_89 ?_
        refine W.eq (g2 := F0 m 90 ls [.int 6, .int r_10, .ref (h 4)]) (by rw [show (5 + 1 : Int32) = 6 from by decide]) ?_
        refine sg_callv (va_runV (As := [.int r_10, .int 6]) (rest := []) ⟨hx, hb, hml, hown, hts⟩ (kX5_opened_6 l D ca za h hh f_40 L Q hI r_10 ⟨by omega, by omega⟩ H.size) (sl_c5_opened_8_0_0_177_5 hts ⟨Nat.le_of_ble_eq_true rfl, Nat.le_of_ble_eq_true rfl⟩) (sl_vX_4 hA hK hP hS hZ) rfl rfl hl.1 rfl (lv_room (Nat.le_of_ble_eq_true rfl)) dX5_operand_90 ⟨Nat.le_refl _, Nat.le_refl _⟩) hA hS (fun f_41 L_42 Q_43 H locs hq hP hS => ?_)
        obtain ⟨⟨hI, hk_f_41, eL9, eQ9⟩, u_44⟩ := hq
        rw [eL9, eQ9] at hP; clear eL9 eQ9
        have hF : sgK WkX5_operand_5 f f_41 := sgK.tr hF hk_f_41 (by decide +kernel)
        exact hret _ _ _ _ f_41 L Q dX5_operand_93 hP hS ⟨⟨hI, hF, rfl, rfl⟩, (Eq.trans (Eq.symm (hs.trans ((if_neg (by decide)).trans ((if_pos c_36).trans (spl_e ev_38 (spl_e ef_40 (spl_e u_44 rfl))))))) hsp)⟩
      · skip
        have c_37 : r_10.toInt ≠ 40 := (by first | exact (cm_ne1 ti_40 c) | (have z := bn_ne c; have k1 : (40 : Int32).toInt = 40 := ti_40; omega))
        replace hs := hs.trans ((if_neg (by decide)).trans ((if_neg c_37).trans rfl))
        refine lv_iload_n hx hb dX5_operand_50 rfl (lv_at hl 0 rfl) ?_
        refine lv_bipush (v := 33) hx hb dX5_operand_51 bp_33 ?_
        refine lv_icmp_eq (tgt := 62) hx hb dX5_operand_53 (by decide) (fun c => ?_) (fun c => ?_)
        · skip
          have c_45 : r_10.toInt = 33 := (by first | exact (cm_eq1 ti_33 c) | (have z := Int32.toInt_inj.mpr c; have k1 : (33 : Int32).toInt = 33 := ti_33; omega))
          refine lv_iload_n hx hb dX5_operand_62 rfl (lv_at hl 2 rfl) ?_
          refine lv_bipush (v := 6) hx hb dX5_operand_63 bp_6 ?_
          refine lv_icmp_lt (tgt := 75) hx hb dX5_operand_65 (by decide) (fun c => ?_) (fun c => absurd c (by decide))
          refine lv_aload_n hx hb dX5_operand_75 rfl (lv_at hl 1 rfl) ?_
          refine lv_dup hx hb dX5_operand_76 rfl ?_
          refine sl_gX_4_6_5 (v := v_1) hx hb hts hown hK hP (show f 4 6 = v_1 from ev_1.symm) dX5_operand_77 ?_
          refine lv_iconst (v := 1) hx hb dX5_operand_80 ic_1 ?_
          refine lv_iadd hx hb dX5_operand_81 ?_
          refine lv_topi (fun v_47 ev_47 => ?_)
          have q_48 : v_47.toInt = v_1.toInt + 1 := by rw [ev_47]; first | exact cm_add ti_1 (by omega) (by omega) | (have k1 : (1 : Int32).toInt = 1 := ti_1; exact (bn_addI (by omega) (by omega)).trans (by omega))
          refine sl_pX_4_6_5 (x := v_47) hx hb hts hown hh hA hK hP hS dX5_operand_82 (fun f_49 H locs ef_49 hP hS => ?_)
          have hI : sgI loX hiX f_49 := by rw [ef_49]; exact sgI.put hI 4 6 (show 0 ≤ (v_47 : Int32).toInt ∧ (v_47 : Int32).toInt ≤ 120 from ⟨by omega, by omega⟩)
          have hF : sgK WkX5_operand_5 f f_49 := sgK.put hF ef_49 (by rfl)
          refine lv_aload_n hx hb dX5_operand_85 rfl (lv_at hl 1 rfl) ?_
          refine lv_iload_n hx hb dX5_operand_86 rfl (lv_at hl 0 rfl) ?_
          refine lv_iload_n hx hb dX5_operand_87 rfl (lv_at hl 2 rfl) ?_
          refine lv_iconst (v := 1) hx hb dX5_operand_88 ic_1 ?_
          refine lv_iadd hx hb dX5_operand_89 ?_
          refine W.eq (g2 := F0 m 90 ls [.int 6, .int r_10, .ref (h 4)]) (by rw [show (5 + 1 : Int32) = 6 from by decide]) ?_
          refine sg_callv (va_runV (As := [.int r_10, .int 6]) (rest := []) ⟨hx, hb, hml, hown, hts⟩ (kX5_opened_6 l D ca za h hh f_49 L Q hI r_10 ⟨by omega, by omega⟩ H.size) (sl_c5_opened_8_0_0_177_5 hts ⟨Nat.le_of_ble_eq_true rfl, Nat.le_of_ble_eq_true rfl⟩) (sl_vX_4 hA hK hP hS hZ) rfl rfl hl.1 rfl (lv_room (Nat.le_of_ble_eq_true rfl)) dX5_operand_90 ⟨Nat.le_refl _, Nat.le_refl _⟩) hA hS (fun f_50 L_51 Q_52 H locs hq hP hS => ?_)
          obtain ⟨⟨hI, hk_f_50, eL9, eQ9⟩, u_53⟩ := hq
          rw [eL9, eQ9] at hP; clear eL9 eQ9
          have hF : sgK WkX5_operand_5 f f_50 := sgK.tr hF hk_f_50 (by decide +kernel)
          exact hret _ _ _ _ f_50 L Q dX5_operand_93 hP hS ⟨⟨hI, hF, rfl, rfl⟩, (Eq.trans (Eq.symm (hs.trans ((if_pos c_45).trans (spl_e ev_47 (spl_e ef_49 (spl_e u_53 rfl)))))) hsp)⟩
        · skip
          have c_46 : r_10.toInt ≠ 33 := (by first | exact (cm_ne1 ti_33 c) | (have z := bn_ne c; have k1 : (33 : Int32).toInt = 33 := ti_33; omega))
          replace hs := hs.trans ((if_neg c_46).trans rfl)
          refine lv_iload_n hx hb dX5_operand_56 rfl (lv_at hl 0 rfl) ?_
          refine lv_bipush (v := 45) hx hb dX5_operand_57 bp_45 ?_
          refine lv_icmp_ne (tgt := 68) hx hb dX5_operand_59 (by decide) (fun c => ?_) (fun c => ?_)
          · skip
            have c_54 : r_10.toInt ≠ 45 := (by first | exact (cm_ne1 ti_45 c) | (have z := bn_ne c; have k1 : (45 : Int32).toInt = 45 := ti_45; omega))
            refine lv_aload_n hx hb dX5_operand_68 rfl (lv_at hl 1 rfl) ?_
            refine sg_callv (va_runV (As := []) (rest := []) ⟨hx, hb, hml, hown, hts⟩ (kX5_fail l D ca za h hh f L Q hI H.size) (sl_c5_fail_0_0_0_0_5 hts ⟨Nat.le_of_ble_eq_true rfl, Nat.le_of_ble_eq_true rfl⟩) (sl_vX_4 hA hK hP hS hZ) rfl rfl hl.1 rfl (lv_room (Nat.le_of_ble_eq_true rfl)) dX5_operand_69 ⟨Nat.le_refl _, Nat.le_refl _⟩) hA hS (fun f_56 L_57 Q_58 H locs hq hP hS => ?_)
            obtain ⟨⟨hI, hk_f_56, eL9, eQ9⟩, u_59⟩ := hq
            rw [eL9, eQ9] at hP; clear eL9 eQ9
            have hF : sgK WkX5_operand_5 f f_56 := sgK.tr hF hk_f_56 (by decide +kernel)
            refine lv_goto (tgt := 93) hx hb dX5_operand_72 (by decide) ?_
            exact hret _ _ _ _ f_56 L Q dX5_operand_93 hP hS ⟨⟨hI, hF, rfl, rfl⟩, (Eq.trans (Eq.symm (hs.trans ((if_neg c_54).trans (spl_e u_59 rfl)))) hsp)⟩
          · skip
            have c_55 : r_10.toInt = 45 := (by first | exact (cm_eq1 ti_45 c) | (have z := Int32.toInt_inj.mpr c; have k1 : (45 : Int32).toInt = 45 := ti_45; omega))
            refine lv_iload_n hx hb dX5_operand_62 rfl (lv_at hl 2 rfl) ?_
            refine lv_bipush (v := 6) hx hb dX5_operand_63 bp_6 ?_
            refine lv_icmp_lt (tgt := 75) hx hb dX5_operand_65 (by decide) (fun c => ?_) (fun c => absurd c (by decide))
            refine lv_aload_n hx hb dX5_operand_75 rfl (lv_at hl 1 rfl) ?_
            refine lv_dup hx hb dX5_operand_76 rfl ?_
            refine sl_gX_4_6_5 (v := v_1) hx hb hts hown hK hP (show f 4 6 = v_1 from ev_1.symm) dX5_operand_77 ?_
            refine lv_iconst (v := 1) hx hb dX5_operand_80 ic_1 ?_
            refine lv_iadd hx hb dX5_operand_81 ?_
            refine lv_topi (fun v_60 ev_60 => ?_)
            have q_61 : v_60.toInt = v_1.toInt + 1 := by rw [ev_60]; first | exact cm_add ti_1 (by omega) (by omega) | (have k1 : (1 : Int32).toInt = 1 := ti_1; exact (bn_addI (by omega) (by omega)).trans (by omega))
            refine sl_pX_4_6_5 (x := v_60) hx hb hts hown hh hA hK hP hS dX5_operand_82 (fun f_62 H locs ef_62 hP hS => ?_)
            have hI : sgI loX hiX f_62 := by rw [ef_62]; exact sgI.put hI 4 6 (show 0 ≤ (v_60 : Int32).toInt ∧ (v_60 : Int32).toInt ≤ 120 from ⟨by omega, by omega⟩)
            have hF : sgK WkX5_operand_5 f f_62 := sgK.put hF ef_62 (by rfl)
            refine lv_aload_n hx hb dX5_operand_85 rfl (lv_at hl 1 rfl) ?_
            refine lv_iload_n hx hb dX5_operand_86 rfl (lv_at hl 0 rfl) ?_
            refine lv_iload_n hx hb dX5_operand_87 rfl (lv_at hl 2 rfl) ?_
            refine lv_iconst (v := 1) hx hb dX5_operand_88 ic_1 ?_
            refine lv_iadd hx hb dX5_operand_89 ?_
            refine W.eq (g2 := F0 m 90 ls [.int 6, .int r_10, .ref (h 4)]) (by rw [show (5 + 1 : Int32) = 6 from by decide]) ?_
            refine sg_callv (va_runV (As := [.int r_10, .int 6]) (rest := []) ⟨hx, hb, hml, hown, hts⟩ (kX5_opened_6 l D ca za h hh f_62 L Q hI r_10 ⟨by omega, by omega⟩ H.size) (sl_c5_opened_8_0_0_177_5 hts ⟨Nat.le_of_ble_eq_true rfl, Nat.le_of_ble_eq_true rfl⟩) (sl_vX_4 hA hK hP hS hZ) rfl rfl hl.1 rfl (lv_room (Nat.le_of_ble_eq_true rfl)) dX5_operand_90 ⟨Nat.le_refl _, Nat.le_refl _⟩) hA hS (fun f_63 L_64 Q_65 H locs hq hP hS => ?_)
            obtain ⟨⟨hI, hk_f_63, eL9, eQ9⟩, u_66⟩ := hq
            rw [eL9, eQ9] at hP; clear eL9 eQ9
            have hF : sgK WkX5_operand_5 f f_63 := sgK.tr hF hk_f_63 (by decide +kernel)
            exact hret _ _ _ _ f_63 L Q dX5_operand_93 hP hS ⟨⟨hI, hF, rfl, rfl⟩, (Eq.trans (Eq.symm (hs.trans ((if_pos c_55).trans (spl_e ev_60 (spl_e ef_62 (spl_e u_66 rfl)))))) hsp)⟩

abbrev WkX5_product_5 : List (Nat × Nat × Option Nat) := [(4, 4, some 6), (4, 4, some 7), (4, 4, some 8), (6, 6, none)]
set_option maxHeartbeats 4000000 in
set_option maxRecDepth 100000 in
theorem kX5_product_5 (l : Launch) (D : va_G) (ca : Nat → ClassId) (za h : Nat → Nat) (hh : sgH 52 h) (f : sg_F) (L : sg_L) (Q : sg_Q) (hI : sgI loX hiX f) (sz : Nat) : Met l yX5_product gwX5_product { frames := 10, cells := 0, slots := 0, locals := 221 } (sgP D vwCl (tyX ca) 52 h (eX ca h) zcX za f L Q sz [.ref (h 4), .int 5]) (sgQv D vwCl 52 h (eX ca h) sz (fun f1 L1 Q1 => ((sgI loX hiX f1 ∧ sgK WkX5_product_5 f f1 ∧ L1 = L ∧ Q1 = Q) ∧ (f1) = sX5_product_5 f L))) 0 0 (sgA 52 h sz) := by
  refine sg_ofWv (cc := cX5_product) (maxL := 4) RX5 (by decide) rfl rfl (Nat.le_of_ble_eq_true rfl) ?_
  intro p e s m below meth cd Qz ls hx hb hml hown hts hK hZ hP hS hl hret
  have hA := sgY.self (n := 52) (h := h) (sz := s.heap.size)
  have hl : lv_has ls 4 [(0, .ref (h 4)), (1, .int 5)] := hl
  obtain ⟨H, hH⟩ : ∃ z : Heap, z = s.heap := ⟨_, rfl⟩
  obtain ⟨locs, hlo⟩ : ∃ z : List Loc, z = [] := ⟨_, rfl⟩
  have hP : va_P D vwCl (sgw 52 h (eX ca h) f L Q) H := by rw [hH]; exact hP
  have hS : va_S (sgA 52 h s.heap.size) s.heap H locs := by rw [hH, hlo]; exact hS
  suffices hgo : W p l e ({ frames := 10, cells := 0, slots := 0, locals := 221 }) s m ([.ref (h 4), .int 5] : List Value).toArray below meth cd H locs 0 0 Qz (F0 m 0 ls []) by rw [hH, hlo] at hgo; exact hgo
  clear hH hlo
  obtain ⟨sp, hsp⟩ : ∃ z : sg_F, z = sX5_product_5 f L := ⟨_, rfl⟩
  have hs : sp = sX5_product_5 f L := hsp
  obtain ⟨v_1, ev_1⟩ : ∃ z : Int32, z = f 4 6 := ⟨_, rfl⟩
  have q_2 : 0 ≤ v_1.toInt ∧ v_1.toInt ≤ 120 := by rw [ev_1]; exact hI 4 6
  obtain ⟨v_3, ev_3⟩ : ∃ z : Int32, z = f 4 1 := ⟨_, rfl⟩
  have q_4 : 0 ≤ v_3.toInt ∧ v_3.toInt ≤ 120 := by rw [ev_3]; exact hI 4 1
  have o_5 : (f 4 6).toInt = v_1.toInt := (congrArg Int32.toInt (show f 4 6 = v_1 from ev_1.symm))
  have o_6 : (f 4 1).toInt = v_3.toInt := (congrArg Int32.toInt (show f 4 1 = v_3 from ev_3.symm))
  have hF : sgK WkX5_product_5 f f := sgK.rf
  have loop_12 : ∀ (n_12 : Nat) (y2_12 : Int32) (y3_12 : Int32) (fp_12 : sg_F) (H : Heap) (locs : List Loc) (ls : Array Slot), sp = sX5_product_5_l12 n_12 y2_12 y3_12 fp_12 L → 120 - y3_12.toInt < (n_12 : Int) → (-1) ≤ y2_12.toInt ∧ y2_12.toInt ≤ 255 → 0 ≤ y3_12.toInt ∧ y3_12.toInt ≤ 120 → y2_12.toInt < 0 ∨ (fp_12 4 6).toInt < (fp_12 4 1).toInt → sgI loX hiX fp_12 → sgK WkX5_product_5 f fp_12 → va_P D vwCl (sgw 52 h (eX ca h) fp_12 L Q) H → va_S (sgA 52 h s.heap.size) s.heap H locs → lv_has ls 4 [(0, .ref (h 4)), (1, .int 5), (2, .int y2_12), (3, .int y3_12)] → W p l e ({ frames := 10, cells := 0, slots := 0, locals := 221 }) s m ([.ref (h 4), .int 5] : List Value).toArray below meth cd H locs 0 0 Qz (F0 m 12 ls []) := by
    intro n_12
    induction n_12 with
    | zero => intro y2_12 y3_12 fp_12 H locs ls hs hm_12 hy0_12 hy1_12 hg0_12 hI hF hP hS hl; exact absurd hm_12 (by omega)
    | succ n_12 ih_12 =>
      intro y2_12 y3_12 fp_12 H locs ls hs hm_12 hy0_12 hy1_12 hg0_12 hI hF hP hS hl
      have hs : sp = sX5_product_5_h12 (sX5_product_5_l12 n_12) y2_12 y3_12 fp_12 L := hs
      obtain ⟨v_7, ev_7⟩ : ∃ z : Int32, z = fp_12 4 6 := ⟨_, rfl⟩
      have q_8 : 0 ≤ v_7.toInt ∧ v_7.toInt ≤ 120 := by rw [ev_7]; exact hI 4 6
      have q_9 : (fp_12 4 6).toInt = v_7.toInt := by rw [ev_7]
      obtain ⟨v_10, ev_10⟩ : ∃ z : Int32, z = fp_12 4 1 := ⟨_, rfl⟩
      replace hs := hs.trans (spl_e ev_7 (spl_e ev_10 rfl))
      have q_11 : 0 ≤ v_10.toInt ∧ v_10.toInt ≤ 120 := by rw [ev_10]; exact hI 4 1
      have q_12 : (fp_12 4 1).toInt = v_10.toInt := by rw [ev_10]
      refine lv_iload_n hx hb dX5_product_12 rfl (lv_at hl 3 rfl) ?_
      refine lv_bipush (v := 120) hx hb dX5_product_13 bp_120 ?_
      refine lv_icmp_ge (tgt := 67) hx hb dX5_product_15 (by decide) (fun c => ?_) (fun c => ?_)
      · skip
        have c_13 : 120 ≤ y3_12.toInt := (by first | exact (cm_le0 ti_120 c) | (have z := bn_le c; have k1 : (120 : Int32).toInt = 120 := ti_120; omega))
        exact hret _ _ _ _ fp_12 L Q dX5_product_67 hP hS ⟨⟨hI, hF, rfl, rfl⟩, (Eq.trans (Eq.symm (hs.trans ((if_neg (Int.not_lt.mpr c_13)).trans rfl))) hsp)⟩
      · skip
        have c_14 : y3_12.toInt < 120 := (by first | exact (cm_nle0 ti_120 c) | (have z := bn_nle c; have k1 : (120 : Int32).toInt = 120 := ti_120; omega))
        replace hs := hs.trans ((if_pos c_14).trans rfl)
        refine lv_iload_n hx hb dX5_product_18 rfl (lv_at hl 2 rfl) ?_
        refine lv_bipush (v := 42) hx hb dX5_product_19 bp_42 ?_
        refine lv_icmp_eq (tgt := 36) hx hb dX5_product_21 (by decide) (fun c => ?_) (fun c => ?_)
        · skip
          have c_15 : y2_12.toInt = 42 := (by first | exact (cm_eq1 ti_42 c) | (have z := Int32.toInt_inj.mpr c; have k1 : (42 : Int32).toInt = 42 := ti_42; omega))
          refine lv_aload_n hx hb dX5_product_36 rfl (lv_at hl 0 rfl) ?_
          refine lv_dup hx hb dX5_product_37 rfl ?_
          refine sl_gX_4_6_5 (v := v_7) hx hb hts hown hK hP (show fp_12 4 6 = v_7 from ev_7.symm) dX5_product_38 ?_
          refine lv_iconst (v := 1) hx hb dX5_product_41 ic_1 ?_
          refine lv_iadd hx hb dX5_product_42 ?_
          refine lv_topi (fun v_17 ev_17 => ?_)
          have q_18 : v_17.toInt = v_7.toInt + 1 := by rw [ev_17]; first | exact cm_add ti_1 (by omega) (by omega) | (have k1 : (1 : Int32).toInt = 1 := ti_1; exact (bn_addI (by omega) (by omega)).trans (by omega))
          refine sl_pX_4_6_5 (x := v_17) hx hb hts hown hh hA hK hP hS dX5_product_43 (fun f_19 H locs ef_19 hP hS => ?_)
          have hI : sgI loX hiX f_19 := by rw [ef_19]; exact sgI.put hI 4 6 (show 0 ≤ (v_17 : Int32).toInt ∧ (v_17 : Int32).toInt ≤ 120 from ⟨by omega, by omega⟩)
          have hF : sgK WkX5_product_5 f f_19 := sgK.put hF ef_19 (by rfl)
          refine lv_aload_n hx hb dX5_product_46 rfl (lv_at hl 0 rfl) ?_
          refine lv_iload_n hx hb dX5_product_47 rfl (lv_at hl 1 rfl) ?_
          refine sg_callv (va_runV (As := [.int 5]) (rest := []) ⟨hx, hb, hml, hown, hts⟩ (kX5_operand_5 l D ca za h hh f_19 L Q hI H.size) (sl_c5_operand_9_0_0_199_5 hts ⟨Nat.le_of_ble_eq_true rfl, Nat.le_of_ble_eq_true rfl⟩) (sl_vX_4 hA hK hP hS hZ) rfl rfl hl.1 rfl (lv_room (Nat.le_of_ble_eq_true rfl)) dX5_product_48 ⟨Nat.le_refl _, Nat.le_refl _⟩) hA hS (fun f_20 L_21 Q_22 H locs hq hP hS => ?_)
          obtain ⟨⟨hI, hk_f_20, eL9, eQ9⟩, u_23⟩ := hq
          rw [eL9, eQ9] at hP; clear eL9 eQ9
          have hF : sgK WkX5_product_5 f f_20 := sgK.tr hF hk_f_20 (by decide +kernel)
          refine lv_aload_n hx hb dX5_product_51 rfl (lv_at hl 0 rfl) ?_
          refine lv_iload_n hx hb dX5_product_52 rfl (lv_at hl 2 rfl) ?_
          refine sg_callv (va_runV (As := [.int y2_12]) (rest := []) ⟨hx, hb, hml, hown, hts⟩ (kX5_write l D ca za h hh f_20 L Q hI y2_12 H.size) (sl_c5_write_0_0_0_0_5 hts ⟨Nat.le_of_ble_eq_true rfl, Nat.le_of_ble_eq_true rfl⟩) (sl_vX_4 hA hK hP hS hZ) rfl rfl hl.1 rfl (lv_room (Nat.le_of_ble_eq_true rfl)) dX5_product_53 ⟨Nat.le_refl _, Nat.le_refl _⟩) hA hS (fun f_24 L_25 Q_26 H locs hq hP hS => ?_)
          obtain ⟨⟨hI, hk_f_24, eL9, eQ9⟩, u_27⟩ := hq
          rw [eL9, eQ9] at hP; clear eL9 eQ9
          have hF : sgK WkX5_product_5 f f_24 := sgK.tr hF hk_f_24 (by decide +kernel)
          refine lv_aload_n hx hb dX5_product_56 rfl (lv_at hl 0 rfl) ?_
          obtain ⟨v_28, ev_28⟩ : ∃ z : Int32, z = f_24 4 6 := ⟨_, rfl⟩
          have q_29 : 0 ≤ v_28.toInt ∧ v_28.toInt ≤ 120 := by rw [ev_28]; exact hI 4 6
          have q_30 : (f_24 4 6).toInt = v_28.toInt := (congrArg Int32.toInt (show f_24 4 6 = v_28 from ev_28.symm))
          have q_31 : (f_24 4 1).toInt = v_10.toInt := (congrArg Int32.toInt (show f_24 4 1 = v_10 from ((hk_f_24 4 1 (by decide)).trans ((hk_f_20 4 1 (by decide)).trans (by rw [ef_19, sg_up_s, sgu_n (by decide)]; exact ev_10.symm)))))
          refine sg_calli (va_runV (As := []) (rest := []) ⟨hx, hb, hml, hown, hts⟩ (kX5_next l D ca za h hh f_24 L Q hI H.size) (sl_c5_next_0_0_0_0_5 hts ⟨Nat.le_of_ble_eq_true rfl, Nat.le_of_ble_eq_true rfl⟩) (sl_vX_4 hA hK hP hS hZ) rfl rfl hl.1 rfl (lv_room (Nat.le_of_ble_eq_true rfl)) dX5_product_57 ⟨Nat.le_refl _, Nat.le_refl _⟩) hA hS (fun r_35 f_32 L_33 Q_34 H locs hq hP hS => ?_)
          obtain ⟨⟨ef9, eL9, eQ9⟩, hq, p_36, u_37⟩ := hq
          rw [ef9, eL9, eQ9] at hP; clear ef9 eL9 eQ9
          refine lv_istore_n (lv' := [(2, .int r_35), (0, .ref (h 4)), (1, .int 5), (3, .int y3_12)]) hx hb dX5_product_60 rfl hl (by decide) rfl (fun ls hl => ?_)
          obtain ⟨v_38, ev_38⟩ : ∃ z : Int32, z = y3_12 + 1 := ⟨_, rfl⟩
          have q_39 : v_38.toInt = y3_12.toInt + 1 := by rw [ev_38]; exact (bn_addc y3_12 1 (by decide) (by omega) (by omega))
          refine lv_iinc (v := v_38) (lv' := [(3, .int v_38), (2, .int r_35), (0, .ref (h 4)), (1, .int 5)]) hx hb dX5_product_61 hl (k := 3) rfl (by rw [ev_38]; rfl) (by decide) rfl (fun ls hl => ?_)
          refine lv_goto (tgt := 12) hx hb dX5_product_64 (by decide) ?_
          exact ih_12 r_35 v_38 f_24 _ _ _ (hs.trans ((if_pos c_15).trans (spl_e ev_17 (spl_e ef_19 (spl_e u_23 (spl_e u_27 (spl_e ev_28 (spl_e u_37 (spl_e ev_38 rfl))))))))) (by omega) ⟨by omega, by omega⟩ ⟨by omega, by omega⟩ (by have zz4_6 : (f_24 4 6).toInt = v_28.toInt := (congrArg Int32.toInt (show f_24 4 6 = v_28 from ev_28.symm)); have zz4_1 : (f_24 4 1).toInt = v_10.toInt := (congrArg Int32.toInt (show f_24 4 1 = v_10 from ((hk_f_24 4 1 (by decide)).trans ((hk_f_20 4 1 (by decide)).trans (by rw [ef_19, sg_up_s, sgu_n (by decide)]; exact ev_10.symm))))); omega) hI hF hP hS (lv_sub hl [2, 3, 1, 0] rfl)
        · skip
          have c_16 : y2_12.toInt ≠ 42 := (by first | exact (cm_ne1 ti_42 c) | (have z := bn_ne c; have k1 : (42 : Int32).toInt = 42 := ti_42; omega))
          replace hs := hs.trans ((if_neg c_16).trans rfl)
          refine lv_iload_n hx hb dX5_product_24 rfl (lv_at hl 2 rfl) ?_
          refine lv_bipush (v := 47) hx hb dX5_product_25 bp_47 ?_
          refine lv_icmp_eq (tgt := 36) hx hb dX5_product_27 (by decide) (fun c => ?_) (fun c => ?_)
          · skip
            have c_40 : y2_12.toInt = 47 := (by first | exact (cm_eq1 ti_47 c) | (have z := Int32.toInt_inj.mpr c; have k1 : (47 : Int32).toInt = 47 := ti_47; omega))
            refine lv_aload_n hx hb dX5_product_36 rfl (lv_at hl 0 rfl) ?_
            refine lv_dup hx hb dX5_product_37 rfl ?_
            refine sl_gX_4_6_5 (v := v_7) hx hb hts hown hK hP (show fp_12 4 6 = v_7 from ev_7.symm) dX5_product_38 ?_
            refine lv_iconst (v := 1) hx hb dX5_product_41 ic_1 ?_
            refine lv_iadd hx hb dX5_product_42 ?_
            refine lv_topi (fun v_42 ev_42 => ?_)
            have q_43 : v_42.toInt = v_7.toInt + 1 := by rw [ev_42]; first | exact cm_add ti_1 (by omega) (by omega) | (have k1 : (1 : Int32).toInt = 1 := ti_1; exact (bn_addI (by omega) (by omega)).trans (by omega))
            refine sl_pX_4_6_5 (x := v_42) hx hb hts hown hh hA hK hP hS dX5_product_43 (fun f_44 H locs ef_44 hP hS => ?_)
            have hI : sgI loX hiX f_44 := by rw [ef_44]; exact sgI.put hI 4 6 (show 0 ≤ (v_42 : Int32).toInt ∧ (v_42 : Int32).toInt ≤ 120 from ⟨by omega, by omega⟩)
            have hF : sgK WkX5_product_5 f f_44 := sgK.put hF ef_44 (by rfl)
            refine lv_aload_n hx hb dX5_product_46 rfl (lv_at hl 0 rfl) ?_
            refine lv_iload_n hx hb dX5_product_47 rfl (lv_at hl 1 rfl) ?_
            refine sg_callv (va_runV (As := [.int 5]) (rest := []) ⟨hx, hb, hml, hown, hts⟩ (kX5_operand_5 l D ca za h hh f_44 L Q hI H.size) (sl_c5_operand_9_0_0_199_5 hts ⟨Nat.le_of_ble_eq_true rfl, Nat.le_of_ble_eq_true rfl⟩) (sl_vX_4 hA hK hP hS hZ) rfl rfl hl.1 rfl (lv_room (Nat.le_of_ble_eq_true rfl)) dX5_product_48 ⟨Nat.le_refl _, Nat.le_refl _⟩) hA hS (fun f_45 L_46 Q_47 H locs hq hP hS => ?_)
            obtain ⟨⟨hI, hk_f_45, eL9, eQ9⟩, u_48⟩ := hq
            rw [eL9, eQ9] at hP; clear eL9 eQ9
            have hF : sgK WkX5_product_5 f f_45 := sgK.tr hF hk_f_45 (by decide +kernel)
            refine lv_aload_n hx hb dX5_product_51 rfl (lv_at hl 0 rfl) ?_
            refine lv_iload_n hx hb dX5_product_52 rfl (lv_at hl 2 rfl) ?_
            refine sg_callv (va_runV (As := [.int y2_12]) (rest := []) ⟨hx, hb, hml, hown, hts⟩ (kX5_write l D ca za h hh f_45 L Q hI y2_12 H.size) (sl_c5_write_0_0_0_0_5 hts ⟨Nat.le_of_ble_eq_true rfl, Nat.le_of_ble_eq_true rfl⟩) (sl_vX_4 hA hK hP hS hZ) rfl rfl hl.1 rfl (lv_room (Nat.le_of_ble_eq_true rfl)) dX5_product_53 ⟨Nat.le_refl _, Nat.le_refl _⟩) hA hS (fun f_49 L_50 Q_51 H locs hq hP hS => ?_)
            obtain ⟨⟨hI, hk_f_49, eL9, eQ9⟩, u_52⟩ := hq
            rw [eL9, eQ9] at hP; clear eL9 eQ9
            have hF : sgK WkX5_product_5 f f_49 := sgK.tr hF hk_f_49 (by decide +kernel)
            refine lv_aload_n hx hb dX5_product_56 rfl (lv_at hl 0 rfl) ?_
            obtain ⟨v_53, ev_53⟩ : ∃ z : Int32, z = f_49 4 6 := ⟨_, rfl⟩
            have q_54 : 0 ≤ v_53.toInt ∧ v_53.toInt ≤ 120 := by rw [ev_53]; exact hI 4 6
            have q_55 : (f_49 4 6).toInt = v_53.toInt := (congrArg Int32.toInt (show f_49 4 6 = v_53 from ev_53.symm))
            have q_56 : (f_49 4 1).toInt = v_10.toInt := (congrArg Int32.toInt (show f_49 4 1 = v_10 from ((hk_f_49 4 1 (by decide)).trans ((hk_f_45 4 1 (by decide)).trans (by rw [ef_44, sg_up_s, sgu_n (by decide)]; exact ev_10.symm)))))
            refine sg_calli (va_runV (As := []) (rest := []) ⟨hx, hb, hml, hown, hts⟩ (kX5_next l D ca za h hh f_49 L Q hI H.size) (sl_c5_next_0_0_0_0_5 hts ⟨Nat.le_of_ble_eq_true rfl, Nat.le_of_ble_eq_true rfl⟩) (sl_vX_4 hA hK hP hS hZ) rfl rfl hl.1 rfl (lv_room (Nat.le_of_ble_eq_true rfl)) dX5_product_57 ⟨Nat.le_refl _, Nat.le_refl _⟩) hA hS (fun r_60 f_57 L_58 Q_59 H locs hq hP hS => ?_)
            obtain ⟨⟨ef9, eL9, eQ9⟩, hq, p_61, u_62⟩ := hq
            rw [ef9, eL9, eQ9] at hP; clear ef9 eL9 eQ9
            refine lv_istore_n (lv' := [(2, .int r_60), (0, .ref (h 4)), (1, .int 5), (3, .int y3_12)]) hx hb dX5_product_60 rfl hl (by decide) rfl (fun ls hl => ?_)
            obtain ⟨v_63, ev_63⟩ : ∃ z : Int32, z = y3_12 + 1 := ⟨_, rfl⟩
            have q_64 : v_63.toInt = y3_12.toInt + 1 := by rw [ev_63]; exact (bn_addc y3_12 1 (by decide) (by omega) (by omega))
            refine lv_iinc (v := v_63) (lv' := [(3, .int v_63), (2, .int r_60), (0, .ref (h 4)), (1, .int 5)]) hx hb dX5_product_61 hl (k := 3) rfl (by rw [ev_63]; rfl) (by decide) rfl (fun ls hl => ?_)
            refine lv_goto (tgt := 12) hx hb dX5_product_64 (by decide) ?_
            exact ih_12 r_60 v_63 f_49 _ _ _ (hs.trans ((if_pos c_40).trans (spl_e ev_42 (spl_e ef_44 (spl_e u_48 (spl_e u_52 (spl_e ev_53 (spl_e u_62 (spl_e ev_63 rfl))))))))) (by omega) ⟨by omega, by omega⟩ ⟨by omega, by omega⟩ (by have zz4_6 : (f_49 4 6).toInt = v_53.toInt := (congrArg Int32.toInt (show f_49 4 6 = v_53 from ev_53.symm)); have zz4_1 : (f_49 4 1).toInt = v_10.toInt := (congrArg Int32.toInt (show f_49 4 1 = v_10 from ((hk_f_49 4 1 (by decide)).trans ((hk_f_45 4 1 (by decide)).trans (by rw [ef_44, sg_up_s, sgu_n (by decide)]; exact ev_10.symm))))); omega) hI hF hP hS (lv_sub hl [2, 3, 1, 0] rfl)
          · skip
            have c_41 : y2_12.toInt ≠ 47 := (by first | exact (cm_ne1 ti_47 c) | (have z := bn_ne c; have k1 : (47 : Int32).toInt = 47 := ti_47; omega))
            replace hs := hs.trans ((if_neg c_41).trans rfl)
            refine lv_iload_n hx hb dX5_product_30 rfl (lv_at hl 2 rfl) ?_
            refine lv_bipush (v := 37) hx hb dX5_product_31 bp_37 ?_
            refine lv_icmp_ne (tgt := 67) hx hb dX5_product_33 (by decide) (fun c => ?_) (fun c => ?_)
            · skip
              have c_65 : y2_12.toInt ≠ 37 := (by first | exact (cm_ne1 ti_37 c) | (have z := bn_ne c; have k1 : (37 : Int32).toInt = 37 := ti_37; omega))
              exact hret _ _ _ _ fp_12 L Q dX5_product_67 hP hS ⟨⟨hI, hF, rfl, rfl⟩, (Eq.trans (Eq.symm (hs.trans ((if_neg c_65).trans rfl))) hsp)⟩
            · skip
              have c_66 : y2_12.toInt = 37 := (by first | exact (cm_eq1 ti_37 c) | (have z := Int32.toInt_inj.mpr c; have k1 : (37 : Int32).toInt = 37 := ti_37; omega))
              refine lv_aload_n hx hb dX5_product_36 rfl (lv_at hl 0 rfl) ?_
              refine lv_dup hx hb dX5_product_37 rfl ?_
              refine sl_gX_4_6_5 (v := v_7) hx hb hts hown hK hP (show fp_12 4 6 = v_7 from ev_7.symm) dX5_product_38 ?_
              refine lv_iconst (v := 1) hx hb dX5_product_41 ic_1 ?_
              refine lv_iadd hx hb dX5_product_42 ?_
              refine lv_topi (fun v_67 ev_67 => ?_)
              have q_68 : v_67.toInt = v_7.toInt + 1 := by rw [ev_67]; first | exact cm_add ti_1 (by omega) (by omega) | (have k1 : (1 : Int32).toInt = 1 := ti_1; exact (bn_addI (by omega) (by omega)).trans (by omega))
              refine sl_pX_4_6_5 (x := v_67) hx hb hts hown hh hA hK hP hS dX5_product_43 (fun f_69 H locs ef_69 hP hS => ?_)
              have hI : sgI loX hiX f_69 := by rw [ef_69]; exact sgI.put hI 4 6 (show 0 ≤ (v_67 : Int32).toInt ∧ (v_67 : Int32).toInt ≤ 120 from ⟨by omega, by omega⟩)
              have hF : sgK WkX5_product_5 f f_69 := sgK.put hF ef_69 (by rfl)
              refine lv_aload_n hx hb dX5_product_46 rfl (lv_at hl 0 rfl) ?_
              refine lv_iload_n hx hb dX5_product_47 rfl (lv_at hl 1 rfl) ?_
              refine sg_callv (va_runV (As := [.int 5]) (rest := []) ⟨hx, hb, hml, hown, hts⟩ (kX5_operand_5 l D ca za h hh f_69 L Q hI H.size) (sl_c5_operand_9_0_0_199_5 hts ⟨Nat.le_of_ble_eq_true rfl, Nat.le_of_ble_eq_true rfl⟩) (sl_vX_4 hA hK hP hS hZ) rfl rfl hl.1 rfl (lv_room (Nat.le_of_ble_eq_true rfl)) dX5_product_48 ⟨Nat.le_refl _, Nat.le_refl _⟩) hA hS (fun f_70 L_71 Q_72 H locs hq hP hS => ?_)
              obtain ⟨⟨hI, hk_f_70, eL9, eQ9⟩, u_73⟩ := hq
              rw [eL9, eQ9] at hP; clear eL9 eQ9
              have hF : sgK WkX5_product_5 f f_70 := sgK.tr hF hk_f_70 (by decide +kernel)
              refine lv_aload_n hx hb dX5_product_51 rfl (lv_at hl 0 rfl) ?_
              refine lv_iload_n hx hb dX5_product_52 rfl (lv_at hl 2 rfl) ?_
              refine sg_callv (va_runV (As := [.int y2_12]) (rest := []) ⟨hx, hb, hml, hown, hts⟩ (kX5_write l D ca za h hh f_70 L Q hI y2_12 H.size) (sl_c5_write_0_0_0_0_5 hts ⟨Nat.le_of_ble_eq_true rfl, Nat.le_of_ble_eq_true rfl⟩) (sl_vX_4 hA hK hP hS hZ) rfl rfl hl.1 rfl (lv_room (Nat.le_of_ble_eq_true rfl)) dX5_product_53 ⟨Nat.le_refl _, Nat.le_refl _⟩) hA hS (fun f_74 L_75 Q_76 H locs hq hP hS => ?_)
              obtain ⟨⟨hI, hk_f_74, eL9, eQ9⟩, u_77⟩ := hq
              rw [eL9, eQ9] at hP; clear eL9 eQ9
              have hF : sgK WkX5_product_5 f f_74 := sgK.tr hF hk_f_74 (by decide +kernel)
              refine lv_aload_n hx hb dX5_product_56 rfl (lv_at hl 0 rfl) ?_
              obtain ⟨v_78, ev_78⟩ : ∃ z : Int32, z = f_74 4 6 := ⟨_, rfl⟩
              have q_79 : 0 ≤ v_78.toInt ∧ v_78.toInt ≤ 120 := by rw [ev_78]; exact hI 4 6
              have q_80 : (f_74 4 6).toInt = v_78.toInt := (congrArg Int32.toInt (show f_74 4 6 = v_78 from ev_78.symm))
              have q_81 : (f_74 4 1).toInt = v_10.toInt := (congrArg Int32.toInt (show f_74 4 1 = v_10 from ((hk_f_74 4 1 (by decide)).trans ((hk_f_70 4 1 (by decide)).trans (by rw [ef_69, sg_up_s, sgu_n (by decide)]; exact ev_10.symm)))))
              refine sg_calli (va_runV (As := []) (rest := []) ⟨hx, hb, hml, hown, hts⟩ (kX5_next l D ca za h hh f_74 L Q hI H.size) (sl_c5_next_0_0_0_0_5 hts ⟨Nat.le_of_ble_eq_true rfl, Nat.le_of_ble_eq_true rfl⟩) (sl_vX_4 hA hK hP hS hZ) rfl rfl hl.1 rfl (lv_room (Nat.le_of_ble_eq_true rfl)) dX5_product_57 ⟨Nat.le_refl _, Nat.le_refl _⟩) hA hS (fun r_85 f_82 L_83 Q_84 H locs hq hP hS => ?_)
              obtain ⟨⟨ef9, eL9, eQ9⟩, hq, p_86, u_87⟩ := hq
              rw [ef9, eL9, eQ9] at hP; clear ef9 eL9 eQ9
              refine lv_istore_n (lv' := [(2, .int r_85), (0, .ref (h 4)), (1, .int 5), (3, .int y3_12)]) hx hb dX5_product_60 rfl hl (by decide) rfl (fun ls hl => ?_)
              obtain ⟨v_88, ev_88⟩ : ∃ z : Int32, z = y3_12 + 1 := ⟨_, rfl⟩
              have q_89 : v_88.toInt = y3_12.toInt + 1 := by rw [ev_88]; exact (bn_addc y3_12 1 (by decide) (by omega) (by omega))
              refine lv_iinc (v := v_88) (lv' := [(3, .int v_88), (2, .int r_85), (0, .ref (h 4)), (1, .int 5)]) hx hb dX5_product_61 hl (k := 3) rfl (by rw [ev_88]; rfl) (by decide) rfl (fun ls hl => ?_)
              refine lv_goto (tgt := 12) hx hb dX5_product_64 (by decide) ?_
              exact ih_12 r_85 v_88 f_74 _ _ _ (hs.trans ((if_pos c_66).trans (spl_e ev_67 (spl_e ef_69 (spl_e u_73 (spl_e u_77 (spl_e ev_78 (spl_e u_87 (spl_e ev_88 rfl))))))))) (by omega) ⟨by omega, by omega⟩ ⟨by omega, by omega⟩ (by have zz4_6 : (f_74 4 6).toInt = v_78.toInt := (congrArg Int32.toInt (show f_74 4 6 = v_78 from ev_78.symm)); have zz4_1 : (f_74 4 1).toInt = v_10.toInt := (congrArg Int32.toInt (show f_74 4 1 = v_10 from ((hk_f_74 4 1 (by decide)).trans ((hk_f_70 4 1 (by decide)).trans (by rw [ef_69, sg_up_s, sgu_n (by decide)]; exact ev_10.symm))))); omega) hI hF hP hS (lv_sub hl [2, 3, 1, 0] rfl)
  refine lv_aload_n hx hb dX5_product_0 rfl (lv_at hl 0 rfl) ?_
  refine lv_iload_n hx hb dX5_product_1 rfl (lv_at hl 1 rfl) ?_
  refine sg_callv (va_runV (As := [.int 5]) (rest := []) ⟨hx, hb, hml, hown, hts⟩ (kX5_operand_5 l D ca za h hh f L Q hI H.size) (sl_c5_operand_9_0_0_199_5 hts ⟨Nat.le_of_ble_eq_true rfl, Nat.le_of_ble_eq_true rfl⟩) (sl_vX_4 hA hK hP hS hZ) rfl rfl hl.1 rfl (lv_room (Nat.le_of_ble_eq_true rfl)) dX5_product_2 ⟨Nat.le_refl _, Nat.le_refl _⟩) hA hS (fun f_90 L_91 Q_92 H locs hq hP hS => ?_)
  obtain ⟨⟨hI, hk_f_90, eL9, eQ9⟩, u_93⟩ := hq
  rw [eL9, eQ9] at hP; clear eL9 eQ9
  have hF : sgK WkX5_product_5 f f_90 := sgK.tr hF hk_f_90 (by decide +kernel)
  refine lv_aload_n hx hb dX5_product_5 rfl (lv_at hl 0 rfl) ?_
  obtain ⟨v_94, ev_94⟩ : ∃ z : Int32, z = f_90 4 6 := ⟨_, rfl⟩
  have q_95 : 0 ≤ v_94.toInt ∧ v_94.toInt ≤ 120 := by rw [ev_94]; exact hI 4 6
  have q_96 : (f_90 4 6).toInt = v_94.toInt := (congrArg Int32.toInt (show f_90 4 6 = v_94 from ev_94.symm))
  have q_97 : (f_90 4 1).toInt = v_3.toInt := (congrArg Int32.toInt (show f_90 4 1 = v_3 from ((hk_f_90 4 1 (by decide)).trans ev_3.symm)))
  refine sg_calli (va_runV (As := []) (rest := []) ⟨hx, hb, hml, hown, hts⟩ (kX5_next l D ca za h hh f_90 L Q hI H.size) (sl_c5_next_0_0_0_0_5 hts ⟨Nat.le_of_ble_eq_true rfl, Nat.le_of_ble_eq_true rfl⟩) (sl_vX_4 hA hK hP hS hZ) rfl rfl hl.1 rfl (lv_room (Nat.le_of_ble_eq_true rfl)) dX5_product_6 ⟨Nat.le_refl _, Nat.le_refl _⟩) hA hS (fun r_101 f_98 L_99 Q_100 H locs hq hP hS => ?_)
  obtain ⟨⟨ef9, eL9, eQ9⟩, hq, p_102, u_103⟩ := hq
  rw [ef9, eL9, eQ9] at hP; clear ef9 eL9 eQ9
  refine lv_istore_n (lv' := [(2, .int r_101), (0, .ref (h 4)), (1, .int 5)]) hx hb dX5_product_9 rfl hl (by decide) rfl (fun ls hl => ?_)
  refine lv_iconst (v := 0) hx hb dX5_product_10 ic_0 ?_
  refine lv_istore_n (lv' := [(3, .int 0), (2, .int r_101), (0, .ref (h 4)), (1, .int 5)]) hx hb dX5_product_11 rfl hl (by decide) rfl (fun ls hl => ?_)
  exact loop_12 121 r_101 0 f_90 _ _ _ (hs.trans ((spl_e ev_1 (spl_e ev_3 (spl_e u_93 (spl_e ev_94 (spl_e u_103 rfl))))))) (by have kc1 : (0 : Int32).toInt = 0 := ti_0; omega) ⟨by omega, by omega⟩ (by decide) (by have kc1 : (0 : Int32).toInt = 0 := ti_0; have zz4_6 : (f_90 4 6).toInt = v_94.toInt := (congrArg Int32.toInt (show f_90 4 6 = v_94 from ev_94.symm)); have zz4_1 : (f_90 4 1).toInt = v_3.toInt := (congrArg Int32.toInt (show f_90 4 1 = v_3 from ((hk_f_90 4 1 (by decide)).trans ev_3.symm))); omega) hI hF hP hS (lv_sub hl [2, 3, 1, 0] rfl)

abbrev WkX5_sum_5 : List (Nat × Nat × Option Nat) := [(4, 4, some 6), (4, 4, some 7), (4, 4, some 8), (6, 6, none)]
set_option maxHeartbeats 4000000 in
set_option maxRecDepth 100000 in
theorem kX5_sum_5 (l : Launch) (D : va_G) (ca : Nat → ClassId) (za h : Nat → Nat) (hh : sgH 52 h) (f : sg_F) (L : sg_L) (Q : sg_Q) (hI : sgI loX hiX f) (sz : Nat) : Met l yX5_sum gwX5_sum { frames := 11, cells := 0, slots := 0, locals := 244 } (sgP D vwCl (tyX ca) 52 h (eX ca h) zcX za f L Q sz [.ref (h 4), .int 5]) (sgQv D vwCl 52 h (eX ca h) sz (fun f1 L1 Q1 => ((sgI loX hiX f1 ∧ sgK WkX5_sum_5 f f1 ∧ L1 = L ∧ Q1 = Q) ∧ (f1) = sX5_sum_5 f L))) 0 0 (sgA 52 h sz) := by
  refine sg_ofWv (cc := cX5_sum) (maxL := 4) RX5 (by decide) rfl rfl (Nat.le_of_ble_eq_true rfl) ?_
  intro p e s m below meth cd Qz ls hx hb hml hown hts hK hZ hP hS hl hret
  have hA := sgY.self (n := 52) (h := h) (sz := s.heap.size)
  have hl : lv_has ls 4 [(0, .ref (h 4)), (1, .int 5)] := hl
  obtain ⟨H, hH⟩ : ∃ z : Heap, z = s.heap := ⟨_, rfl⟩
  obtain ⟨locs, hlo⟩ : ∃ z : List Loc, z = [] := ⟨_, rfl⟩
  have hP : va_P D vwCl (sgw 52 h (eX ca h) f L Q) H := by rw [hH]; exact hP
  have hS : va_S (sgA 52 h s.heap.size) s.heap H locs := by rw [hH, hlo]; exact hS
  suffices hgo : W p l e ({ frames := 11, cells := 0, slots := 0, locals := 244 }) s m ([.ref (h 4), .int 5] : List Value).toArray below meth cd H locs 0 0 Qz (F0 m 0 ls []) by rw [hH, hlo] at hgo; exact hgo
  clear hH hlo
  obtain ⟨sp, hsp⟩ : ∃ z : sg_F, z = sX5_sum_5 f L := ⟨_, rfl⟩
  have hs : sp = sX5_sum_5 f L := hsp
  obtain ⟨v_1, ev_1⟩ : ∃ z : Int32, z = f 4 6 := ⟨_, rfl⟩
  have q_2 : 0 ≤ v_1.toInt ∧ v_1.toInt ≤ 120 := by rw [ev_1]; exact hI 4 6
  obtain ⟨v_3, ev_3⟩ : ∃ z : Int32, z = f 4 1 := ⟨_, rfl⟩
  have q_4 : 0 ≤ v_3.toInt ∧ v_3.toInt ≤ 120 := by rw [ev_3]; exact hI 4 1
  have o_5 : (f 4 6).toInt = v_1.toInt := (congrArg Int32.toInt (show f 4 6 = v_1 from ev_1.symm))
  have o_6 : (f 4 1).toInt = v_3.toInt := (congrArg Int32.toInt (show f 4 1 = v_3 from ev_3.symm))
  have hF : sgK WkX5_sum_5 f f := sgK.rf
  have loop_12 : ∀ (n_12 : Nat) (y2_12 : Int32) (y3_12 : Int32) (fp_12 : sg_F) (H : Heap) (locs : List Loc) (ls : Array Slot), sp = sX5_sum_5_l12 n_12 y2_12 y3_12 fp_12 L → 120 - y3_12.toInt < (n_12 : Int) → (-1) ≤ y2_12.toInt ∧ y2_12.toInt ≤ 255 → 0 ≤ y3_12.toInt ∧ y3_12.toInt ≤ 120 → y2_12.toInt < 0 ∨ (fp_12 4 6).toInt < (fp_12 4 1).toInt → sgI loX hiX fp_12 → sgK WkX5_sum_5 f fp_12 → va_P D vwCl (sgw 52 h (eX ca h) fp_12 L Q) H → va_S (sgA 52 h s.heap.size) s.heap H locs → lv_has ls 4 [(0, .ref (h 4)), (1, .int 5), (2, .int y2_12), (3, .int y3_12)] → W p l e ({ frames := 11, cells := 0, slots := 0, locals := 244 }) s m ([.ref (h 4), .int 5] : List Value).toArray below meth cd H locs 0 0 Qz (F0 m 12 ls []) := by
    intro n_12
    induction n_12 with
    | zero => intro y2_12 y3_12 fp_12 H locs ls hs hm_12 hy0_12 hy1_12 hg0_12 hI hF hP hS hl; exact absurd hm_12 (by omega)
    | succ n_12 ih_12 =>
      intro y2_12 y3_12 fp_12 H locs ls hs hm_12 hy0_12 hy1_12 hg0_12 hI hF hP hS hl
      have hs : sp = sX5_sum_5_h12 (sX5_sum_5_l12 n_12) y2_12 y3_12 fp_12 L := hs
      obtain ⟨v_7, ev_7⟩ : ∃ z : Int32, z = fp_12 4 6 := ⟨_, rfl⟩
      have q_8 : 0 ≤ v_7.toInt ∧ v_7.toInt ≤ 120 := by rw [ev_7]; exact hI 4 6
      have q_9 : (fp_12 4 6).toInt = v_7.toInt := by rw [ev_7]
      obtain ⟨v_10, ev_10⟩ : ∃ z : Int32, z = fp_12 4 1 := ⟨_, rfl⟩
      replace hs := hs.trans (spl_e ev_7 (spl_e ev_10 rfl))
      have q_11 : 0 ≤ v_10.toInt ∧ v_10.toInt ≤ 120 := by rw [ev_10]; exact hI 4 1
      have q_12 : (fp_12 4 1).toInt = v_10.toInt := by rw [ev_10]
      refine lv_iload_n hx hb dX5_sum_12 rfl (lv_at hl 3 rfl) ?_
      refine lv_bipush (v := 120) hx hb dX5_sum_13 bp_120 ?_
      refine lv_icmp_ge (tgt := 61) hx hb dX5_sum_15 (by decide) (fun c => ?_) (fun c => ?_)
      · skip
        have c_13 : 120 ≤ y3_12.toInt := (by first | exact (cm_le0 ti_120 c) | (have z := bn_le c; have k1 : (120 : Int32).toInt = 120 := ti_120; omega))
        exact hret _ _ _ _ fp_12 L Q dX5_sum_61 hP hS ⟨⟨hI, hF, rfl, rfl⟩, (Eq.trans (Eq.symm (hs.trans ((if_neg (Int.not_lt.mpr c_13)).trans rfl))) hsp)⟩
      · skip
        have c_14 : y3_12.toInt < 120 := (by first | exact (cm_nle0 ti_120 c) | (have z := bn_nle c; have k1 : (120 : Int32).toInt = 120 := ti_120; omega))
        replace hs := hs.trans ((if_pos c_14).trans rfl)
        refine lv_iload_n hx hb dX5_sum_18 rfl (lv_at hl 2 rfl) ?_
        refine lv_bipush (v := 43) hx hb dX5_sum_19 bp_43 ?_
        refine lv_icmp_eq (tgt := 30) hx hb dX5_sum_21 (by decide) (fun c => ?_) (fun c => ?_)
        · skip
          have c_15 : y2_12.toInt = 43 := (by first | exact (cm_eq1 ti_43 c) | (have z := Int32.toInt_inj.mpr c; have k1 : (43 : Int32).toInt = 43 := ti_43; omega))
          refine lv_aload_n hx hb dX5_sum_30 rfl (lv_at hl 0 rfl) ?_
          refine lv_dup hx hb dX5_sum_31 rfl ?_
          refine sl_gX_4_6_5 (v := v_7) hx hb hts hown hK hP (show fp_12 4 6 = v_7 from ev_7.symm) dX5_sum_32 ?_
          refine lv_iconst (v := 1) hx hb dX5_sum_35 ic_1 ?_
          refine lv_iadd hx hb dX5_sum_36 ?_
          refine lv_topi (fun v_17 ev_17 => ?_)
          have q_18 : v_17.toInt = v_7.toInt + 1 := by rw [ev_17]; first | exact cm_add ti_1 (by omega) (by omega) | (have k1 : (1 : Int32).toInt = 1 := ti_1; exact (bn_addI (by omega) (by omega)).trans (by omega))
          refine sl_pX_4_6_5 (x := v_17) hx hb hts hown hh hA hK hP hS dX5_sum_37 (fun f_19 H locs ef_19 hP hS => ?_)
          have hI : sgI loX hiX f_19 := by rw [ef_19]; exact sgI.put hI 4 6 (show 0 ≤ (v_17 : Int32).toInt ∧ (v_17 : Int32).toInt ≤ 120 from ⟨by omega, by omega⟩)
          have hF : sgK WkX5_sum_5 f f_19 := sgK.put hF ef_19 (by rfl)
          refine lv_aload_n hx hb dX5_sum_40 rfl (lv_at hl 0 rfl) ?_
          refine lv_iload_n hx hb dX5_sum_41 rfl (lv_at hl 1 rfl) ?_
          refine sg_callv (va_runV (As := [.int 5]) (rest := []) ⟨hx, hb, hml, hown, hts⟩ (kX5_product_5 l D ca za h hh f_19 L Q hI H.size) (sl_c5_product_10_0_0_221_5 hts ⟨Nat.le_of_ble_eq_true rfl, Nat.le_of_ble_eq_true rfl⟩) (sl_vX_4 hA hK hP hS hZ) rfl rfl hl.1 rfl (lv_room (Nat.le_of_ble_eq_true rfl)) dX5_sum_42 ⟨Nat.le_refl _, Nat.le_refl _⟩) hA hS (fun f_20 L_21 Q_22 H locs hq hP hS => ?_)
          obtain ⟨⟨hI, hk_f_20, eL9, eQ9⟩, u_23⟩ := hq
          rw [eL9, eQ9] at hP; clear eL9 eQ9
          have hF : sgK WkX5_sum_5 f f_20 := sgK.tr hF hk_f_20 (by decide +kernel)
          refine lv_aload_n hx hb dX5_sum_45 rfl (lv_at hl 0 rfl) ?_
          refine lv_iload_n hx hb dX5_sum_46 rfl (lv_at hl 2 rfl) ?_
          refine sg_callv (va_runV (As := [.int y2_12]) (rest := []) ⟨hx, hb, hml, hown, hts⟩ (kX5_write l D ca za h hh f_20 L Q hI y2_12 H.size) (sl_c5_write_0_0_0_0_5 hts ⟨Nat.le_of_ble_eq_true rfl, Nat.le_of_ble_eq_true rfl⟩) (sl_vX_4 hA hK hP hS hZ) rfl rfl hl.1 rfl (lv_room (Nat.le_of_ble_eq_true rfl)) dX5_sum_47 ⟨Nat.le_refl _, Nat.le_refl _⟩) hA hS (fun f_24 L_25 Q_26 H locs hq hP hS => ?_)
          obtain ⟨⟨hI, hk_f_24, eL9, eQ9⟩, u_27⟩ := hq
          rw [eL9, eQ9] at hP; clear eL9 eQ9
          have hF : sgK WkX5_sum_5 f f_24 := sgK.tr hF hk_f_24 (by decide +kernel)
          refine lv_aload_n hx hb dX5_sum_50 rfl (lv_at hl 0 rfl) ?_
          obtain ⟨v_28, ev_28⟩ : ∃ z : Int32, z = f_24 4 6 := ⟨_, rfl⟩
          have q_29 : 0 ≤ v_28.toInt ∧ v_28.toInt ≤ 120 := by rw [ev_28]; exact hI 4 6
          have q_30 : (f_24 4 6).toInt = v_28.toInt := (congrArg Int32.toInt (show f_24 4 6 = v_28 from ev_28.symm))
          have q_31 : (f_24 4 1).toInt = v_10.toInt := (congrArg Int32.toInt (show f_24 4 1 = v_10 from ((hk_f_24 4 1 (by decide)).trans ((hk_f_20 4 1 (by decide)).trans (by rw [ef_19, sg_up_s, sgu_n (by decide)]; exact ev_10.symm)))))
          refine sg_calli (va_runV (As := []) (rest := []) ⟨hx, hb, hml, hown, hts⟩ (kX5_next l D ca za h hh f_24 L Q hI H.size) (sl_c5_next_0_0_0_0_5 hts ⟨Nat.le_of_ble_eq_true rfl, Nat.le_of_ble_eq_true rfl⟩) (sl_vX_4 hA hK hP hS hZ) rfl rfl hl.1 rfl (lv_room (Nat.le_of_ble_eq_true rfl)) dX5_sum_51 ⟨Nat.le_refl _, Nat.le_refl _⟩) hA hS (fun r_35 f_32 L_33 Q_34 H locs hq hP hS => ?_)
          obtain ⟨⟨ef9, eL9, eQ9⟩, hq, p_36, u_37⟩ := hq
          rw [ef9, eL9, eQ9] at hP; clear ef9 eL9 eQ9
          refine lv_istore_n (lv' := [(2, .int r_35), (0, .ref (h 4)), (1, .int 5), (3, .int y3_12)]) hx hb dX5_sum_54 rfl hl (by decide) rfl (fun ls hl => ?_)
          obtain ⟨v_38, ev_38⟩ : ∃ z : Int32, z = y3_12 + 1 := ⟨_, rfl⟩
          have q_39 : v_38.toInt = y3_12.toInt + 1 := by rw [ev_38]; exact (bn_addc y3_12 1 (by decide) (by omega) (by omega))
          refine lv_iinc (v := v_38) (lv' := [(3, .int v_38), (2, .int r_35), (0, .ref (h 4)), (1, .int 5)]) hx hb dX5_sum_55 hl (k := 3) rfl (by rw [ev_38]; rfl) (by decide) rfl (fun ls hl => ?_)
          refine lv_goto (tgt := 12) hx hb dX5_sum_58 (by decide) ?_
          exact ih_12 r_35 v_38 f_24 _ _ _ (hs.trans ((if_pos c_15).trans (spl_e ev_17 (spl_e ef_19 (spl_e u_23 (spl_e u_27 (spl_e ev_28 (spl_e u_37 (spl_e ev_38 rfl))))))))) (by omega) ⟨by omega, by omega⟩ ⟨by omega, by omega⟩ (by have zz4_6 : (f_24 4 6).toInt = v_28.toInt := (congrArg Int32.toInt (show f_24 4 6 = v_28 from ev_28.symm)); have zz4_1 : (f_24 4 1).toInt = v_10.toInt := (congrArg Int32.toInt (show f_24 4 1 = v_10 from ((hk_f_24 4 1 (by decide)).trans ((hk_f_20 4 1 (by decide)).trans (by rw [ef_19, sg_up_s, sgu_n (by decide)]; exact ev_10.symm))))); omega) hI hF hP hS (lv_sub hl [2, 3, 1, 0] rfl)
        · skip
          have c_16 : y2_12.toInt ≠ 43 := (by first | exact (cm_ne1 ti_43 c) | (have z := bn_ne c; have k1 : (43 : Int32).toInt = 43 := ti_43; omega))
          replace hs := hs.trans ((if_neg c_16).trans rfl)
          refine lv_iload_n hx hb dX5_sum_24 rfl (lv_at hl 2 rfl) ?_
          refine lv_bipush (v := 45) hx hb dX5_sum_25 bp_45 ?_
          refine lv_icmp_ne (tgt := 61) hx hb dX5_sum_27 (by decide) (fun c => ?_) (fun c => ?_)
          · skip
            have c_40 : y2_12.toInt ≠ 45 := (by first | exact (cm_ne1 ti_45 c) | (have z := bn_ne c; have k1 : (45 : Int32).toInt = 45 := ti_45; omega))
            exact hret _ _ _ _ fp_12 L Q dX5_sum_61 hP hS ⟨⟨hI, hF, rfl, rfl⟩, (Eq.trans (Eq.symm (hs.trans ((if_neg c_40).trans rfl))) hsp)⟩
          · skip
            have c_41 : y2_12.toInt = 45 := (by first | exact (cm_eq1 ti_45 c) | (have z := Int32.toInt_inj.mpr c; have k1 : (45 : Int32).toInt = 45 := ti_45; omega))
            refine lv_aload_n hx hb dX5_sum_30 rfl (lv_at hl 0 rfl) ?_
            refine lv_dup hx hb dX5_sum_31 rfl ?_
            refine sl_gX_4_6_5 (v := v_7) hx hb hts hown hK hP (show fp_12 4 6 = v_7 from ev_7.symm) dX5_sum_32 ?_
            refine lv_iconst (v := 1) hx hb dX5_sum_35 ic_1 ?_
            refine lv_iadd hx hb dX5_sum_36 ?_
            refine lv_topi (fun v_42 ev_42 => ?_)
            have q_43 : v_42.toInt = v_7.toInt + 1 := by rw [ev_42]; first | exact cm_add ti_1 (by omega) (by omega) | (have k1 : (1 : Int32).toInt = 1 := ti_1; exact (bn_addI (by omega) (by omega)).trans (by omega))
            refine sl_pX_4_6_5 (x := v_42) hx hb hts hown hh hA hK hP hS dX5_sum_37 (fun f_44 H locs ef_44 hP hS => ?_)
            have hI : sgI loX hiX f_44 := by rw [ef_44]; exact sgI.put hI 4 6 (show 0 ≤ (v_42 : Int32).toInt ∧ (v_42 : Int32).toInt ≤ 120 from ⟨by omega, by omega⟩)
            have hF : sgK WkX5_sum_5 f f_44 := sgK.put hF ef_44 (by rfl)
            refine lv_aload_n hx hb dX5_sum_40 rfl (lv_at hl 0 rfl) ?_
            refine lv_iload_n hx hb dX5_sum_41 rfl (lv_at hl 1 rfl) ?_
            refine sg_callv (va_runV (As := [.int 5]) (rest := []) ⟨hx, hb, hml, hown, hts⟩ (kX5_product_5 l D ca za h hh f_44 L Q hI H.size) (sl_c5_product_10_0_0_221_5 hts ⟨Nat.le_of_ble_eq_true rfl, Nat.le_of_ble_eq_true rfl⟩) (sl_vX_4 hA hK hP hS hZ) rfl rfl hl.1 rfl (lv_room (Nat.le_of_ble_eq_true rfl)) dX5_sum_42 ⟨Nat.le_refl _, Nat.le_refl _⟩) hA hS (fun f_45 L_46 Q_47 H locs hq hP hS => ?_)
            obtain ⟨⟨hI, hk_f_45, eL9, eQ9⟩, u_48⟩ := hq
            rw [eL9, eQ9] at hP; clear eL9 eQ9
            have hF : sgK WkX5_sum_5 f f_45 := sgK.tr hF hk_f_45 (by decide +kernel)
            refine lv_aload_n hx hb dX5_sum_45 rfl (lv_at hl 0 rfl) ?_
            refine lv_iload_n hx hb dX5_sum_46 rfl (lv_at hl 2 rfl) ?_
            refine sg_callv (va_runV (As := [.int y2_12]) (rest := []) ⟨hx, hb, hml, hown, hts⟩ (kX5_write l D ca za h hh f_45 L Q hI y2_12 H.size) (sl_c5_write_0_0_0_0_5 hts ⟨Nat.le_of_ble_eq_true rfl, Nat.le_of_ble_eq_true rfl⟩) (sl_vX_4 hA hK hP hS hZ) rfl rfl hl.1 rfl (lv_room (Nat.le_of_ble_eq_true rfl)) dX5_sum_47 ⟨Nat.le_refl _, Nat.le_refl _⟩) hA hS (fun f_49 L_50 Q_51 H locs hq hP hS => ?_)
            obtain ⟨⟨hI, hk_f_49, eL9, eQ9⟩, u_52⟩ := hq
            rw [eL9, eQ9] at hP; clear eL9 eQ9
            have hF : sgK WkX5_sum_5 f f_49 := sgK.tr hF hk_f_49 (by decide +kernel)
            refine lv_aload_n hx hb dX5_sum_50 rfl (lv_at hl 0 rfl) ?_
            obtain ⟨v_53, ev_53⟩ : ∃ z : Int32, z = f_49 4 6 := ⟨_, rfl⟩
            have q_54 : 0 ≤ v_53.toInt ∧ v_53.toInt ≤ 120 := by rw [ev_53]; exact hI 4 6
            have q_55 : (f_49 4 6).toInt = v_53.toInt := (congrArg Int32.toInt (show f_49 4 6 = v_53 from ev_53.symm))
            have q_56 : (f_49 4 1).toInt = v_10.toInt := (congrArg Int32.toInt (show f_49 4 1 = v_10 from ((hk_f_49 4 1 (by decide)).trans ((hk_f_45 4 1 (by decide)).trans (by rw [ef_44, sg_up_s, sgu_n (by decide)]; exact ev_10.symm)))))
            refine sg_calli (va_runV (As := []) (rest := []) ⟨hx, hb, hml, hown, hts⟩ (kX5_next l D ca za h hh f_49 L Q hI H.size) (sl_c5_next_0_0_0_0_5 hts ⟨Nat.le_of_ble_eq_true rfl, Nat.le_of_ble_eq_true rfl⟩) (sl_vX_4 hA hK hP hS hZ) rfl rfl hl.1 rfl (lv_room (Nat.le_of_ble_eq_true rfl)) dX5_sum_51 ⟨Nat.le_refl _, Nat.le_refl _⟩) hA hS (fun r_60 f_57 L_58 Q_59 H locs hq hP hS => ?_)
            obtain ⟨⟨ef9, eL9, eQ9⟩, hq, p_61, u_62⟩ := hq
            rw [ef9, eL9, eQ9] at hP; clear ef9 eL9 eQ9
            refine lv_istore_n (lv' := [(2, .int r_60), (0, .ref (h 4)), (1, .int 5), (3, .int y3_12)]) hx hb dX5_sum_54 rfl hl (by decide) rfl (fun ls hl => ?_)
            obtain ⟨v_63, ev_63⟩ : ∃ z : Int32, z = y3_12 + 1 := ⟨_, rfl⟩
            have q_64 : v_63.toInt = y3_12.toInt + 1 := by rw [ev_63]; exact (bn_addc y3_12 1 (by decide) (by omega) (by omega))
            refine lv_iinc (v := v_63) (lv' := [(3, .int v_63), (2, .int r_60), (0, .ref (h 4)), (1, .int 5)]) hx hb dX5_sum_55 hl (k := 3) rfl (by rw [ev_63]; rfl) (by decide) rfl (fun ls hl => ?_)
            refine lv_goto (tgt := 12) hx hb dX5_sum_58 (by decide) ?_
            exact ih_12 r_60 v_63 f_49 _ _ _ (hs.trans ((if_pos c_41).trans (spl_e ev_42 (spl_e ef_44 (spl_e u_48 (spl_e u_52 (spl_e ev_53 (spl_e u_62 (spl_e ev_63 rfl))))))))) (by omega) ⟨by omega, by omega⟩ ⟨by omega, by omega⟩ (by have zz4_6 : (f_49 4 6).toInt = v_53.toInt := (congrArg Int32.toInt (show f_49 4 6 = v_53 from ev_53.symm)); have zz4_1 : (f_49 4 1).toInt = v_10.toInt := (congrArg Int32.toInt (show f_49 4 1 = v_10 from ((hk_f_49 4 1 (by decide)).trans ((hk_f_45 4 1 (by decide)).trans (by rw [ef_44, sg_up_s, sgu_n (by decide)]; exact ev_10.symm))))); omega) hI hF hP hS (lv_sub hl [2, 3, 1, 0] rfl)
  refine lv_aload_n hx hb dX5_sum_0 rfl (lv_at hl 0 rfl) ?_
  refine lv_iload_n hx hb dX5_sum_1 rfl (lv_at hl 1 rfl) ?_
  refine sg_callv (va_runV (As := [.int 5]) (rest := []) ⟨hx, hb, hml, hown, hts⟩ (kX5_product_5 l D ca za h hh f L Q hI H.size) (sl_c5_product_10_0_0_221_5 hts ⟨Nat.le_of_ble_eq_true rfl, Nat.le_of_ble_eq_true rfl⟩) (sl_vX_4 hA hK hP hS hZ) rfl rfl hl.1 rfl (lv_room (Nat.le_of_ble_eq_true rfl)) dX5_sum_2 ⟨Nat.le_refl _, Nat.le_refl _⟩) hA hS (fun f_65 L_66 Q_67 H locs hq hP hS => ?_)
  obtain ⟨⟨hI, hk_f_65, eL9, eQ9⟩, u_68⟩ := hq
  rw [eL9, eQ9] at hP; clear eL9 eQ9
  have hF : sgK WkX5_sum_5 f f_65 := sgK.tr hF hk_f_65 (by decide +kernel)
  refine lv_aload_n hx hb dX5_sum_5 rfl (lv_at hl 0 rfl) ?_
  obtain ⟨v_69, ev_69⟩ : ∃ z : Int32, z = f_65 4 6 := ⟨_, rfl⟩
  have q_70 : 0 ≤ v_69.toInt ∧ v_69.toInt ≤ 120 := by rw [ev_69]; exact hI 4 6
  have q_71 : (f_65 4 6).toInt = v_69.toInt := (congrArg Int32.toInt (show f_65 4 6 = v_69 from ev_69.symm))
  have q_72 : (f_65 4 1).toInt = v_3.toInt := (congrArg Int32.toInt (show f_65 4 1 = v_3 from ((hk_f_65 4 1 (by decide)).trans ev_3.symm)))
  refine sg_calli (va_runV (As := []) (rest := []) ⟨hx, hb, hml, hown, hts⟩ (kX5_next l D ca za h hh f_65 L Q hI H.size) (sl_c5_next_0_0_0_0_5 hts ⟨Nat.le_of_ble_eq_true rfl, Nat.le_of_ble_eq_true rfl⟩) (sl_vX_4 hA hK hP hS hZ) rfl rfl hl.1 rfl (lv_room (Nat.le_of_ble_eq_true rfl)) dX5_sum_6 ⟨Nat.le_refl _, Nat.le_refl _⟩) hA hS (fun r_76 f_73 L_74 Q_75 H locs hq hP hS => ?_)
  obtain ⟨⟨ef9, eL9, eQ9⟩, hq, p_77, u_78⟩ := hq
  rw [ef9, eL9, eQ9] at hP; clear ef9 eL9 eQ9
  refine lv_istore_n (lv' := [(2, .int r_76), (0, .ref (h 4)), (1, .int 5)]) hx hb dX5_sum_9 rfl hl (by decide) rfl (fun ls hl => ?_)
  refine lv_iconst (v := 0) hx hb dX5_sum_10 ic_0 ?_
  refine lv_istore_n (lv' := [(3, .int 0), (2, .int r_76), (0, .ref (h 4)), (1, .int 5)]) hx hb dX5_sum_11 rfl hl (by decide) rfl (fun ls hl => ?_)
  exact loop_12 121 r_76 0 f_65 _ _ _ (hs.trans ((spl_e ev_1 (spl_e ev_3 (spl_e u_68 (spl_e ev_69 (spl_e u_78 rfl))))))) (by have kc1 : (0 : Int32).toInt = 0 := ti_0; omega) ⟨by omega, by omega⟩ (by decide) (by have kc1 : (0 : Int32).toInt = 0 := ti_0; have zz4_6 : (f_65 4 6).toInt = v_69.toInt := (congrArg Int32.toInt (show f_65 4 6 = v_69 from ev_69.symm)); have zz4_1 : (f_65 4 1).toInt = v_3.toInt := (congrArg Int32.toInt (show f_65 4 1 = v_3 from ((hk_f_65 4 1 (by decide)).trans ev_3.symm))); omega) hI hF hP hS (lv_sub hl [2, 3, 1, 0] rfl)

abbrev WkX5_compared_5 : List (Nat × Nat × Option Nat) := [(4, 4, some 6), (4, 4, some 7), (4, 4, some 8), (6, 6, none)]
set_option maxHeartbeats 4000000 in
set_option maxRecDepth 100000 in
theorem kX5_compared_5 (l : Launch) (D : va_G) (ca : Nat → ClassId) (za h : Nat → Nat) (hh : sgH 52 h) (f : sg_F) (L : sg_L) (Q : sg_Q) (hI : sgI loX hiX f) (sz : Nat) : Met l yX5_compared gwX5_compared { frames := 12, cells := 0, slots := 0, locals := 267 } (sgP D vwCl (tyX ca) 52 h (eX ca h) zcX za f L Q sz [.ref (h 4), .int 5]) (sgQv D vwCl 52 h (eX ca h) sz (fun f1 L1 Q1 => ((sgI loX hiX f1 ∧ sgK WkX5_compared_5 f f1 ∧ L1 = L ∧ Q1 = Q) ∧ (f1) = sX5_compared_5 f L))) 0 0 (sgA 52 h sz) := by
  refine sg_ofWv (cc := cX5_compared) (maxL := 3) RX5 (by decide) rfl rfl (Nat.le_of_ble_eq_true rfl) ?_
  intro p e s m below meth cd Qz ls hx hb hml hown hts hK hZ hP hS hl hret
  have hA := sgY.self (n := 52) (h := h) (sz := s.heap.size)
  have hl : lv_has ls 3 [(0, .ref (h 4)), (1, .int 5)] := hl
  obtain ⟨H, hH⟩ : ∃ z : Heap, z = s.heap := ⟨_, rfl⟩
  obtain ⟨locs, hlo⟩ : ∃ z : List Loc, z = [] := ⟨_, rfl⟩
  have hP : va_P D vwCl (sgw 52 h (eX ca h) f L Q) H := by rw [hH]; exact hP
  have hS : va_S (sgA 52 h s.heap.size) s.heap H locs := by rw [hH, hlo]; exact hS
  suffices hgo : W p l e ({ frames := 12, cells := 0, slots := 0, locals := 267 }) s m ([.ref (h 4), .int 5] : List Value).toArray below meth cd H locs 0 0 Qz (F0 m 0 ls []) by rw [hH, hlo] at hgo; exact hgo
  clear hH hlo
  obtain ⟨sp, hsp⟩ : ∃ z : sg_F, z = sX5_compared_5 f L := ⟨_, rfl⟩
  have hs : sp = sX5_compared_5 f L := hsp
  have hF : sgK WkX5_compared_5 f f := sgK.rf
  refine lv_aload_n hx hb dX5_compared_0 rfl (lv_at hl 0 rfl) ?_
  refine lv_iload_n hx hb dX5_compared_1 rfl (lv_at hl 1 rfl) ?_
  refine sg_callv (va_runV (As := [.int 5]) (rest := []) ⟨hx, hb, hml, hown, hts⟩ (kX5_sum_5 l D ca za h hh f L Q hI H.size) (sl_c5_sum_11_0_0_244_5 hts ⟨Nat.le_of_ble_eq_true rfl, Nat.le_of_ble_eq_true rfl⟩) (sl_vX_4 hA hK hP hS hZ) rfl rfl hl.1 rfl (lv_room (Nat.le_of_ble_eq_true rfl)) dX5_compared_2 ⟨Nat.le_refl _, Nat.le_refl _⟩) hA hS (fun f_1 L_2 Q_3 H locs hq hP hS => ?_)
  obtain ⟨⟨hI, hk_f_1, eL9, eQ9⟩, u_4⟩ := hq
  rw [eL9, eQ9] at hP; clear eL9 eQ9
  have hF : sgK WkX5_compared_5 f f_1 := sgK.tr hF hk_f_1 (by decide +kernel)
  refine lv_aload_n hx hb dX5_compared_5 rfl (lv_at hl 0 rfl) ?_
  obtain ⟨v_5, ev_5⟩ : ∃ z : Int32, z = f_1 4 6 := ⟨_, rfl⟩
  have q_6 : 0 ≤ v_5.toInt ∧ v_5.toInt ≤ 120 := by rw [ev_5]; exact hI 4 6
  have q_7 : (f_1 4 6).toInt = v_5.toInt := (congrArg Int32.toInt (show f_1 4 6 = v_5 from ev_5.symm))
  obtain ⟨v_8, ev_8⟩ : ∃ z : Int32, z = f_1 4 1 := ⟨_, rfl⟩
  have q_9 : 0 ≤ v_8.toInt ∧ v_8.toInt ≤ 120 := by rw [ev_8]; exact hI 4 1
  have q_10 : (f_1 4 1).toInt = v_8.toInt := (congrArg Int32.toInt (show f_1 4 1 = v_8 from ev_8.symm))
  refine sg_calli (va_runV (As := []) (rest := []) ⟨hx, hb, hml, hown, hts⟩ (kX5_next l D ca za h hh f_1 L Q hI H.size) (sl_c5_next_0_0_0_0_5 hts ⟨Nat.le_of_ble_eq_true rfl, Nat.le_of_ble_eq_true rfl⟩) (sl_vX_4 hA hK hP hS hZ) rfl rfl hl.1 rfl (lv_room (Nat.le_of_ble_eq_true rfl)) dX5_compared_6 ⟨Nat.le_refl _, Nat.le_refl _⟩) hA hS (fun r_14 f_11 L_12 Q_13 H locs hq hP hS => ?_)
  obtain ⟨⟨ef9, eL9, eQ9⟩, hq, p_15, u_16⟩ := hq
  replace hs := hs.trans (spl_e u_4 (spl_e ev_5 (spl_e ev_8 (spl_e u_16 rfl))))
  rw [ef9, eL9, eQ9] at hP; clear ef9 eL9 eQ9
  refine lv_istore_n (lv' := [(2, .int r_14), (0, .ref (h 4)), (1, .int 5)]) hx hb dX5_compared_9 rfl hl (by decide) rfl (fun ls hl => ?_)
  refine lv_iload_n hx hb dX5_compared_10 rfl (lv_at hl 0 rfl) ?_
  refine lv_bipush (v := 60) hx hb dX5_compared_11 bp_60 ?_
  refine lv_icmp_eq (tgt := 28) hx hb dX5_compared_13 (by decide) (fun c => ?_) (fun c => ?_)
  · skip
    have c_17 : r_14.toInt = 60 := (by first | exact (cm_eq1 ti_60 c) | (have z := Int32.toInt_inj.mpr c; have k1 : (60 : Int32).toInt = 60 := ti_60; omega))
    refine lv_aload_n hx hb dX5_compared_28 rfl (lv_at hl 1 rfl) ?_
    refine lv_dup hx hb dX5_compared_29 rfl ?_
    refine sl_gX_4_6_5 (v := v_5) hx hb hts hown hK hP (show f_1 4 6 = v_5 from ev_5.symm) dX5_compared_30 ?_
    refine lv_iconst (v := 1) hx hb dX5_compared_33 ic_1 ?_
    refine lv_iadd hx hb dX5_compared_34 ?_
    refine lv_topi (fun v_19 ev_19 => ?_)
    have q_20 : v_19.toInt = v_5.toInt + 1 := by rw [ev_19]; first | exact cm_add ti_1 (by omega) (by omega) | (have k1 : (1 : Int32).toInt = 1 := ti_1; exact (bn_addI (by omega) (by omega)).trans (by omega))
    refine sl_pX_4_6_5 (x := v_19) hx hb hts hown hh hA hK hP hS dX5_compared_35 (fun f_21 H locs ef_21 hP hS => ?_)
    have hI : sgI loX hiX f_21 := by rw [ef_21]; exact sgI.put hI 4 6 (show 0 ≤ (v_19 : Int32).toInt ∧ (v_19 : Int32).toInt ≤ 120 from ⟨by omega, by omega⟩)
    have hF : sgK WkX5_compared_5 f f_21 := sgK.put hF ef_21 (by rfl)
    refine lv_aload_n hx hb dX5_compared_38 rfl (lv_at hl 1 rfl) ?_
    refine lv_iload_n hx hb dX5_compared_39 rfl (lv_at hl 2 rfl) ?_
    refine sg_callv (va_runV (As := [.int 5]) (rest := []) ⟨hx, hb, hml, hown, hts⟩ (kX5_sum_5 l D ca za h hh f_21 L Q hI H.size) (sl_c5_sum_11_0_0_244_5 hts ⟨Nat.le_of_ble_eq_true rfl, Nat.le_of_ble_eq_true rfl⟩) (sl_vX_4 hA hK hP hS hZ) rfl rfl hl.1 rfl (lv_room (Nat.le_of_ble_eq_true rfl)) dX5_compared_40 ⟨Nat.le_refl _, Nat.le_refl _⟩) hA hS (fun f_22 L_23 Q_24 H locs hq hP hS => ?_)
    obtain ⟨⟨hI, hk_f_22, eL9, eQ9⟩, u_25⟩ := hq
    rw [eL9, eQ9] at hP; clear eL9 eQ9
    have hF : sgK WkX5_compared_5 f f_22 := sgK.tr hF hk_f_22 (by decide +kernel)
    refine lv_aload_n hx hb dX5_compared_43 rfl (lv_at hl 1 rfl) ?_
    refine lv_iload_n hx hb dX5_compared_44 rfl (lv_at hl 0 rfl) ?_
    refine sg_callv (va_runV (As := [.int r_14]) (rest := []) ⟨hx, hb, hml, hown, hts⟩ (kX5_write l D ca za h hh f_22 L Q hI r_14 H.size) (sl_c5_write_0_0_0_0_5 hts ⟨Nat.le_of_ble_eq_true rfl, Nat.le_of_ble_eq_true rfl⟩) (sl_vX_4 hA hK hP hS hZ) rfl rfl hl.1 rfl (lv_room (Nat.le_of_ble_eq_true rfl)) dX5_compared_45 ⟨Nat.le_refl _, Nat.le_refl _⟩) hA hS (fun f_26 L_27 Q_28 H locs hq hP hS => ?_)
    obtain ⟨⟨hI, hk_f_26, eL9, eQ9⟩, u_29⟩ := hq
    rw [eL9, eQ9] at hP; clear eL9 eQ9
    have hF : sgK WkX5_compared_5 f f_26 := sgK.tr hF hk_f_26 (by decide +kernel)
    exact hret _ _ _ _ f_26 L Q dX5_compared_48 hP hS ⟨⟨hI, hF, rfl, rfl⟩, (Eq.trans (Eq.symm (hs.trans ((if_pos c_17).trans (spl_e ev_19 (spl_e ef_21 (spl_e u_25 (spl_e u_29 rfl))))))) hsp)⟩
  · skip
    have c_18 : r_14.toInt ≠ 60 := (by first | exact (cm_ne1 ti_60 c) | (have z := bn_ne c; have k1 : (60 : Int32).toInt = 60 := ti_60; omega))
    replace hs := hs.trans ((if_neg c_18).trans rfl)
    refine lv_iload_n hx hb dX5_compared_16 rfl (lv_at hl 0 rfl) ?_
    refine lv_bipush (v := 61) hx hb dX5_compared_17 bp_61 ?_
    refine lv_icmp_eq (tgt := 28) hx hb dX5_compared_19 (by decide) (fun c => ?_) (fun c => ?_)
    · skip
      have c_30 : r_14.toInt = 61 := (by first | exact (cm_eq1 ti_61 c) | (have z := Int32.toInt_inj.mpr c; have k1 : (61 : Int32).toInt = 61 := ti_61; omega))
      refine lv_aload_n hx hb dX5_compared_28 rfl (lv_at hl 1 rfl) ?_
      refine lv_dup hx hb dX5_compared_29 rfl ?_
      refine sl_gX_4_6_5 (v := v_5) hx hb hts hown hK hP (show f_1 4 6 = v_5 from ev_5.symm) dX5_compared_30 ?_
      refine lv_iconst (v := 1) hx hb dX5_compared_33 ic_1 ?_
      refine lv_iadd hx hb dX5_compared_34 ?_
      refine lv_topi (fun v_32 ev_32 => ?_)
      have q_33 : v_32.toInt = v_5.toInt + 1 := by rw [ev_32]; first | exact cm_add ti_1 (by omega) (by omega) | (have k1 : (1 : Int32).toInt = 1 := ti_1; exact (bn_addI (by omega) (by omega)).trans (by omega))
      refine sl_pX_4_6_5 (x := v_32) hx hb hts hown hh hA hK hP hS dX5_compared_35 (fun f_34 H locs ef_34 hP hS => ?_)
      have hI : sgI loX hiX f_34 := by rw [ef_34]; exact sgI.put hI 4 6 (show 0 ≤ (v_32 : Int32).toInt ∧ (v_32 : Int32).toInt ≤ 120 from ⟨by omega, by omega⟩)
      have hF : sgK WkX5_compared_5 f f_34 := sgK.put hF ef_34 (by rfl)
      refine lv_aload_n hx hb dX5_compared_38 rfl (lv_at hl 1 rfl) ?_
      refine lv_iload_n hx hb dX5_compared_39 rfl (lv_at hl 2 rfl) ?_
      refine sg_callv (va_runV (As := [.int 5]) (rest := []) ⟨hx, hb, hml, hown, hts⟩ (kX5_sum_5 l D ca za h hh f_34 L Q hI H.size) (sl_c5_sum_11_0_0_244_5 hts ⟨Nat.le_of_ble_eq_true rfl, Nat.le_of_ble_eq_true rfl⟩) (sl_vX_4 hA hK hP hS hZ) rfl rfl hl.1 rfl (lv_room (Nat.le_of_ble_eq_true rfl)) dX5_compared_40 ⟨Nat.le_refl _, Nat.le_refl _⟩) hA hS (fun f_35 L_36 Q_37 H locs hq hP hS => ?_)
      obtain ⟨⟨hI, hk_f_35, eL9, eQ9⟩, u_38⟩ := hq
      rw [eL9, eQ9] at hP; clear eL9 eQ9
      have hF : sgK WkX5_compared_5 f f_35 := sgK.tr hF hk_f_35 (by decide +kernel)
      refine lv_aload_n hx hb dX5_compared_43 rfl (lv_at hl 1 rfl) ?_
      refine lv_iload_n hx hb dX5_compared_44 rfl (lv_at hl 0 rfl) ?_
      refine sg_callv (va_runV (As := [.int r_14]) (rest := []) ⟨hx, hb, hml, hown, hts⟩ (kX5_write l D ca za h hh f_35 L Q hI r_14 H.size) (sl_c5_write_0_0_0_0_5 hts ⟨Nat.le_of_ble_eq_true rfl, Nat.le_of_ble_eq_true rfl⟩) (sl_vX_4 hA hK hP hS hZ) rfl rfl hl.1 rfl (lv_room (Nat.le_of_ble_eq_true rfl)) dX5_compared_45 ⟨Nat.le_refl _, Nat.le_refl _⟩) hA hS (fun f_39 L_40 Q_41 H locs hq hP hS => ?_)
      obtain ⟨⟨hI, hk_f_39, eL9, eQ9⟩, u_42⟩ := hq
      rw [eL9, eQ9] at hP; clear eL9 eQ9
      have hF : sgK WkX5_compared_5 f f_39 := sgK.tr hF hk_f_39 (by decide +kernel)
      exact hret _ _ _ _ f_39 L Q dX5_compared_48 hP hS ⟨⟨hI, hF, rfl, rfl⟩, (Eq.trans (Eq.symm (hs.trans ((if_pos c_30).trans (spl_e ev_32 (spl_e ef_34 (spl_e u_38 (spl_e u_42 rfl))))))) hsp)⟩
    · skip
      have c_31 : r_14.toInt ≠ 61 := (by first | exact (cm_ne1 ti_61 c) | (have z := bn_ne c; have k1 : (61 : Int32).toInt = 61 := ti_61; omega))
      replace hs := hs.trans ((if_neg c_31).trans rfl)
      refine lv_iload_n hx hb dX5_compared_22 rfl (lv_at hl 0 rfl) ?_
      refine lv_bipush (v := 62) hx hb dX5_compared_23 bp_62 ?_
      refine lv_icmp_ne (tgt := 48) hx hb dX5_compared_25 (by decide) (fun c => ?_) (fun c => ?_)
      · skip
        have c_43 : r_14.toInt ≠ 62 := (by first | exact (cm_ne1 ti_62 c) | (have z := bn_ne c; have k1 : (62 : Int32).toInt = 62 := ti_62; omega))
        exact hret _ _ _ _ f_1 L Q dX5_compared_48 hP hS ⟨⟨hI, hF, rfl, rfl⟩, (Eq.trans (Eq.symm (hs.trans ((if_neg c_43).trans rfl))) hsp)⟩
      · skip
        have c_44 : r_14.toInt = 62 := (by first | exact (cm_eq1 ti_62 c) | (have z := Int32.toInt_inj.mpr c; have k1 : (62 : Int32).toInt = 62 := ti_62; omega))
        refine lv_aload_n hx hb dX5_compared_28 rfl (lv_at hl 1 rfl) ?_
        refine lv_dup hx hb dX5_compared_29 rfl ?_
        refine sl_gX_4_6_5 (v := v_5) hx hb hts hown hK hP (show f_1 4 6 = v_5 from ev_5.symm) dX5_compared_30 ?_
        refine lv_iconst (v := 1) hx hb dX5_compared_33 ic_1 ?_
        refine lv_iadd hx hb dX5_compared_34 ?_
        refine lv_topi (fun v_45 ev_45 => ?_)
        have q_46 : v_45.toInt = v_5.toInt + 1 := by rw [ev_45]; first | exact cm_add ti_1 (by omega) (by omega) | (have k1 : (1 : Int32).toInt = 1 := ti_1; exact (bn_addI (by omega) (by omega)).trans (by omega))
        refine sl_pX_4_6_5 (x := v_45) hx hb hts hown hh hA hK hP hS dX5_compared_35 (fun f_47 H locs ef_47 hP hS => ?_)
        have hI : sgI loX hiX f_47 := by rw [ef_47]; exact sgI.put hI 4 6 (show 0 ≤ (v_45 : Int32).toInt ∧ (v_45 : Int32).toInt ≤ 120 from ⟨by omega, by omega⟩)
        have hF : sgK WkX5_compared_5 f f_47 := sgK.put hF ef_47 (by rfl)
        refine lv_aload_n hx hb dX5_compared_38 rfl (lv_at hl 1 rfl) ?_
        refine lv_iload_n hx hb dX5_compared_39 rfl (lv_at hl 2 rfl) ?_
        refine sg_callv (va_runV (As := [.int 5]) (rest := []) ⟨hx, hb, hml, hown, hts⟩ (kX5_sum_5 l D ca za h hh f_47 L Q hI H.size) (sl_c5_sum_11_0_0_244_5 hts ⟨Nat.le_of_ble_eq_true rfl, Nat.le_of_ble_eq_true rfl⟩) (sl_vX_4 hA hK hP hS hZ) rfl rfl hl.1 rfl (lv_room (Nat.le_of_ble_eq_true rfl)) dX5_compared_40 ⟨Nat.le_refl _, Nat.le_refl _⟩) hA hS (fun f_48 L_49 Q_50 H locs hq hP hS => ?_)
        obtain ⟨⟨hI, hk_f_48, eL9, eQ9⟩, u_51⟩ := hq
        rw [eL9, eQ9] at hP; clear eL9 eQ9
        have hF : sgK WkX5_compared_5 f f_48 := sgK.tr hF hk_f_48 (by decide +kernel)
        refine lv_aload_n hx hb dX5_compared_43 rfl (lv_at hl 1 rfl) ?_
        refine lv_iload_n hx hb dX5_compared_44 rfl (lv_at hl 0 rfl) ?_
        refine sg_callv (va_runV (As := [.int r_14]) (rest := []) ⟨hx, hb, hml, hown, hts⟩ (kX5_write l D ca za h hh f_48 L Q hI r_14 H.size) (sl_c5_write_0_0_0_0_5 hts ⟨Nat.le_of_ble_eq_true rfl, Nat.le_of_ble_eq_true rfl⟩) (sl_vX_4 hA hK hP hS hZ) rfl rfl hl.1 rfl (lv_room (Nat.le_of_ble_eq_true rfl)) dX5_compared_45 ⟨Nat.le_refl _, Nat.le_refl _⟩) hA hS (fun f_52 L_53 Q_54 H locs hq hP hS => ?_)
        obtain ⟨⟨hI, hk_f_52, eL9, eQ9⟩, u_55⟩ := hq
        rw [eL9, eQ9] at hP; clear eL9 eQ9
        have hF : sgK WkX5_compared_5 f f_52 := sgK.tr hF hk_f_52 (by decide +kernel)
        exact hret _ _ _ _ f_52 L Q dX5_compared_48 hP hS ⟨⟨hI, hF, rfl, rfl⟩, (Eq.trans (Eq.symm (hs.trans ((if_pos c_44).trans (spl_e ev_45 (spl_e ef_47 (spl_e u_51 (spl_e u_55 rfl))))))) hsp)⟩

abbrev WkX5_both_5 : List (Nat × Nat × Option Nat) := [(4, 4, some 6), (4, 4, some 7), (4, 4, some 8), (6, 6, none)]
set_option maxHeartbeats 4000000 in
set_option maxRecDepth 100000 in
theorem kX5_both_5 (l : Launch) (D : va_G) (ca : Nat → ClassId) (za h : Nat → Nat) (hh : sgH 52 h) (f : sg_F) (L : sg_L) (Q : sg_Q) (hI : sgI loX hiX f) (sz : Nat) : Met l yX5_both gwX5_both { frames := 13, cells := 0, slots := 0, locals := 289 } (sgP D vwCl (tyX ca) 52 h (eX ca h) zcX za f L Q sz [.ref (h 4), .int 5]) (sgQv D vwCl 52 h (eX ca h) sz (fun f1 L1 Q1 => ((sgI loX hiX f1 ∧ sgK WkX5_both_5 f f1 ∧ L1 = L ∧ Q1 = Q) ∧ (f1) = sX5_both_5 f L))) 0 0 (sgA 52 h sz) := by
  refine sg_ofWv (cc := cX5_both) (maxL := 3) RX5 (by decide) rfl rfl (Nat.le_of_ble_eq_true rfl) ?_
  intro p e s m below meth cd Qz ls hx hb hml hown hts hK hZ hP hS hl hret
  have hA := sgY.self (n := 52) (h := h) (sz := s.heap.size)
  have hl : lv_has ls 3 [(0, .ref (h 4)), (1, .int 5)] := hl
  obtain ⟨H, hH⟩ : ∃ z : Heap, z = s.heap := ⟨_, rfl⟩
  obtain ⟨locs, hlo⟩ : ∃ z : List Loc, z = [] := ⟨_, rfl⟩
  have hP : va_P D vwCl (sgw 52 h (eX ca h) f L Q) H := by rw [hH]; exact hP
  have hS : va_S (sgA 52 h s.heap.size) s.heap H locs := by rw [hH, hlo]; exact hS
  suffices hgo : W p l e ({ frames := 13, cells := 0, slots := 0, locals := 289 }) s m ([.ref (h 4), .int 5] : List Value).toArray below meth cd H locs 0 0 Qz (F0 m 0 ls []) by rw [hH, hlo] at hgo; exact hgo
  clear hH hlo
  obtain ⟨sp, hsp⟩ : ∃ z : sg_F, z = sX5_both_5 f L := ⟨_, rfl⟩
  have hs : sp = sX5_both_5 f L := hsp
  have hF : sgK WkX5_both_5 f f := sgK.rf
  have loop_7 : ∀ (n_7 : Nat) (y2_7 : Int32) (fp_7 : sg_F) (H : Heap) (locs : List Loc) (ls : Array Slot), sp = sX5_both_5_l7 n_7 y2_7 fp_7 L → 120 - y2_7.toInt < (n_7 : Int) → 0 ≤ y2_7.toInt ∧ y2_7.toInt ≤ 120 → sgI loX hiX fp_7 → sgK WkX5_both_5 f fp_7 → va_P D vwCl (sgw 52 h (eX ca h) fp_7 L Q) H → va_S (sgA 52 h s.heap.size) s.heap H locs → lv_has ls 3 [(0, .ref (h 4)), (1, .int 5), (2, .int y2_7)] → W p l e ({ frames := 13, cells := 0, slots := 0, locals := 289 }) s m ([.ref (h 4), .int 5] : List Value).toArray below meth cd H locs 0 0 Qz (F0 m 7 ls []) := by
    intro n_7
    induction n_7 with
    | zero => intro y2_7 fp_7 H locs ls hs hm_7 hy0_7 hI hF hP hS hl; exact absurd hm_7 (by omega)
    | succ n_7 ih_7 =>
      intro y2_7 fp_7 H locs ls hs hm_7 hy0_7 hI hF hP hS hl
      have hs : sp = sX5_both_5_h7 (sX5_both_5_l7 n_7) y2_7 fp_7 L := hs
      refine lv_iload_n hx hb dX5_both_7 rfl (lv_at hl 2 rfl) ?_
      refine lv_bipush (v := 120) hx hb dX5_both_8 bp_120 ?_
      refine lv_icmp_ge (tgt := 49) hx hb dX5_both_10 (by decide) (fun c => ?_) (fun c => ?_)
      · skip
        have c_1 : 120 ≤ y2_7.toInt := (by first | exact (cm_le0 ti_120 c) | (have z := bn_le c; have k1 : (120 : Int32).toInt = 120 := ti_120; omega))
        exact hret _ _ _ _ fp_7 L Q dX5_both_49 hP hS ⟨⟨hI, hF, rfl, rfl⟩, (Eq.trans (Eq.symm (hs.trans (((if_neg (Int.not_lt.mpr c_1)).trans rfl)))) hsp)⟩
      · skip
        have c_2 : y2_7.toInt < 120 := (by first | exact (cm_nle0 ti_120 c) | (have z := bn_nle c; have k1 : (120 : Int32).toInt = 120 := ti_120; omega))
        refine lv_aload_n hx hb dX5_both_13 rfl (lv_at hl 0 rfl) ?_
        obtain ⟨v_3, ev_3⟩ : ∃ z : Int32, z = fp_7 4 6 := ⟨_, rfl⟩
        have q_4 : 0 ≤ v_3.toInt ∧ v_3.toInt ≤ 120 := by rw [ev_3]; exact hI 4 6
        have q_5 : (fp_7 4 6).toInt = v_3.toInt := (congrArg Int32.toInt (show fp_7 4 6 = v_3 from ev_3.symm))
        obtain ⟨v_6, ev_6⟩ : ∃ z : Int32, z = fp_7 4 1 := ⟨_, rfl⟩
        have q_7 : 0 ≤ v_6.toInt ∧ v_6.toInt ≤ 120 := by rw [ev_6]; exact hI 4 1
        have q_8 : (fp_7 4 1).toInt = v_6.toInt := (congrArg Int32.toInt (show fp_7 4 1 = v_6 from ev_6.symm))
        refine sg_calli (va_runV (As := []) (rest := []) ⟨hx, hb, hml, hown, hts⟩ (kX5_next l D ca za h hh fp_7 L Q hI H.size) (sl_c5_next_0_0_0_0_5 hts ⟨Nat.le_of_ble_eq_true rfl, Nat.le_of_ble_eq_true rfl⟩) (sl_vX_4 hA hK hP hS hZ) rfl rfl hl.1 rfl (lv_room (Nat.le_of_ble_eq_true rfl)) dX5_both_14 ⟨Nat.le_refl _, Nat.le_refl _⟩) hA hS (fun r_12 f_9 L_10 Q_11 H locs hq hP hS => ?_)
        obtain ⟨⟨ef9, eL9, eQ9⟩, hq, p_13, u_14⟩ := hq
        replace hs := hs.trans ((if_pos c_2).trans (spl_e ev_3 (spl_e ev_6 (spl_e u_14 rfl))))
        rw [ef9, eL9, eQ9] at hP; clear ef9 eL9 eQ9
        refine lv_bipush (v := 38) hx hb dX5_both_17 bp_38 ?_
        refine lv_icmp_ne (tgt := 49) hx hb dX5_both_19 (by decide) (fun c => ?_) (fun c => ?_)
        · skip
          have c_15 : r_12.toInt ≠ 38 := (by first | exact (cm_ne1 ti_38 c) | (have z := bn_ne c; have k1 : (38 : Int32).toInt = 38 := ti_38; omega))
          exact hret _ _ _ _ fp_7 L Q dX5_both_49 hP hS ⟨⟨hI, hF, rfl, rfl⟩, (Eq.trans (Eq.symm (hs.trans ((if_neg c_15).trans rfl))) hsp)⟩
        · skip
          have c_16 : r_12.toInt = 38 := (by first | exact (cm_eq1 ti_38 c) | (have z := Int32.toInt_inj.mpr c; have k1 : (38 : Int32).toInt = 38 := ti_38; omega))
          refine lv_aload_n hx hb dX5_both_22 rfl (lv_at hl 0 rfl) ?_
          refine lv_dup hx hb dX5_both_23 rfl ?_
          refine sl_gX_4_6_5 (v := v_3) hx hb hts hown hK hP (show fp_7 4 6 = v_3 from ev_3.symm) dX5_both_24 ?_
          refine lv_iconst (v := 1) hx hb dX5_both_27 ic_1 ?_
          refine lv_iadd hx hb dX5_both_28 ?_
          refine lv_topi (fun v_17 ev_17 => ?_)
          have q_18 : v_17.toInt = v_3.toInt + 1 := by rw [ev_17]; first | exact cm_add ti_1 (by omega) (by omega) | (have k1 : (1 : Int32).toInt = 1 := ti_1; exact (bn_addI (by omega) (by omega)).trans (by omega))
          refine sl_pX_4_6_5 (x := v_17) hx hb hts hown hh hA hK hP hS dX5_both_29 (fun f_19 H locs ef_19 hP hS => ?_)
          have hI : sgI loX hiX f_19 := by rw [ef_19]; exact sgI.put hI 4 6 (show 0 ≤ (v_17 : Int32).toInt ∧ (v_17 : Int32).toInt ≤ 120 from ⟨by omega, by omega⟩)
          have hF : sgK WkX5_both_5 f f_19 := sgK.put hF ef_19 (by rfl)
          refine lv_aload_n hx hb dX5_both_32 rfl (lv_at hl 0 rfl) ?_
          refine lv_iload_n hx hb dX5_both_33 rfl (lv_at hl 1 rfl) ?_
          refine sg_callv (va_runV (As := [.int 5]) (rest := []) ⟨hx, hb, hml, hown, hts⟩ (kX5_compared_5 l D ca za h hh f_19 L Q hI H.size) (sl_c5_compared_12_0_0_267_5 hts ⟨Nat.le_of_ble_eq_true rfl, Nat.le_of_ble_eq_true rfl⟩) (sl_vX_4 hA hK hP hS hZ) rfl rfl hl.1 rfl (lv_room (Nat.le_of_ble_eq_true rfl)) dX5_both_34 ⟨Nat.le_refl _, Nat.le_refl _⟩) hA hS (fun f_20 L_21 Q_22 H locs hq hP hS => ?_)
          obtain ⟨⟨hI, hk_f_20, eL9, eQ9⟩, u_23⟩ := hq
          rw [eL9, eQ9] at hP; clear eL9 eQ9
          have hF : sgK WkX5_both_5 f f_20 := sgK.tr hF hk_f_20 (by decide +kernel)
          refine lv_aload_n hx hb dX5_both_37 rfl (lv_at hl 0 rfl) ?_
          refine lv_bipush (v := 38) hx hb dX5_both_38 bp_38 ?_
          refine sg_callv (va_runV (As := [.int 38]) (rest := []) ⟨hx, hb, hml, hown, hts⟩ (kX5_write l D ca za h hh f_20 L Q hI 38 H.size) (sl_c5_write_0_0_0_0_5 hts ⟨Nat.le_of_ble_eq_true rfl, Nat.le_of_ble_eq_true rfl⟩) (sl_vX_4 hA hK hP hS hZ) rfl rfl hl.1 rfl (lv_room (Nat.le_of_ble_eq_true rfl)) dX5_both_40 ⟨Nat.le_refl _, Nat.le_refl _⟩) hA hS (fun f_24 L_25 Q_26 H locs hq hP hS => ?_)
          obtain ⟨⟨hI, hk_f_24, eL9, eQ9⟩, u_27⟩ := hq
          rw [eL9, eQ9] at hP; clear eL9 eQ9
          have hF : sgK WkX5_both_5 f f_24 := sgK.tr hF hk_f_24 (by decide +kernel)
          obtain ⟨v_28, ev_28⟩ : ∃ z : Int32, z = y2_7 + 1 := ⟨_, rfl⟩
          have q_29 : v_28.toInt = y2_7.toInt + 1 := by rw [ev_28]; exact (bn_addc y2_7 1 (by decide) (by omega) (by omega))
          refine lv_iinc (v := v_28) (lv' := [(2, .int v_28), (0, .ref (h 4)), (1, .int 5)]) hx hb dX5_both_43 hl (k := 2) rfl (by rw [ev_28]; rfl) (by decide) rfl (fun ls hl => ?_)
          refine lv_goto (tgt := 7) hx hb dX5_both_46 (by decide) ?_
          exact ih_7 v_28 f_24 _ _ _ (hs.trans ((if_pos c_16).trans (spl_e ev_17 (spl_e ef_19 (spl_e u_23 (spl_e u_27 (spl_e ev_28 rfl))))))) (by omega) ⟨by omega, by omega⟩ hI hF hP hS (lv_sub hl [1, 2, 0] rfl)
  refine lv_aload_n hx hb dX5_both_0 rfl (lv_at hl 0 rfl) ?_
  refine lv_iload_n hx hb dX5_both_1 rfl (lv_at hl 1 rfl) ?_
  refine sg_callv (va_runV (As := [.int 5]) (rest := []) ⟨hx, hb, hml, hown, hts⟩ (kX5_compared_5 l D ca za h hh f L Q hI H.size) (sl_c5_compared_12_0_0_267_5 hts ⟨Nat.le_of_ble_eq_true rfl, Nat.le_of_ble_eq_true rfl⟩) (sl_vX_4 hA hK hP hS hZ) rfl rfl hl.1 rfl (lv_room (Nat.le_of_ble_eq_true rfl)) dX5_both_2 ⟨Nat.le_refl _, Nat.le_refl _⟩) hA hS (fun f_30 L_31 Q_32 H locs hq hP hS => ?_)
  obtain ⟨⟨hI, hk_f_30, eL9, eQ9⟩, u_33⟩ := hq
  rw [eL9, eQ9] at hP; clear eL9 eQ9
  have hF : sgK WkX5_both_5 f f_30 := sgK.tr hF hk_f_30 (by decide +kernel)
  refine lv_iconst (v := 0) hx hb dX5_both_5 ic_0 ?_
  refine lv_istore_n (lv' := [(2, .int 0), (0, .ref (h 4)), (1, .int 5)]) hx hb dX5_both_6 rfl hl (by decide) rfl (fun ls hl => ?_)
  exact loop_7 121 0 f_30 _ _ _ (hs.trans ((spl_e u_33 rfl))) (by have kc0 : (0 : Int32).toInt = 0 := ti_0; omega) (by decide) hI hF hP hS (lv_sub hl [1, 2, 0] rfl)

abbrev WkX5_either_5 : List (Nat × Nat × Option Nat) := [(4, 4, some 6), (4, 4, some 7), (4, 4, some 8), (6, 6, none)]
set_option maxHeartbeats 4000000 in
set_option maxRecDepth 100000 in
theorem kX5_either_5 (l : Launch) (D : va_G) (ca : Nat → ClassId) (za h : Nat → Nat) (hh : sgH 52 h) (f : sg_F) (L : sg_L) (Q : sg_Q) (hI : sgI loX hiX f) (sz : Nat) : Met l yX5_either gwX5_either { frames := 14, cells := 0, slots := 0, locals := 311 } (sgP D vwCl (tyX ca) 52 h (eX ca h) zcX za f L Q sz [.ref (h 4), .int 5]) (sgQv D vwCl 52 h (eX ca h) sz (fun f1 L1 Q1 => ((sgI loX hiX f1 ∧ sgK WkX5_either_5 f f1 ∧ L1 = L ∧ Q1 = Q) ∧ (f1) = sX5_either_5 f L))) 0 0 (sgA 52 h sz) := by
  refine sg_ofWv (cc := cX5_either) (maxL := 3) RX5 (by decide) rfl rfl (Nat.le_of_ble_eq_true rfl) ?_
  intro p e s m below meth cd Qz ls hx hb hml hown hts hK hZ hP hS hl hret
  have hA := sgY.self (n := 52) (h := h) (sz := s.heap.size)
  have hl : lv_has ls 3 [(0, .ref (h 4)), (1, .int 5)] := hl
  obtain ⟨H, hH⟩ : ∃ z : Heap, z = s.heap := ⟨_, rfl⟩
  obtain ⟨locs, hlo⟩ : ∃ z : List Loc, z = [] := ⟨_, rfl⟩
  have hP : va_P D vwCl (sgw 52 h (eX ca h) f L Q) H := by rw [hH]; exact hP
  have hS : va_S (sgA 52 h s.heap.size) s.heap H locs := by rw [hH, hlo]; exact hS
  suffices hgo : W p l e ({ frames := 14, cells := 0, slots := 0, locals := 311 }) s m ([.ref (h 4), .int 5] : List Value).toArray below meth cd H locs 0 0 Qz (F0 m 0 ls []) by rw [hH, hlo] at hgo; exact hgo
  clear hH hlo
  obtain ⟨sp, hsp⟩ : ∃ z : sg_F, z = sX5_either_5 f L := ⟨_, rfl⟩
  have hs : sp = sX5_either_5 f L := hsp
  have hF : sgK WkX5_either_5 f f := sgK.rf
  have loop_7 : ∀ (n_7 : Nat) (y2_7 : Int32) (fp_7 : sg_F) (H : Heap) (locs : List Loc) (ls : Array Slot), sp = sX5_either_5_l7 n_7 y2_7 fp_7 L → 120 - y2_7.toInt < (n_7 : Int) → 0 ≤ y2_7.toInt ∧ y2_7.toInt ≤ 120 → sgI loX hiX fp_7 → sgK WkX5_either_5 f fp_7 → va_P D vwCl (sgw 52 h (eX ca h) fp_7 L Q) H → va_S (sgA 52 h s.heap.size) s.heap H locs → lv_has ls 3 [(0, .ref (h 4)), (1, .int 5), (2, .int y2_7)] → W p l e ({ frames := 14, cells := 0, slots := 0, locals := 311 }) s m ([.ref (h 4), .int 5] : List Value).toArray below meth cd H locs 0 0 Qz (F0 m 7 ls []) := by
    intro n_7
    induction n_7 with
    | zero => intro y2_7 fp_7 H locs ls hs hm_7 hy0_7 hI hF hP hS hl; exact absurd hm_7 (by omega)
    | succ n_7 ih_7 =>
      intro y2_7 fp_7 H locs ls hs hm_7 hy0_7 hI hF hP hS hl
      have hs : sp = sX5_either_5_h7 (sX5_either_5_l7 n_7) y2_7 fp_7 L := hs
      refine lv_iload_n hx hb dX5_either_7 rfl (lv_at hl 2 rfl) ?_
      refine lv_bipush (v := 120) hx hb dX5_either_8 bp_120 ?_
      refine lv_icmp_ge (tgt := 49) hx hb dX5_either_10 (by decide) (fun c => ?_) (fun c => ?_)
      · skip
        have c_1 : 120 ≤ y2_7.toInt := (by first | exact (cm_le0 ti_120 c) | (have z := bn_le c; have k1 : (120 : Int32).toInt = 120 := ti_120; omega))
        exact hret _ _ _ _ fp_7 L Q dX5_either_49 hP hS ⟨⟨hI, hF, rfl, rfl⟩, (Eq.trans (Eq.symm (hs.trans (((if_neg (Int.not_lt.mpr c_1)).trans rfl)))) hsp)⟩
      · skip
        have c_2 : y2_7.toInt < 120 := (by first | exact (cm_nle0 ti_120 c) | (have z := bn_nle c; have k1 : (120 : Int32).toInt = 120 := ti_120; omega))
        refine lv_aload_n hx hb dX5_either_13 rfl (lv_at hl 0 rfl) ?_
        obtain ⟨v_3, ev_3⟩ : ∃ z : Int32, z = fp_7 4 6 := ⟨_, rfl⟩
        have q_4 : 0 ≤ v_3.toInt ∧ v_3.toInt ≤ 120 := by rw [ev_3]; exact hI 4 6
        have q_5 : (fp_7 4 6).toInt = v_3.toInt := (congrArg Int32.toInt (show fp_7 4 6 = v_3 from ev_3.symm))
        obtain ⟨v_6, ev_6⟩ : ∃ z : Int32, z = fp_7 4 1 := ⟨_, rfl⟩
        have q_7 : 0 ≤ v_6.toInt ∧ v_6.toInt ≤ 120 := by rw [ev_6]; exact hI 4 1
        have q_8 : (fp_7 4 1).toInt = v_6.toInt := (congrArg Int32.toInt (show fp_7 4 1 = v_6 from ev_6.symm))
        refine sg_calli (va_runV (As := []) (rest := []) ⟨hx, hb, hml, hown, hts⟩ (kX5_next l D ca za h hh fp_7 L Q hI H.size) (sl_c5_next_0_0_0_0_5 hts ⟨Nat.le_of_ble_eq_true rfl, Nat.le_of_ble_eq_true rfl⟩) (sl_vX_4 hA hK hP hS hZ) rfl rfl hl.1 rfl (lv_room (Nat.le_of_ble_eq_true rfl)) dX5_either_14 ⟨Nat.le_refl _, Nat.le_refl _⟩) hA hS (fun r_12 f_9 L_10 Q_11 H locs hq hP hS => ?_)
        obtain ⟨⟨ef9, eL9, eQ9⟩, hq, p_13, u_14⟩ := hq
        replace hs := hs.trans ((if_pos c_2).trans (spl_e ev_3 (spl_e ev_6 (spl_e u_14 rfl))))
        rw [ef9, eL9, eQ9] at hP; clear ef9 eL9 eQ9
        refine lv_bipush (v := 124) hx hb dX5_either_17 bp_124 ?_
        refine lv_icmp_ne (tgt := 49) hx hb dX5_either_19 (by decide) (fun c => ?_) (fun c => ?_)
        · skip
          have c_15 : r_12.toInt ≠ 124 := (by first | exact (cm_ne1 ti_124 c) | (have z := bn_ne c; have k1 : (124 : Int32).toInt = 124 := ti_124; omega))
          exact hret _ _ _ _ fp_7 L Q dX5_either_49 hP hS ⟨⟨hI, hF, rfl, rfl⟩, (Eq.trans (Eq.symm (hs.trans ((if_neg c_15).trans rfl))) hsp)⟩
        · skip
          have c_16 : r_12.toInt = 124 := (by first | exact (cm_eq1 ti_124 c) | (have z := Int32.toInt_inj.mpr c; have k1 : (124 : Int32).toInt = 124 := ti_124; omega))
          refine lv_aload_n hx hb dX5_either_22 rfl (lv_at hl 0 rfl) ?_
          refine lv_dup hx hb dX5_either_23 rfl ?_
          refine sl_gX_4_6_5 (v := v_3) hx hb hts hown hK hP (show fp_7 4 6 = v_3 from ev_3.symm) dX5_either_24 ?_
          refine lv_iconst (v := 1) hx hb dX5_either_27 ic_1 ?_
          refine lv_iadd hx hb dX5_either_28 ?_
          refine lv_topi (fun v_17 ev_17 => ?_)
          have q_18 : v_17.toInt = v_3.toInt + 1 := by rw [ev_17]; first | exact cm_add ti_1 (by omega) (by omega) | (have k1 : (1 : Int32).toInt = 1 := ti_1; exact (bn_addI (by omega) (by omega)).trans (by omega))
          refine sl_pX_4_6_5 (x := v_17) hx hb hts hown hh hA hK hP hS dX5_either_29 (fun f_19 H locs ef_19 hP hS => ?_)
          have hI : sgI loX hiX f_19 := by rw [ef_19]; exact sgI.put hI 4 6 (show 0 ≤ (v_17 : Int32).toInt ∧ (v_17 : Int32).toInt ≤ 120 from ⟨by omega, by omega⟩)
          have hF : sgK WkX5_either_5 f f_19 := sgK.put hF ef_19 (by rfl)
          refine lv_aload_n hx hb dX5_either_32 rfl (lv_at hl 0 rfl) ?_
          refine lv_iload_n hx hb dX5_either_33 rfl (lv_at hl 1 rfl) ?_
          refine sg_callv (va_runV (As := [.int 5]) (rest := []) ⟨hx, hb, hml, hown, hts⟩ (kX5_both_5 l D ca za h hh f_19 L Q hI H.size) (sl_c5_both_13_0_0_289_5 hts ⟨Nat.le_of_ble_eq_true rfl, Nat.le_of_ble_eq_true rfl⟩) (sl_vX_4 hA hK hP hS hZ) rfl rfl hl.1 rfl (lv_room (Nat.le_of_ble_eq_true rfl)) dX5_either_34 ⟨Nat.le_refl _, Nat.le_refl _⟩) hA hS (fun f_20 L_21 Q_22 H locs hq hP hS => ?_)
          obtain ⟨⟨hI, hk_f_20, eL9, eQ9⟩, u_23⟩ := hq
          rw [eL9, eQ9] at hP; clear eL9 eQ9
          have hF : sgK WkX5_either_5 f f_20 := sgK.tr hF hk_f_20 (by decide +kernel)
          refine lv_aload_n hx hb dX5_either_37 rfl (lv_at hl 0 rfl) ?_
          refine lv_bipush (v := 124) hx hb dX5_either_38 bp_124 ?_
          refine sg_callv (va_runV (As := [.int 124]) (rest := []) ⟨hx, hb, hml, hown, hts⟩ (kX5_write l D ca za h hh f_20 L Q hI 124 H.size) (sl_c5_write_0_0_0_0_5 hts ⟨Nat.le_of_ble_eq_true rfl, Nat.le_of_ble_eq_true rfl⟩) (sl_vX_4 hA hK hP hS hZ) rfl rfl hl.1 rfl (lv_room (Nat.le_of_ble_eq_true rfl)) dX5_either_40 ⟨Nat.le_refl _, Nat.le_refl _⟩) hA hS (fun f_24 L_25 Q_26 H locs hq hP hS => ?_)
          obtain ⟨⟨hI, hk_f_24, eL9, eQ9⟩, u_27⟩ := hq
          rw [eL9, eQ9] at hP; clear eL9 eQ9
          have hF : sgK WkX5_either_5 f f_24 := sgK.tr hF hk_f_24 (by decide +kernel)
          obtain ⟨v_28, ev_28⟩ : ∃ z : Int32, z = y2_7 + 1 := ⟨_, rfl⟩
          have q_29 : v_28.toInt = y2_7.toInt + 1 := by rw [ev_28]; exact (bn_addc y2_7 1 (by decide) (by omega) (by omega))
          refine lv_iinc (v := v_28) (lv' := [(2, .int v_28), (0, .ref (h 4)), (1, .int 5)]) hx hb dX5_either_43 hl (k := 2) rfl (by rw [ev_28]; rfl) (by decide) rfl (fun ls hl => ?_)
          refine lv_goto (tgt := 7) hx hb dX5_either_46 (by decide) ?_
          exact ih_7 v_28 f_24 _ _ _ (hs.trans ((if_pos c_16).trans (spl_e ev_17 (spl_e ef_19 (spl_e u_23 (spl_e u_27 (spl_e ev_28 rfl))))))) (by omega) ⟨by omega, by omega⟩ hI hF hP hS (lv_sub hl [1, 2, 0] rfl)
  refine lv_aload_n hx hb dX5_either_0 rfl (lv_at hl 0 rfl) ?_
  refine lv_iload_n hx hb dX5_either_1 rfl (lv_at hl 1 rfl) ?_
  refine sg_callv (va_runV (As := [.int 5]) (rest := []) ⟨hx, hb, hml, hown, hts⟩ (kX5_both_5 l D ca za h hh f L Q hI H.size) (sl_c5_both_13_0_0_289_5 hts ⟨Nat.le_of_ble_eq_true rfl, Nat.le_of_ble_eq_true rfl⟩) (sl_vX_4 hA hK hP hS hZ) rfl rfl hl.1 rfl (lv_room (Nat.le_of_ble_eq_true rfl)) dX5_either_2 ⟨Nat.le_refl _, Nat.le_refl _⟩) hA hS (fun f_30 L_31 Q_32 H locs hq hP hS => ?_)
  obtain ⟨⟨hI, hk_f_30, eL9, eQ9⟩, u_33⟩ := hq
  rw [eL9, eQ9] at hP; clear eL9 eQ9
  have hF : sgK WkX5_either_5 f f_30 := sgK.tr hF hk_f_30 (by decide +kernel)
  refine lv_iconst (v := 0) hx hb dX5_either_5 ic_0 ?_
  refine lv_istore_n (lv' := [(2, .int 0), (0, .ref (h 4)), (1, .int 5)]) hx hb dX5_either_6 rfl hl (by decide) rfl (fun ls hl => ?_)
  exact loop_7 121 0 f_30 _ _ _ (hs.trans ((spl_e u_33 rfl))) (by have kc0 : (0 : Int32).toInt = 0 := ti_0; omega) (by decide) hI hF hP hS (lv_sub hl [1, 2, 0] rfl)

abbrev WkX5_opened_5 : List (Nat × Nat × Option Nat) := [(4, 4, some 6), (4, 4, some 7), (4, 4, some 8), (6, 6, none)]
set_option maxHeartbeats 4000000 in
set_option maxRecDepth 100000 in
theorem kX5_opened_5 (l : Launch) (D : va_G) (ca : Nat → ClassId) (za h : Nat → Nat) (hh : sgH 52 h) (f : sg_F) (L : sg_L) (Q : sg_Q) (hI : sgI loX hiX f) (x0 : Int32) (b0 : 33 ≤ x0.toInt ∧ x0.toInt ≤ 49) (sz : Nat) : Met l yX5_opened gwX5_opened { frames := 15, cells := 0, slots := 0, locals := 333 } (sgP D vwCl (tyX ca) 52 h (eX ca h) zcX za f L Q sz [.ref (h 4), .int x0, .int 5]) (sgQv D vwCl 52 h (eX ca h) sz (fun f1 L1 Q1 => ((sgI loX hiX f1 ∧ sgK WkX5_opened_5 f f1 ∧ L1 = L ∧ Q1 = Q) ∧ (f1) = sX5_opened_5 x0 f L))) 0 0 (sgA 52 h sz) := by
  refine sg_ofWv (cc := cX5_opened) (maxL := 3) RX5 (by decide) rfl rfl (Nat.le_of_ble_eq_true rfl) ?_
  intro p e s m below meth cd Qz ls hx hb hml hown hts hK hZ hP hS hl hret
  have hA := sgY.self (n := 52) (h := h) (sz := s.heap.size)
  have hl : lv_has ls 3 [(0, .ref (h 4)), (1, .int x0), (2, .int 5)] := hl
  obtain ⟨H, hH⟩ : ∃ z : Heap, z = s.heap := ⟨_, rfl⟩
  obtain ⟨locs, hlo⟩ : ∃ z : List Loc, z = [] := ⟨_, rfl⟩
  have hP : va_P D vwCl (sgw 52 h (eX ca h) f L Q) H := by rw [hH]; exact hP
  have hS : va_S (sgA 52 h s.heap.size) s.heap H locs := by rw [hH, hlo]; exact hS
  suffices hgo : W p l e ({ frames := 15, cells := 0, slots := 0, locals := 333 }) s m ([.ref (h 4), .int x0, .int 5] : List Value).toArray below meth cd H locs 0 0 Qz (F0 m 0 ls []) by rw [hH, hlo] at hgo; exact hgo
  clear hH hlo
  obtain ⟨sp, hsp⟩ : ∃ z : sg_F, z = sX5_opened_5 x0 f L := ⟨_, rfl⟩
  have hs : sp = sX5_opened_5 x0 f L := hsp
  have hF : sgK WkX5_opened_5 f f := sgK.rf
  refine lv_iload_n hx hb dX5_opened_0 rfl (lv_at hl 1 rfl) ?_
  refine lv_bipush (v := 40) hx hb dX5_opened_1 bp_40 ?_
  refine lv_icmp_eq (tgt := 29) hx hb dX5_opened_3 (by decide) (fun c => ?_) (fun c => ?_)
  · skip
    have c_1 : x0.toInt = 40 := (by first | exact (cm_eq1 ti_40 c) | (have z := Int32.toInt_inj.mpr c; have k1 : (40 : Int32).toInt = 40 := ti_40; omega))
    refine lv_aload_n hx hb dX5_opened_29 rfl (lv_at hl 0 rfl) ?_
    refine lv_iload_n hx hb dX5_opened_30 rfl (lv_at hl 2 rfl) ?_
    refine sg_callv (va_runV (As := [.int 5]) (rest := []) ⟨hx, hb, hml, hown, hts⟩ (kX5_either_5 l D ca za h hh f L Q hI H.size) (sl_c5_either_14_0_0_311_5 hts ⟨Nat.le_of_ble_eq_true rfl, Nat.le_of_ble_eq_true rfl⟩) (sl_vX_4 hA hK hP hS hZ) rfl rfl hl.1 rfl (lv_room (Nat.le_of_ble_eq_true rfl)) dX5_opened_31 ⟨Nat.le_refl _, Nat.le_refl _⟩) hA hS (fun f_3 L_4 Q_5 H locs hq hP hS => ?_)
    obtain ⟨⟨hI, hk_f_3, eL9, eQ9⟩, u_6⟩ := hq
    rw [eL9, eQ9] at hP; clear eL9 eQ9
    have hF : sgK WkX5_opened_5 f f_3 := sgK.tr hF hk_f_3 (by decide +kernel)
    refine lv_aload_n hx hb dX5_opened_34 rfl (lv_at hl 0 rfl) ?_
    obtain ⟨v_7, ev_7⟩ : ∃ z : Int32, z = f_3 4 6 := ⟨_, rfl⟩
    have q_8 : 0 ≤ v_7.toInt ∧ v_7.toInt ≤ 120 := by rw [ev_7]; exact hI 4 6
    have q_9 : (f_3 4 6).toInt = v_7.toInt := (congrArg Int32.toInt (show f_3 4 6 = v_7 from ev_7.symm))
    obtain ⟨v_10, ev_10⟩ : ∃ z : Int32, z = f_3 4 1 := ⟨_, rfl⟩
    have q_11 : 0 ≤ v_10.toInt ∧ v_10.toInt ≤ 120 := by rw [ev_10]; exact hI 4 1
    have q_12 : (f_3 4 1).toInt = v_10.toInt := (congrArg Int32.toInt (show f_3 4 1 = v_10 from ev_10.symm))
    refine sg_calli (va_runV (As := []) (rest := []) ⟨hx, hb, hml, hown, hts⟩ (kX5_next l D ca za h hh f_3 L Q hI H.size) (sl_c5_next_0_0_0_0_5 hts ⟨Nat.le_of_ble_eq_true rfl, Nat.le_of_ble_eq_true rfl⟩) (sl_vX_4 hA hK hP hS hZ) rfl rfl hl.1 rfl (lv_room (Nat.le_of_ble_eq_true rfl)) dX5_opened_35 ⟨Nat.le_refl _, Nat.le_refl _⟩) hA hS (fun r_16 f_13 L_14 Q_15 H locs hq hP hS => ?_)
    obtain ⟨⟨ef9, eL9, eQ9⟩, hq, p_17, u_18⟩ := hq
    replace hs := hs.trans ((if_pos c_1).trans (spl_e u_6 (spl_e ev_7 (spl_e ev_10 (spl_e u_18 rfl)))))
    rw [ef9, eL9, eQ9] at hP; clear ef9 eL9 eQ9
    refine lv_bipush (v := 41) hx hb dX5_opened_38 bp_41 ?_
    refine lv_icmp_ne (tgt := 56) hx hb dX5_opened_40 (by decide) (fun c => ?_) (fun c => ?_)
    · skip
      have c_19 : r_16.toInt ≠ 41 := (by first | exact (cm_ne1 ti_41 c) | (have z := bn_ne c; have k1 : (41 : Int32).toInt = 41 := ti_41; omega))
      refine lv_aload_n hx hb dX5_opened_56 rfl (lv_at hl 0 rfl) ?_
      refine sg_callv (va_runV (As := []) (rest := []) ⟨hx, hb, hml, hown, hts⟩ (kX5_fail l D ca za h hh f_3 L Q hI H.size) (sl_c5_fail_0_0_0_0_5 hts ⟨Nat.le_of_ble_eq_true rfl, Nat.le_of_ble_eq_true rfl⟩) (sl_vX_4 hA hK hP hS hZ) rfl rfl hl.1 rfl (lv_room (Nat.le_of_ble_eq_true rfl)) dX5_opened_57 ⟨Nat.le_refl _, Nat.le_refl _⟩) hA hS (fun f_21 L_22 Q_23 H locs hq hP hS => ?_)
      obtain ⟨⟨hI, hk_f_21, eL9, eQ9⟩, u_24⟩ := hq
      rw [eL9, eQ9] at hP; clear eL9 eQ9
      have hF : sgK WkX5_opened_5 f f_21 := sgK.tr hF hk_f_21 (by decide +kernel)
      exact hret _ _ _ _ f_21 L Q dX5_opened_60 hP hS ⟨⟨hI, hF, rfl, rfl⟩, (Eq.trans (Eq.symm (hs.trans ((if_neg c_19).trans (spl_e u_24 rfl)))) hsp)⟩
    · skip
      have c_20 : r_16.toInt = 41 := (by first | exact (cm_eq1 ti_41 c) | (have z := Int32.toInt_inj.mpr c; have k1 : (41 : Int32).toInt = 41 := ti_41; omega))
      refine lv_aload_n hx hb dX5_opened_43 rfl (lv_at hl 0 rfl) ?_
      refine lv_dup hx hb dX5_opened_44 rfl ?_
      refine sl_gX_4_6_5 (v := v_7) hx hb hts hown hK hP (show f_3 4 6 = v_7 from ev_7.symm) dX5_opened_45 ?_
      refine lv_iconst (v := 1) hx hb dX5_opened_48 ic_1 ?_
      refine lv_iadd hx hb dX5_opened_49 ?_
      refine lv_topi (fun v_25 ev_25 => ?_)
      have q_26 : v_25.toInt = v_7.toInt + 1 := by rw [ev_25]; first | exact cm_add ti_1 (by omega) (by omega) | (have k1 : (1 : Int32).toInt = 1 := ti_1; exact (bn_addI (by omega) (by omega)).trans (by omega))
      refine sl_pX_4_6_5 (x := v_25) hx hb hts hown hh hA hK hP hS dX5_opened_50 (fun f_27 H locs ef_27 hP hS => ?_)
      have hI : sgI loX hiX f_27 := by rw [ef_27]; exact sgI.put hI 4 6 (show 0 ≤ (v_25 : Int32).toInt ∧ (v_25 : Int32).toInt ≤ 120 from ⟨by omega, by omega⟩)
      have hF : sgK WkX5_opened_5 f f_27 := sgK.put hF ef_27 (by rfl)
      refine lv_goto (tgt := 60) hx hb dX5_opened_53 (by decide) ?_
      exact hret _ _ _ _ f_27 L Q dX5_opened_60 hP hS ⟨⟨hI, hF, rfl, rfl⟩, (Eq.trans (Eq.symm (hs.trans ((if_pos c_20).trans (spl_e ev_25 (spl_e ef_27 rfl))))) hsp)⟩
  · skip
    have c_2 : x0.toInt ≠ 40 := (by first | exact (cm_ne1 ti_40 c) | (have z := bn_ne c; have k1 : (40 : Int32).toInt = 40 := ti_40; omega))
    refine lv_aload_n hx hb dX5_opened_6 rfl (lv_at hl 0 rfl) ?_
    refine lv_iload_n hx hb dX5_opened_7 rfl (lv_at hl 2 rfl) ?_
    refine sg_callv (va_runV (As := [.int 5]) (rest := []) ⟨hx, hb, hml, hown, hts⟩ (kX5_operand_5 l D ca za h hh f L Q hI H.size) (sl_c5_operand_9_0_0_199_5 hts ⟨Nat.le_of_ble_eq_true rfl, Nat.le_of_ble_eq_true rfl⟩) (sl_vX_4 hA hK hP hS hZ) rfl rfl hl.1 rfl (lv_room (Nat.le_of_ble_eq_true rfl)) dX5_opened_8 ⟨Nat.le_refl _, Nat.le_refl _⟩) hA hS (fun f_28 L_29 Q_30 H locs hq hP hS => ?_)
    obtain ⟨⟨hI, hk_f_28, eL9, eQ9⟩, u_31⟩ := hq
    replace hs := hs.trans ((if_neg c_2).trans (spl_e u_31 rfl))
    rw [eL9, eQ9] at hP; clear eL9 eQ9
    have hF : sgK WkX5_opened_5 f f_28 := sgK.tr hF hk_f_28 (by decide +kernel)
    refine lv_aload_n hx hb dX5_opened_11 rfl (lv_at hl 0 rfl) ?_
    refine lv_iload_n hx hb dX5_opened_12 rfl (lv_at hl 1 rfl) ?_
    refine lv_bipush (v := 33) hx hb dX5_opened_13 bp_33 ?_
    refine lv_icmp_ne (tgt := 23) hx hb dX5_opened_15 (by decide) (fun c => ?_) (fun c => ?_)
    · skip
      have c_32 : x0.toInt ≠ 33 := (by first | exact (cm_ne1 ti_33 c) | (have z := bn_ne c; have k1 : (33 : Int32).toInt = 33 := ti_33; omega))
      refine lv_bipush (v := 126) hx hb dX5_opened_23 bp_126 ?_
      refine sg_callv (va_runV (As := [.int 126]) (rest := []) ⟨hx, hb, hml, hown, hts⟩ (kX5_write l D ca za h hh f_28 L Q hI 126 H.size) (sl_c5_write_0_0_0_0_5 hts ⟨Nat.le_of_ble_eq_true rfl, Nat.le_of_ble_eq_true rfl⟩) (sl_vX_4 hA hK hP hS hZ) rfl rfl hl.1 rfl (lv_room (Nat.le_of_ble_eq_true rfl)) dX5_opened_25 ⟨Nat.le_refl _, Nat.le_refl _⟩) hA hS (fun f_34 L_35 Q_36 H locs hq hP hS => ?_)
      obtain ⟨⟨hI, hk_f_34, eL9, eQ9⟩, u_37⟩ := hq
      rw [eL9, eQ9] at hP; clear eL9 eQ9
      have hF : sgK WkX5_opened_5 f f_34 := sgK.tr hF hk_f_34 (by decide +kernel)
      exact hret _ _ _ _ f_34 L Q dX5_opened_28 hP hS ⟨⟨hI, hF, rfl, rfl⟩, (Eq.trans (Eq.symm (hs.trans ((if_neg c_32).trans (spl_e u_37 rfl)))) hsp)⟩
    · skip
      have c_33 : x0.toInt = 33 := (by first | exact (cm_eq1 ti_33 c) | (have z := Int32.toInt_inj.mpr c; have k1 : (33 : Int32).toInt = 33 := ti_33; omega))
      refine lv_bipush (v := 33) hx hb dX5_opened_18 bp_33 ?_
      refine lv_goto (tgt := 25) hx hb dX5_opened_20 (by decide) ?_
      refine sg_callv (va_runV (As := [.int 33]) (rest := []) ⟨hx, hb, hml, hown, hts⟩ (kX5_write l D ca za h hh f_28 L Q hI 33 H.size) (sl_c5_write_0_0_0_0_5 hts ⟨Nat.le_of_ble_eq_true rfl, Nat.le_of_ble_eq_true rfl⟩) (sl_vX_4 hA hK hP hS hZ) rfl rfl hl.1 rfl (lv_room (Nat.le_of_ble_eq_true rfl)) dX5_opened_25 ⟨Nat.le_refl _, Nat.le_refl _⟩) hA hS (fun f_38 L_39 Q_40 H locs hq hP hS => ?_)
      obtain ⟨⟨hI, hk_f_38, eL9, eQ9⟩, u_41⟩ := hq
      rw [eL9, eQ9] at hP; clear eL9 eQ9
      have hF : sgK WkX5_opened_5 f f_38 := sgK.tr hF hk_f_38 (by decide +kernel)
      exact hret _ _ _ _ f_38 L Q dX5_opened_28 hP hS ⟨⟨hI, hF, rfl, rfl⟩, (Eq.trans (Eq.symm (hs.trans ((if_pos c_33).trans (spl_e u_41 rfl)))) hsp)⟩

abbrev WkX5_operand_4 : List (Nat × Nat × Option Nat) := [(4, 4, some 6), (4, 4, some 7), (4, 4, some 8), (6, 6, none)]
set_option maxHeartbeats 4000000 in
set_option maxRecDepth 100000 in
theorem kX5_operand_4 (l : Launch) (D : va_G) (ca : Nat → ClassId) (za h : Nat → Nat) (hh : sgH 52 h) (f : sg_F) (L : sg_L) (Q : sg_Q) (hI : sgI loX hiX f) (sz : Nat) : Met l yX5_operand gwX5_operand { frames := 16, cells := 0, slots := 0, locals := 355 } (sgP D vwCl (tyX ca) 52 h (eX ca h) zcX za f L Q sz [.ref (h 4), .int 4]) (sgQv D vwCl 52 h (eX ca h) sz (fun f1 L1 Q1 => ((sgI loX hiX f1 ∧ sgK WkX5_operand_4 f f1 ∧ L1 = L ∧ Q1 = Q) ∧ (f1) = sX5_operand_4 f L))) 0 0 (sgA 52 h sz) := by
  refine sg_ofWv (cc := cX5_operand) (maxL := 3) RX5 (by decide) rfl rfl (Nat.le_of_ble_eq_true rfl) ?_
  intro p e s m below meth cd Qz ls hx hb hml hown hts hK hZ hP hS hl hret
  have hA := sgY.self (n := 52) (h := h) (sz := s.heap.size)
  have hl : lv_has ls 3 [(0, .ref (h 4)), (1, .int 4)] := hl
  obtain ⟨H, hH⟩ : ∃ z : Heap, z = s.heap := ⟨_, rfl⟩
  obtain ⟨locs, hlo⟩ : ∃ z : List Loc, z = [] := ⟨_, rfl⟩
  have hP : va_P D vwCl (sgw 52 h (eX ca h) f L Q) H := by rw [hH]; exact hP
  have hS : va_S (sgA 52 h s.heap.size) s.heap H locs := by rw [hH, hlo]; exact hS
  suffices hgo : W p l e ({ frames := 16, cells := 0, slots := 0, locals := 355 }) s m ([.ref (h 4), .int 4] : List Value).toArray below meth cd H locs 0 0 Qz (F0 m 0 ls []) by rw [hH, hlo] at hgo; exact hgo
  clear hH hlo
  obtain ⟨sp, hsp⟩ : ∃ z : sg_F, z = sX5_operand_4 f L := ⟨_, rfl⟩
  have hs : sp = sX5_operand_4 f L := hsp
  have hF : sgK WkX5_operand_4 f f := sgK.rf
  refine lv_aload_n hx hb dX5_operand_0 rfl (lv_at hl 0 rfl) ?_
  obtain ⟨v_1, ev_1⟩ : ∃ z : Int32, z = f 4 6 := ⟨_, rfl⟩
  have q_2 : 0 ≤ v_1.toInt ∧ v_1.toInt ≤ 120 := by rw [ev_1]; exact hI 4 6
  have q_3 : (f 4 6).toInt = v_1.toInt := (congrArg Int32.toInt (show f 4 6 = v_1 from ev_1.symm))
  obtain ⟨v_4, ev_4⟩ : ∃ z : Int32, z = f 4 1 := ⟨_, rfl⟩
  have q_5 : 0 ≤ v_4.toInt ∧ v_4.toInt ≤ 120 := by rw [ev_4]; exact hI 4 1
  have q_6 : (f 4 1).toInt = v_4.toInt := (congrArg Int32.toInt (show f 4 1 = v_4 from ev_4.symm))
  refine sg_calli (va_runV (As := []) (rest := []) ⟨hx, hb, hml, hown, hts⟩ (kX5_next l D ca za h hh f L Q hI H.size) (sl_c5_next_0_0_0_0_5 hts ⟨Nat.le_of_ble_eq_true rfl, Nat.le_of_ble_eq_true rfl⟩) (sl_vX_4 hA hK hP hS hZ) rfl rfl hl.1 rfl (lv_room (Nat.le_of_ble_eq_true rfl)) dX5_operand_1 ⟨Nat.le_refl _, Nat.le_refl _⟩) hA hS (fun r_10 f_7 L_8 Q_9 H locs hq hP hS => ?_)
  obtain ⟨⟨ef9, eL9, eQ9⟩, hq, p_11, u_12⟩ := hq
  rw [ef9, eL9, eQ9] at hP; clear ef9 eL9 eQ9
  refine lv_istore_n (lv' := [(2, .int r_10), (0, .ref (h 4)), (1, .int 4)]) hx hb dX5_operand_4 rfl hl (by decide) rfl (fun ls hl => ?_)
  refine lv_iload_n hx hb dX5_operand_5 rfl (lv_at hl 0 rfl) ?_
  refine sg_calli (va_runS (As := [.int r_10]) (rest := []) ⟨hx, hb, hml, hown, hts⟩ (kX5_isDigit l D ca za h hh f L Q hI r_10 ⟨by omega, by omega⟩ H.size) (va_cwS 1 hts (gw_S (fun _ h => List.mem_cons_of_mem _ h) mw_505 mw_506 mw_73 mw_504) rfl rfl rfl hd_yX5_isDigit.2 ⟨Nat.le_of_ble_eq_true rfl, Nat.le_of_ble_eq_true rfl⟩) (sg_preS hA hK hP hS hZ) rfl rfl hl.1 rfl (lv_room (Nat.le_of_ble_eq_true rfl)) dX5_operand_6 ⟨Nat.le_refl _, Nat.le_refl _⟩) hA hS (fun r_16 f_13 L_14 Q_15 H locs hq hP hS => ?_)
  obtain ⟨⟨ef9, eL9, eQ9⟩, hq, u_17⟩ := hq
  replace hs := hs.trans (spl_e ev_1 (spl_e ev_4 (spl_e u_12 (spl_e u_17 rfl))))
  rw [ef9, eL9, eQ9] at hP; clear ef9 eL9 eQ9
  rcases hq with ⟨rfl, hq⟩ | ⟨rfl, hq⟩
  · skip
    have hc_18 := hq
    refine lv_if_eq (tgt := 19) hx hb dX5_operand_9 (by decide) (fun c => absurd c (by decide)) (fun c => ?_)
    refine lv_aload_n hx hb dX5_operand_12 rfl (lv_at hl 1 rfl) ?_
    refine sg_callv (va_runV (As := []) (rest := []) ⟨hx, hb, hml, hown, hts⟩ (kX5_number l D ca za h hh f L Q hI H.size) (sl_c5_number_1_0_0_21_5 hts ⟨Nat.le_of_ble_eq_true rfl, Nat.le_of_ble_eq_true rfl⟩) (sl_vX_4 hA hK hP hS hZ) rfl rfl hl.1 rfl (lv_room (Nat.le_of_ble_eq_true rfl)) dX5_operand_13 ⟨Nat.le_refl _, Nat.le_refl _⟩) hA hS (fun f_19 L_20 Q_21 H locs hq hP hS => ?_)
    obtain ⟨⟨hI, hk_f_19, eL9, eQ9⟩, u_22⟩ := hq
    rw [eL9, eQ9] at hP; clear eL9 eQ9
    have hF : sgK WkX5_operand_4 f f_19 := sgK.tr hF hk_f_19 (by decide +kernel)
    refine lv_goto (tgt := 93) hx hb dX5_operand_16 (by decide) ?_
    exact hret _ _ _ _ f_19 L Q dX5_operand_93 hP hS ⟨⟨hI, hF, rfl, rfl⟩, (Eq.trans (Eq.symm (hs.trans ((if_pos rfl).trans (spl_e u_22 rfl)))) hsp)⟩
  · skip
    have hc_18 := hq
    refine lv_if_eq (tgt := 19) hx hb dX5_operand_9 (by decide) (fun c => ?_) (fun c => absurd c (by decide))
    refine lv_iload_n hx hb dX5_operand_19 rfl (lv_at hl 0 rfl) ?_
    refine sg_calli (va_runS (As := [.int r_10]) (rest := []) ⟨hx, hb, hml, hown, hts⟩ (kX5_isName l D ca za h hh f L Q hI r_10 ⟨by omega, by omega⟩ H.size) (va_cwS 1 hts (gw_S (fun _ h => List.mem_cons_of_mem _ h) mw_525 mw_526 mw_73 mw_524) rfl rfl rfl hd_yX5_isName.2 ⟨Nat.le_of_ble_eq_true rfl, Nat.le_of_ble_eq_true rfl⟩) (sg_preS hA hK hP hS hZ) rfl rfl hl.1 rfl (lv_room (Nat.le_of_ble_eq_true rfl)) dX5_operand_20 ⟨Nat.le_refl _, Nat.le_refl _⟩) hA hS (fun r_26 f_23 L_24 Q_25 H locs hq hP hS => ?_)
    obtain ⟨⟨ef9, eL9, eQ9⟩, hq, u_27⟩ := hq
    replace hs := hs.trans ((if_neg (by decide)).trans (spl_e u_27 rfl))
    rw [ef9, eL9, eQ9] at hP; clear ef9 eL9 eQ9
    rcases hq with ⟨rfl, hq⟩ | ⟨rfl, hq⟩
    · skip
      have hc_28 := hq
      refine lv_if_eq (tgt := 44) hx hb dX5_operand_23 (by decide) (fun c => absurd c (by decide)) (fun c => ?_)
      refine lv_aload_n hx hb dX5_operand_26 rfl (lv_at hl 1 rfl) ?_
      refine lv_dup hx hb dX5_operand_27 rfl ?_
      refine sl_gX_4_6_5 (v := v_1) hx hb hts hown hK hP (show f 4 6 = v_1 from ev_1.symm) dX5_operand_28 ?_
      refine lv_iconst (v := 1) hx hb dX5_operand_31 ic_1 ?_
      refine lv_iadd hx hb dX5_operand_32 ?_
      refine lv_topi (fun v_29 ev_29 => ?_)
      have q_30 : v_29.toInt = v_1.toInt + 1 := by rw [ev_29]; first | exact cm_add ti_1 (by omega) (by omega) | (have k1 : (1 : Int32).toInt = 1 := ti_1; exact (bn_addI (by omega) (by omega)).trans (by omega))
      refine sl_pX_4_6_5 (x := v_29) hx hb hts hown hh hA hK hP hS dX5_operand_33 (fun f_31 H locs ef_31 hP hS => ?_)
      have hI : sgI loX hiX f_31 := by rw [ef_31]; exact sgI.put hI 4 6 (show 0 ≤ (v_29 : Int32).toInt ∧ (v_29 : Int32).toInt ≤ 120 from ⟨by omega, by omega⟩)
      have hF : sgK WkX5_operand_4 f f_31 := sgK.put hF ef_31 (by rfl)
      refine lv_aload_n hx hb dX5_operand_36 rfl (lv_at hl 1 rfl) ?_
      refine lv_iload_n hx hb dX5_operand_37 rfl (lv_at hl 0 rfl) ?_
      refine sg_callv (va_runV (As := [.int r_10]) (rest := []) ⟨hx, hb, hml, hown, hts⟩ (kX5_write l D ca za h hh f_31 L Q hI r_10 H.size) (sl_c5_write_0_0_0_0_5 hts ⟨Nat.le_of_ble_eq_true rfl, Nat.le_of_ble_eq_true rfl⟩) (sl_vX_4 hA hK hP hS hZ) rfl rfl hl.1 rfl (lv_room (Nat.le_of_ble_eq_true rfl)) dX5_operand_38 ⟨Nat.le_refl _, Nat.le_refl _⟩) hA hS (fun f_32 L_33 Q_34 H locs hq hP hS => ?_)
      obtain ⟨⟨hI, hk_f_32, eL9, eQ9⟩, u_35⟩ := hq
      rw [eL9, eQ9] at hP; clear eL9 eQ9
      have hF : sgK WkX5_operand_4 f f_32 := sgK.tr hF hk_f_32 (by decide +kernel)
      refine lv_goto (tgt := 93) hx hb dX5_operand_41 (by decide) ?_
      exact hret _ _ _ _ f_32 L Q dX5_operand_93 hP hS ⟨⟨hI, hF, rfl, rfl⟩, (Eq.trans (Eq.symm (hs.trans ((if_pos rfl).trans (spl_e ev_29 (spl_e ef_31 (spl_e u_35 rfl)))))) hsp)⟩
    · skip
      have hc_28 := hq
      refine lv_if_eq (tgt := 44) hx hb dX5_operand_23 (by decide) (fun c => ?_) (fun c => absurd c (by decide))
      refine lv_iload_n hx hb dX5_operand_44 rfl (lv_at hl 0 rfl) ?_
      refine lv_bipush (v := 40) hx hb dX5_operand_45 bp_40 ?_
      refine lv_icmp_eq (tgt := 62) hx hb dX5_operand_47 (by decide) (fun c => ?_) (fun c => ?_)
      · skip
        have c_36 : r_10.toInt = 40 := (by first | exact (cm_eq1 ti_40 c) | (have z := Int32.toInt_inj.mpr c; have k1 : (40 : Int32).toInt = 40 := ti_40; omega))
        refine lv_iload_n hx hb dX5_operand_62 rfl (lv_at hl 2 rfl) ?_
        refine lv_bipush (v := 6) hx hb dX5_operand_63 bp_6 ?_
        refine lv_icmp_lt (tgt := 75) hx hb dX5_operand_65 (by decide) (fun c => ?_) (fun c => absurd c (by decide))
        refine lv_aload_n hx hb dX5_operand_75 rfl (lv_at hl 1 rfl) ?_
        refine lv_dup hx hb dX5_operand_76 rfl ?_
        refine sl_gX_4_6_5 (v := v_1) hx hb hts hown hK hP (show f 4 6 = v_1 from ev_1.symm) dX5_operand_77 ?_
        refine lv_iconst (v := 1) hx hb dX5_operand_80 ic_1 ?_
        refine lv_iadd hx hb dX5_operand_81 ?_
        refine lv_topi (fun v_38 ev_38 => ?_)
        have q_39 : v_38.toInt = v_1.toInt + 1 := by rw [ev_38]; first | exact cm_add ti_1 (by omega) (by omega) | (have k1 : (1 : Int32).toInt = 1 := ti_1; exact (bn_addI (by omega) (by omega)).trans (by omega))
        refine sl_pX_4_6_5 (x := v_38) hx hb hts hown hh hA hK hP hS dX5_operand_82 (fun f_40 H locs ef_40 hP hS => ?_)
        have hI : sgI loX hiX f_40 := by rw [ef_40]; exact sgI.put hI 4 6 (show 0 ≤ (v_38 : Int32).toInt ∧ (v_38 : Int32).toInt ≤ 120 from ⟨by omega, by omega⟩)
        have hF : sgK WkX5_operand_4 f f_40 := sgK.put hF ef_40 (by rfl)
        refine lv_aload_n hx hb dX5_operand_85 rfl (lv_at hl 1 rfl) ?_
        refine lv_iload_n hx hb dX5_operand_86 rfl (lv_at hl 0 rfl) ?_
        refine lv_iload_n hx hb dX5_operand_87 rfl (lv_at hl 2 rfl) ?_
        refine lv_iconst (v := 1) hx hb dX5_operand_88 ic_1 ?_
        refine lv_iadd hx hb dX5_operand_89 ?_
        refine W.eq (g2 := F0 m 90 ls [.int 5, .int r_10, .ref (h 4)]) (by rw [show (4 + 1 : Int32) = 5 from by decide]) ?_
        refine sg_callv (va_runV (As := [.int r_10, .int 5]) (rest := []) ⟨hx, hb, hml, hown, hts⟩ (kX5_opened_5 l D ca za h hh f_40 L Q hI r_10 ⟨by omega, by omega⟩ H.size) (sl_c5_opened_15_0_0_333_5 hts ⟨Nat.le_of_ble_eq_true rfl, Nat.le_of_ble_eq_true rfl⟩) (sl_vX_4 hA hK hP hS hZ) rfl rfl hl.1 rfl (lv_room (Nat.le_of_ble_eq_true rfl)) dX5_operand_90 ⟨Nat.le_refl _, Nat.le_refl _⟩) hA hS (fun f_41 L_42 Q_43 H locs hq hP hS => ?_)
        obtain ⟨⟨hI, hk_f_41, eL9, eQ9⟩, u_44⟩ := hq
        rw [eL9, eQ9] at hP; clear eL9 eQ9
        have hF : sgK WkX5_operand_4 f f_41 := sgK.tr hF hk_f_41 (by decide +kernel)
        exact hret _ _ _ _ f_41 L Q dX5_operand_93 hP hS ⟨⟨hI, hF, rfl, rfl⟩, (Eq.trans (Eq.symm (hs.trans ((if_neg (by decide)).trans ((if_pos c_36).trans (spl_e ev_38 (spl_e ef_40 (spl_e u_44 rfl))))))) hsp)⟩
      · skip
        have c_37 : r_10.toInt ≠ 40 := (by first | exact (cm_ne1 ti_40 c) | (have z := bn_ne c; have k1 : (40 : Int32).toInt = 40 := ti_40; omega))
        replace hs := hs.trans ((if_neg (by decide)).trans ((if_neg c_37).trans rfl))
        refine lv_iload_n hx hb dX5_operand_50 rfl (lv_at hl 0 rfl) ?_
        refine lv_bipush (v := 33) hx hb dX5_operand_51 bp_33 ?_
        refine lv_icmp_eq (tgt := 62) hx hb dX5_operand_53 (by decide) (fun c => ?_) (fun c => ?_)
        · skip
          have c_45 : r_10.toInt = 33 := (by first | exact (cm_eq1 ti_33 c) | (have z := Int32.toInt_inj.mpr c; have k1 : (33 : Int32).toInt = 33 := ti_33; omega))
          refine lv_iload_n hx hb dX5_operand_62 rfl (lv_at hl 2 rfl) ?_
          refine lv_bipush (v := 6) hx hb dX5_operand_63 bp_6 ?_
          refine lv_icmp_lt (tgt := 75) hx hb dX5_operand_65 (by decide) (fun c => ?_) (fun c => absurd c (by decide))
          refine lv_aload_n hx hb dX5_operand_75 rfl (lv_at hl 1 rfl) ?_
          refine lv_dup hx hb dX5_operand_76 rfl ?_
          refine sl_gX_4_6_5 (v := v_1) hx hb hts hown hK hP (show f 4 6 = v_1 from ev_1.symm) dX5_operand_77 ?_
          refine lv_iconst (v := 1) hx hb dX5_operand_80 ic_1 ?_
          refine lv_iadd hx hb dX5_operand_81 ?_
          refine lv_topi (fun v_47 ev_47 => ?_)
          have q_48 : v_47.toInt = v_1.toInt + 1 := by rw [ev_47]; first | exact cm_add ti_1 (by omega) (by omega) | (have k1 : (1 : Int32).toInt = 1 := ti_1; exact (bn_addI (by omega) (by omega)).trans (by omega))
          refine sl_pX_4_6_5 (x := v_47) hx hb hts hown hh hA hK hP hS dX5_operand_82 (fun f_49 H locs ef_49 hP hS => ?_)
          have hI : sgI loX hiX f_49 := by rw [ef_49]; exact sgI.put hI 4 6 (show 0 ≤ (v_47 : Int32).toInt ∧ (v_47 : Int32).toInt ≤ 120 from ⟨by omega, by omega⟩)
          have hF : sgK WkX5_operand_4 f f_49 := sgK.put hF ef_49 (by rfl)
          refine lv_aload_n hx hb dX5_operand_85 rfl (lv_at hl 1 rfl) ?_
          refine lv_iload_n hx hb dX5_operand_86 rfl (lv_at hl 0 rfl) ?_
          refine lv_iload_n hx hb dX5_operand_87 rfl (lv_at hl 2 rfl) ?_
          refine lv_iconst (v := 1) hx hb dX5_operand_88 ic_1 ?_
          refine lv_iadd hx hb dX5_operand_89 ?_
          refine W.eq (g2 := F0 m 90 ls [.int 5, .int r_10, .ref (h 4)]) (by rw [show (4 + 1 : Int32) = 5 from by decide]) ?_
          refine sg_callv (va_runV (As := [.int r_10, .int 5]) (rest := []) ⟨hx, hb, hml, hown, hts⟩ (kX5_opened_5 l D ca za h hh f_49 L Q hI r_10 ⟨by omega, by omega⟩ H.size) (sl_c5_opened_15_0_0_333_5 hts ⟨Nat.le_of_ble_eq_true rfl, Nat.le_of_ble_eq_true rfl⟩) (sl_vX_4 hA hK hP hS hZ) rfl rfl hl.1 rfl (lv_room (Nat.le_of_ble_eq_true rfl)) dX5_operand_90 ⟨Nat.le_refl _, Nat.le_refl _⟩) hA hS (fun f_50 L_51 Q_52 H locs hq hP hS => ?_)
          obtain ⟨⟨hI, hk_f_50, eL9, eQ9⟩, u_53⟩ := hq
          rw [eL9, eQ9] at hP; clear eL9 eQ9
          have hF : sgK WkX5_operand_4 f f_50 := sgK.tr hF hk_f_50 (by decide +kernel)
          exact hret _ _ _ _ f_50 L Q dX5_operand_93 hP hS ⟨⟨hI, hF, rfl, rfl⟩, (Eq.trans (Eq.symm (hs.trans ((if_pos c_45).trans (spl_e ev_47 (spl_e ef_49 (spl_e u_53 rfl)))))) hsp)⟩
        · skip
          have c_46 : r_10.toInt ≠ 33 := (by first | exact (cm_ne1 ti_33 c) | (have z := bn_ne c; have k1 : (33 : Int32).toInt = 33 := ti_33; omega))
          replace hs := hs.trans ((if_neg c_46).trans rfl)
          refine lv_iload_n hx hb dX5_operand_56 rfl (lv_at hl 0 rfl) ?_
          refine lv_bipush (v := 45) hx hb dX5_operand_57 bp_45 ?_
          refine lv_icmp_ne (tgt := 68) hx hb dX5_operand_59 (by decide) (fun c => ?_) (fun c => ?_)
          · skip
            have c_54 : r_10.toInt ≠ 45 := (by first | exact (cm_ne1 ti_45 c) | (have z := bn_ne c; have k1 : (45 : Int32).toInt = 45 := ti_45; omega))
            refine lv_aload_n hx hb dX5_operand_68 rfl (lv_at hl 1 rfl) ?_
            refine sg_callv (va_runV (As := []) (rest := []) ⟨hx, hb, hml, hown, hts⟩ (kX5_fail l D ca za h hh f L Q hI H.size) (sl_c5_fail_0_0_0_0_5 hts ⟨Nat.le_of_ble_eq_true rfl, Nat.le_of_ble_eq_true rfl⟩) (sl_vX_4 hA hK hP hS hZ) rfl rfl hl.1 rfl (lv_room (Nat.le_of_ble_eq_true rfl)) dX5_operand_69 ⟨Nat.le_refl _, Nat.le_refl _⟩) hA hS (fun f_56 L_57 Q_58 H locs hq hP hS => ?_)
            obtain ⟨⟨hI, hk_f_56, eL9, eQ9⟩, u_59⟩ := hq
            rw [eL9, eQ9] at hP; clear eL9 eQ9
            have hF : sgK WkX5_operand_4 f f_56 := sgK.tr hF hk_f_56 (by decide +kernel)
            refine lv_goto (tgt := 93) hx hb dX5_operand_72 (by decide) ?_
            exact hret _ _ _ _ f_56 L Q dX5_operand_93 hP hS ⟨⟨hI, hF, rfl, rfl⟩, (Eq.trans (Eq.symm (hs.trans ((if_neg c_54).trans (spl_e u_59 rfl)))) hsp)⟩
          · skip
            have c_55 : r_10.toInt = 45 := (by first | exact (cm_eq1 ti_45 c) | (have z := Int32.toInt_inj.mpr c; have k1 : (45 : Int32).toInt = 45 := ti_45; omega))
            refine lv_iload_n hx hb dX5_operand_62 rfl (lv_at hl 2 rfl) ?_
            refine lv_bipush (v := 6) hx hb dX5_operand_63 bp_6 ?_
            refine lv_icmp_lt (tgt := 75) hx hb dX5_operand_65 (by decide) (fun c => ?_) (fun c => absurd c (by decide))
            refine lv_aload_n hx hb dX5_operand_75 rfl (lv_at hl 1 rfl) ?_
            refine lv_dup hx hb dX5_operand_76 rfl ?_
            refine sl_gX_4_6_5 (v := v_1) hx hb hts hown hK hP (show f 4 6 = v_1 from ev_1.symm) dX5_operand_77 ?_
            refine lv_iconst (v := 1) hx hb dX5_operand_80 ic_1 ?_
            refine lv_iadd hx hb dX5_operand_81 ?_
            refine lv_topi (fun v_60 ev_60 => ?_)
            have q_61 : v_60.toInt = v_1.toInt + 1 := by rw [ev_60]; first | exact cm_add ti_1 (by omega) (by omega) | (have k1 : (1 : Int32).toInt = 1 := ti_1; exact (bn_addI (by omega) (by omega)).trans (by omega))
            refine sl_pX_4_6_5 (x := v_60) hx hb hts hown hh hA hK hP hS dX5_operand_82 (fun f_62 H locs ef_62 hP hS => ?_)
            have hI : sgI loX hiX f_62 := by rw [ef_62]; exact sgI.put hI 4 6 (show 0 ≤ (v_60 : Int32).toInt ∧ (v_60 : Int32).toInt ≤ 120 from ⟨by omega, by omega⟩)
            have hF : sgK WkX5_operand_4 f f_62 := sgK.put hF ef_62 (by rfl)
            refine lv_aload_n hx hb dX5_operand_85 rfl (lv_at hl 1 rfl) ?_
            refine lv_iload_n hx hb dX5_operand_86 rfl (lv_at hl 0 rfl) ?_
            refine lv_iload_n hx hb dX5_operand_87 rfl (lv_at hl 2 rfl) ?_
            refine lv_iconst (v := 1) hx hb dX5_operand_88 ic_1 ?_
            refine lv_iadd hx hb dX5_operand_89 ?_
            refine W.eq (g2 := F0 m 90 ls [.int 5, .int r_10, .ref (h 4)]) (by rw [show (4 + 1 : Int32) = 5 from by decide]) ?_
            refine sg_callv (va_runV (As := [.int r_10, .int 5]) (rest := []) ⟨hx, hb, hml, hown, hts⟩ (kX5_opened_5 l D ca za h hh f_62 L Q hI r_10 ⟨by omega, by omega⟩ H.size) (sl_c5_opened_15_0_0_333_5 hts ⟨Nat.le_of_ble_eq_true rfl, Nat.le_of_ble_eq_true rfl⟩) (sl_vX_4 hA hK hP hS hZ) rfl rfl hl.1 rfl (lv_room (Nat.le_of_ble_eq_true rfl)) dX5_operand_90 ⟨Nat.le_refl _, Nat.le_refl _⟩) hA hS (fun f_63 L_64 Q_65 H locs hq hP hS => ?_)
            obtain ⟨⟨hI, hk_f_63, eL9, eQ9⟩, u_66⟩ := hq
            rw [eL9, eQ9] at hP; clear eL9 eQ9
            have hF : sgK WkX5_operand_4 f f_63 := sgK.tr hF hk_f_63 (by decide +kernel)
            exact hret _ _ _ _ f_63 L Q dX5_operand_93 hP hS ⟨⟨hI, hF, rfl, rfl⟩, (Eq.trans (Eq.symm (hs.trans ((if_pos c_55).trans (spl_e ev_60 (spl_e ef_62 (spl_e u_66 rfl)))))) hsp)⟩

abbrev WkX5_product_4 : List (Nat × Nat × Option Nat) := [(4, 4, some 6), (4, 4, some 7), (4, 4, some 8), (6, 6, none)]
set_option maxHeartbeats 4000000 in
set_option maxRecDepth 100000 in
theorem kX5_product_4 (l : Launch) (D : va_G) (ca : Nat → ClassId) (za h : Nat → Nat) (hh : sgH 52 h) (f : sg_F) (L : sg_L) (Q : sg_Q) (hI : sgI loX hiX f) (sz : Nat) : Met l yX5_product gwX5_product { frames := 17, cells := 0, slots := 0, locals := 377 } (sgP D vwCl (tyX ca) 52 h (eX ca h) zcX za f L Q sz [.ref (h 4), .int 4]) (sgQv D vwCl 52 h (eX ca h) sz (fun f1 L1 Q1 => ((sgI loX hiX f1 ∧ sgK WkX5_product_4 f f1 ∧ L1 = L ∧ Q1 = Q) ∧ (f1) = sX5_product_4 f L))) 0 0 (sgA 52 h sz) := by
  refine sg_ofWv (cc := cX5_product) (maxL := 4) RX5 (by decide) rfl rfl (Nat.le_of_ble_eq_true rfl) ?_
  intro p e s m below meth cd Qz ls hx hb hml hown hts hK hZ hP hS hl hret
  have hA := sgY.self (n := 52) (h := h) (sz := s.heap.size)
  have hl : lv_has ls 4 [(0, .ref (h 4)), (1, .int 4)] := hl
  obtain ⟨H, hH⟩ : ∃ z : Heap, z = s.heap := ⟨_, rfl⟩
  obtain ⟨locs, hlo⟩ : ∃ z : List Loc, z = [] := ⟨_, rfl⟩
  have hP : va_P D vwCl (sgw 52 h (eX ca h) f L Q) H := by rw [hH]; exact hP
  have hS : va_S (sgA 52 h s.heap.size) s.heap H locs := by rw [hH, hlo]; exact hS
  suffices hgo : W p l e ({ frames := 17, cells := 0, slots := 0, locals := 377 }) s m ([.ref (h 4), .int 4] : List Value).toArray below meth cd H locs 0 0 Qz (F0 m 0 ls []) by rw [hH, hlo] at hgo; exact hgo
  clear hH hlo
  obtain ⟨sp, hsp⟩ : ∃ z : sg_F, z = sX5_product_4 f L := ⟨_, rfl⟩
  have hs : sp = sX5_product_4 f L := hsp
  obtain ⟨v_1, ev_1⟩ : ∃ z : Int32, z = f 4 6 := ⟨_, rfl⟩
  have q_2 : 0 ≤ v_1.toInt ∧ v_1.toInt ≤ 120 := by rw [ev_1]; exact hI 4 6
  obtain ⟨v_3, ev_3⟩ : ∃ z : Int32, z = f 4 1 := ⟨_, rfl⟩
  have q_4 : 0 ≤ v_3.toInt ∧ v_3.toInt ≤ 120 := by rw [ev_3]; exact hI 4 1
  have o_5 : (f 4 6).toInt = v_1.toInt := (congrArg Int32.toInt (show f 4 6 = v_1 from ev_1.symm))
  have o_6 : (f 4 1).toInt = v_3.toInt := (congrArg Int32.toInt (show f 4 1 = v_3 from ev_3.symm))
  have hF : sgK WkX5_product_4 f f := sgK.rf
  have loop_12 : ∀ (n_12 : Nat) (y2_12 : Int32) (y3_12 : Int32) (fp_12 : sg_F) (H : Heap) (locs : List Loc) (ls : Array Slot), sp = sX5_product_4_l12 n_12 y2_12 y3_12 fp_12 L → 120 - y3_12.toInt < (n_12 : Int) → (-1) ≤ y2_12.toInt ∧ y2_12.toInt ≤ 255 → 0 ≤ y3_12.toInt ∧ y3_12.toInt ≤ 120 → y2_12.toInt < 0 ∨ (fp_12 4 6).toInt < (fp_12 4 1).toInt → sgI loX hiX fp_12 → sgK WkX5_product_4 f fp_12 → va_P D vwCl (sgw 52 h (eX ca h) fp_12 L Q) H → va_S (sgA 52 h s.heap.size) s.heap H locs → lv_has ls 4 [(0, .ref (h 4)), (1, .int 4), (2, .int y2_12), (3, .int y3_12)] → W p l e ({ frames := 17, cells := 0, slots := 0, locals := 377 }) s m ([.ref (h 4), .int 4] : List Value).toArray below meth cd H locs 0 0 Qz (F0 m 12 ls []) := by
    intro n_12
    induction n_12 with
    | zero => intro y2_12 y3_12 fp_12 H locs ls hs hm_12 hy0_12 hy1_12 hg0_12 hI hF hP hS hl; exact absurd hm_12 (by omega)
    | succ n_12 ih_12 =>
      intro y2_12 y3_12 fp_12 H locs ls hs hm_12 hy0_12 hy1_12 hg0_12 hI hF hP hS hl
      have hs : sp = sX5_product_4_h12 (sX5_product_4_l12 n_12) y2_12 y3_12 fp_12 L := hs
      obtain ⟨v_7, ev_7⟩ : ∃ z : Int32, z = fp_12 4 6 := ⟨_, rfl⟩
      have q_8 : 0 ≤ v_7.toInt ∧ v_7.toInt ≤ 120 := by rw [ev_7]; exact hI 4 6
      have q_9 : (fp_12 4 6).toInt = v_7.toInt := by rw [ev_7]
      obtain ⟨v_10, ev_10⟩ : ∃ z : Int32, z = fp_12 4 1 := ⟨_, rfl⟩
      replace hs := hs.trans (spl_e ev_7 (spl_e ev_10 rfl))
      have q_11 : 0 ≤ v_10.toInt ∧ v_10.toInt ≤ 120 := by rw [ev_10]; exact hI 4 1
      have q_12 : (fp_12 4 1).toInt = v_10.toInt := by rw [ev_10]
      refine lv_iload_n hx hb dX5_product_12 rfl (lv_at hl 3 rfl) ?_
      refine lv_bipush (v := 120) hx hb dX5_product_13 bp_120 ?_
      refine lv_icmp_ge (tgt := 67) hx hb dX5_product_15 (by decide) (fun c => ?_) (fun c => ?_)
      · skip
        have c_13 : 120 ≤ y3_12.toInt := (by first | exact (cm_le0 ti_120 c) | (have z := bn_le c; have k1 : (120 : Int32).toInt = 120 := ti_120; omega))
        exact hret _ _ _ _ fp_12 L Q dX5_product_67 hP hS ⟨⟨hI, hF, rfl, rfl⟩, (Eq.trans (Eq.symm (hs.trans ((if_neg (Int.not_lt.mpr c_13)).trans rfl))) hsp)⟩
      · skip
        have c_14 : y3_12.toInt < 120 := (by first | exact (cm_nle0 ti_120 c) | (have z := bn_nle c; have k1 : (120 : Int32).toInt = 120 := ti_120; omega))
        replace hs := hs.trans ((if_pos c_14).trans rfl)
        refine lv_iload_n hx hb dX5_product_18 rfl (lv_at hl 2 rfl) ?_
        refine lv_bipush (v := 42) hx hb dX5_product_19 bp_42 ?_
        refine lv_icmp_eq (tgt := 36) hx hb dX5_product_21 (by decide) (fun c => ?_) (fun c => ?_)
        · skip
          have c_15 : y2_12.toInt = 42 := (by first | exact (cm_eq1 ti_42 c) | (have z := Int32.toInt_inj.mpr c; have k1 : (42 : Int32).toInt = 42 := ti_42; omega))
          refine lv_aload_n hx hb dX5_product_36 rfl (lv_at hl 0 rfl) ?_
          refine lv_dup hx hb dX5_product_37 rfl ?_
          refine sl_gX_4_6_5 (v := v_7) hx hb hts hown hK hP (show fp_12 4 6 = v_7 from ev_7.symm) dX5_product_38 ?_
          refine lv_iconst (v := 1) hx hb dX5_product_41 ic_1 ?_
          refine lv_iadd hx hb dX5_product_42 ?_
          refine lv_topi (fun v_17 ev_17 => ?_)
          have q_18 : v_17.toInt = v_7.toInt + 1 := by rw [ev_17]; first | exact cm_add ti_1 (by omega) (by omega) | (have k1 : (1 : Int32).toInt = 1 := ti_1; exact (bn_addI (by omega) (by omega)).trans (by omega))
          refine sl_pX_4_6_5 (x := v_17) hx hb hts hown hh hA hK hP hS dX5_product_43 (fun f_19 H locs ef_19 hP hS => ?_)
          have hI : sgI loX hiX f_19 := by rw [ef_19]; exact sgI.put hI 4 6 (show 0 ≤ (v_17 : Int32).toInt ∧ (v_17 : Int32).toInt ≤ 120 from ⟨by omega, by omega⟩)
          have hF : sgK WkX5_product_4 f f_19 := sgK.put hF ef_19 (by rfl)
          refine lv_aload_n hx hb dX5_product_46 rfl (lv_at hl 0 rfl) ?_
          refine lv_iload_n hx hb dX5_product_47 rfl (lv_at hl 1 rfl) ?_
          refine sg_callv (va_runV (As := [.int 4]) (rest := []) ⟨hx, hb, hml, hown, hts⟩ (kX5_operand_4 l D ca za h hh f_19 L Q hI H.size) (sl_c5_operand_16_0_0_355_5 hts ⟨Nat.le_of_ble_eq_true rfl, Nat.le_of_ble_eq_true rfl⟩) (sl_vX_4 hA hK hP hS hZ) rfl rfl hl.1 rfl (lv_room (Nat.le_of_ble_eq_true rfl)) dX5_product_48 ⟨Nat.le_refl _, Nat.le_refl _⟩) hA hS (fun f_20 L_21 Q_22 H locs hq hP hS => ?_)
          obtain ⟨⟨hI, hk_f_20, eL9, eQ9⟩, u_23⟩ := hq
          rw [eL9, eQ9] at hP; clear eL9 eQ9
          have hF : sgK WkX5_product_4 f f_20 := sgK.tr hF hk_f_20 (by decide +kernel)
          refine lv_aload_n hx hb dX5_product_51 rfl (lv_at hl 0 rfl) ?_
          refine lv_iload_n hx hb dX5_product_52 rfl (lv_at hl 2 rfl) ?_
          refine sg_callv (va_runV (As := [.int y2_12]) (rest := []) ⟨hx, hb, hml, hown, hts⟩ (kX5_write l D ca za h hh f_20 L Q hI y2_12 H.size) (sl_c5_write_0_0_0_0_5 hts ⟨Nat.le_of_ble_eq_true rfl, Nat.le_of_ble_eq_true rfl⟩) (sl_vX_4 hA hK hP hS hZ) rfl rfl hl.1 rfl (lv_room (Nat.le_of_ble_eq_true rfl)) dX5_product_53 ⟨Nat.le_refl _, Nat.le_refl _⟩) hA hS (fun f_24 L_25 Q_26 H locs hq hP hS => ?_)
          obtain ⟨⟨hI, hk_f_24, eL9, eQ9⟩, u_27⟩ := hq
          rw [eL9, eQ9] at hP; clear eL9 eQ9
          have hF : sgK WkX5_product_4 f f_24 := sgK.tr hF hk_f_24 (by decide +kernel)
          refine lv_aload_n hx hb dX5_product_56 rfl (lv_at hl 0 rfl) ?_
          obtain ⟨v_28, ev_28⟩ : ∃ z : Int32, z = f_24 4 6 := ⟨_, rfl⟩
          have q_29 : 0 ≤ v_28.toInt ∧ v_28.toInt ≤ 120 := by rw [ev_28]; exact hI 4 6
          have q_30 : (f_24 4 6).toInt = v_28.toInt := (congrArg Int32.toInt (show f_24 4 6 = v_28 from ev_28.symm))
          have q_31 : (f_24 4 1).toInt = v_10.toInt := (congrArg Int32.toInt (show f_24 4 1 = v_10 from ((hk_f_24 4 1 (by decide)).trans ((hk_f_20 4 1 (by decide)).trans (by rw [ef_19, sg_up_s, sgu_n (by decide)]; exact ev_10.symm)))))
          refine sg_calli (va_runV (As := []) (rest := []) ⟨hx, hb, hml, hown, hts⟩ (kX5_next l D ca za h hh f_24 L Q hI H.size) (sl_c5_next_0_0_0_0_5 hts ⟨Nat.le_of_ble_eq_true rfl, Nat.le_of_ble_eq_true rfl⟩) (sl_vX_4 hA hK hP hS hZ) rfl rfl hl.1 rfl (lv_room (Nat.le_of_ble_eq_true rfl)) dX5_product_57 ⟨Nat.le_refl _, Nat.le_refl _⟩) hA hS (fun r_35 f_32 L_33 Q_34 H locs hq hP hS => ?_)
          obtain ⟨⟨ef9, eL9, eQ9⟩, hq, p_36, u_37⟩ := hq
          rw [ef9, eL9, eQ9] at hP; clear ef9 eL9 eQ9
          refine lv_istore_n (lv' := [(2, .int r_35), (0, .ref (h 4)), (1, .int 4), (3, .int y3_12)]) hx hb dX5_product_60 rfl hl (by decide) rfl (fun ls hl => ?_)
          obtain ⟨v_38, ev_38⟩ : ∃ z : Int32, z = y3_12 + 1 := ⟨_, rfl⟩
          have q_39 : v_38.toInt = y3_12.toInt + 1 := by rw [ev_38]; exact (bn_addc y3_12 1 (by decide) (by omega) (by omega))
          refine lv_iinc (v := v_38) (lv' := [(3, .int v_38), (2, .int r_35), (0, .ref (h 4)), (1, .int 4)]) hx hb dX5_product_61 hl (k := 3) rfl (by rw [ev_38]; rfl) (by decide) rfl (fun ls hl => ?_)
          refine lv_goto (tgt := 12) hx hb dX5_product_64 (by decide) ?_
          exact ih_12 r_35 v_38 f_24 _ _ _ (hs.trans ((if_pos c_15).trans (spl_e ev_17 (spl_e ef_19 (spl_e u_23 (spl_e u_27 (spl_e ev_28 (spl_e u_37 (spl_e ev_38 rfl))))))))) (by omega) ⟨by omega, by omega⟩ ⟨by omega, by omega⟩ (by have zz4_6 : (f_24 4 6).toInt = v_28.toInt := (congrArg Int32.toInt (show f_24 4 6 = v_28 from ev_28.symm)); have zz4_1 : (f_24 4 1).toInt = v_10.toInt := (congrArg Int32.toInt (show f_24 4 1 = v_10 from ((hk_f_24 4 1 (by decide)).trans ((hk_f_20 4 1 (by decide)).trans (by rw [ef_19, sg_up_s, sgu_n (by decide)]; exact ev_10.symm))))); omega) hI hF hP hS (lv_sub hl [2, 3, 1, 0] rfl)
        · skip
          have c_16 : y2_12.toInt ≠ 42 := (by first | exact (cm_ne1 ti_42 c) | (have z := bn_ne c; have k1 : (42 : Int32).toInt = 42 := ti_42; omega))
          replace hs := hs.trans ((if_neg c_16).trans rfl)
          refine lv_iload_n hx hb dX5_product_24 rfl (lv_at hl 2 rfl) ?_
          refine lv_bipush (v := 47) hx hb dX5_product_25 bp_47 ?_
          refine lv_icmp_eq (tgt := 36) hx hb dX5_product_27 (by decide) (fun c => ?_) (fun c => ?_)
          · skip
            have c_40 : y2_12.toInt = 47 := (by first | exact (cm_eq1 ti_47 c) | (have z := Int32.toInt_inj.mpr c; have k1 : (47 : Int32).toInt = 47 := ti_47; omega))
            refine lv_aload_n hx hb dX5_product_36 rfl (lv_at hl 0 rfl) ?_
            refine lv_dup hx hb dX5_product_37 rfl ?_
            refine sl_gX_4_6_5 (v := v_7) hx hb hts hown hK hP (show fp_12 4 6 = v_7 from ev_7.symm) dX5_product_38 ?_
            refine lv_iconst (v := 1) hx hb dX5_product_41 ic_1 ?_
            refine lv_iadd hx hb dX5_product_42 ?_
            refine lv_topi (fun v_42 ev_42 => ?_)
            have q_43 : v_42.toInt = v_7.toInt + 1 := by rw [ev_42]; first | exact cm_add ti_1 (by omega) (by omega) | (have k1 : (1 : Int32).toInt = 1 := ti_1; exact (bn_addI (by omega) (by omega)).trans (by omega))
            refine sl_pX_4_6_5 (x := v_42) hx hb hts hown hh hA hK hP hS dX5_product_43 (fun f_44 H locs ef_44 hP hS => ?_)
            have hI : sgI loX hiX f_44 := by rw [ef_44]; exact sgI.put hI 4 6 (show 0 ≤ (v_42 : Int32).toInt ∧ (v_42 : Int32).toInt ≤ 120 from ⟨by omega, by omega⟩)
            have hF : sgK WkX5_product_4 f f_44 := sgK.put hF ef_44 (by rfl)
            refine lv_aload_n hx hb dX5_product_46 rfl (lv_at hl 0 rfl) ?_
            refine lv_iload_n hx hb dX5_product_47 rfl (lv_at hl 1 rfl) ?_
            refine sg_callv (va_runV (As := [.int 4]) (rest := []) ⟨hx, hb, hml, hown, hts⟩ (kX5_operand_4 l D ca za h hh f_44 L Q hI H.size) (sl_c5_operand_16_0_0_355_5 hts ⟨Nat.le_of_ble_eq_true rfl, Nat.le_of_ble_eq_true rfl⟩) (sl_vX_4 hA hK hP hS hZ) rfl rfl hl.1 rfl (lv_room (Nat.le_of_ble_eq_true rfl)) dX5_product_48 ⟨Nat.le_refl _, Nat.le_refl _⟩) hA hS (fun f_45 L_46 Q_47 H locs hq hP hS => ?_)
            obtain ⟨⟨hI, hk_f_45, eL9, eQ9⟩, u_48⟩ := hq
            rw [eL9, eQ9] at hP; clear eL9 eQ9
            have hF : sgK WkX5_product_4 f f_45 := sgK.tr hF hk_f_45 (by decide +kernel)
            refine lv_aload_n hx hb dX5_product_51 rfl (lv_at hl 0 rfl) ?_
            refine lv_iload_n hx hb dX5_product_52 rfl (lv_at hl 2 rfl) ?_
            refine sg_callv (va_runV (As := [.int y2_12]) (rest := []) ⟨hx, hb, hml, hown, hts⟩ (kX5_write l D ca za h hh f_45 L Q hI y2_12 H.size) (sl_c5_write_0_0_0_0_5 hts ⟨Nat.le_of_ble_eq_true rfl, Nat.le_of_ble_eq_true rfl⟩) (sl_vX_4 hA hK hP hS hZ) rfl rfl hl.1 rfl (lv_room (Nat.le_of_ble_eq_true rfl)) dX5_product_53 ⟨Nat.le_refl _, Nat.le_refl _⟩) hA hS (fun f_49 L_50 Q_51 H locs hq hP hS => ?_)
            obtain ⟨⟨hI, hk_f_49, eL9, eQ9⟩, u_52⟩ := hq
            rw [eL9, eQ9] at hP; clear eL9 eQ9
            have hF : sgK WkX5_product_4 f f_49 := sgK.tr hF hk_f_49 (by decide +kernel)
            refine lv_aload_n hx hb dX5_product_56 rfl (lv_at hl 0 rfl) ?_
            obtain ⟨v_53, ev_53⟩ : ∃ z : Int32, z = f_49 4 6 := ⟨_, rfl⟩
            have q_54 : 0 ≤ v_53.toInt ∧ v_53.toInt ≤ 120 := by rw [ev_53]; exact hI 4 6
            have q_55 : (f_49 4 6).toInt = v_53.toInt := (congrArg Int32.toInt (show f_49 4 6 = v_53 from ev_53.symm))
            have q_56 : (f_49 4 1).toInt = v_10.toInt := (congrArg Int32.toInt (show f_49 4 1 = v_10 from ((hk_f_49 4 1 (by decide)).trans ((hk_f_45 4 1 (by decide)).trans (by rw [ef_44, sg_up_s, sgu_n (by decide)]; exact ev_10.symm)))))
            refine sg_calli (va_runV (As := []) (rest := []) ⟨hx, hb, hml, hown, hts⟩ (kX5_next l D ca za h hh f_49 L Q hI H.size) (sl_c5_next_0_0_0_0_5 hts ⟨Nat.le_of_ble_eq_true rfl, Nat.le_of_ble_eq_true rfl⟩) (sl_vX_4 hA hK hP hS hZ) rfl rfl hl.1 rfl (lv_room (Nat.le_of_ble_eq_true rfl)) dX5_product_57 ⟨Nat.le_refl _, Nat.le_refl _⟩) hA hS (fun r_60 f_57 L_58 Q_59 H locs hq hP hS => ?_)
            obtain ⟨⟨ef9, eL9, eQ9⟩, hq, p_61, u_62⟩ := hq
            rw [ef9, eL9, eQ9] at hP; clear ef9 eL9 eQ9
            refine lv_istore_n (lv' := [(2, .int r_60), (0, .ref (h 4)), (1, .int 4), (3, .int y3_12)]) hx hb dX5_product_60 rfl hl (by decide) rfl (fun ls hl => ?_)
            obtain ⟨v_63, ev_63⟩ : ∃ z : Int32, z = y3_12 + 1 := ⟨_, rfl⟩
            have q_64 : v_63.toInt = y3_12.toInt + 1 := by rw [ev_63]; exact (bn_addc y3_12 1 (by decide) (by omega) (by omega))
            refine lv_iinc (v := v_63) (lv' := [(3, .int v_63), (2, .int r_60), (0, .ref (h 4)), (1, .int 4)]) hx hb dX5_product_61 hl (k := 3) rfl (by rw [ev_63]; rfl) (by decide) rfl (fun ls hl => ?_)
            refine lv_goto (tgt := 12) hx hb dX5_product_64 (by decide) ?_
            exact ih_12 r_60 v_63 f_49 _ _ _ (hs.trans ((if_pos c_40).trans (spl_e ev_42 (spl_e ef_44 (spl_e u_48 (spl_e u_52 (spl_e ev_53 (spl_e u_62 (spl_e ev_63 rfl))))))))) (by omega) ⟨by omega, by omega⟩ ⟨by omega, by omega⟩ (by have zz4_6 : (f_49 4 6).toInt = v_53.toInt := (congrArg Int32.toInt (show f_49 4 6 = v_53 from ev_53.symm)); have zz4_1 : (f_49 4 1).toInt = v_10.toInt := (congrArg Int32.toInt (show f_49 4 1 = v_10 from ((hk_f_49 4 1 (by decide)).trans ((hk_f_45 4 1 (by decide)).trans (by rw [ef_44, sg_up_s, sgu_n (by decide)]; exact ev_10.symm))))); omega) hI hF hP hS (lv_sub hl [2, 3, 1, 0] rfl)
          · skip
            have c_41 : y2_12.toInt ≠ 47 := (by first | exact (cm_ne1 ti_47 c) | (have z := bn_ne c; have k1 : (47 : Int32).toInt = 47 := ti_47; omega))
            replace hs := hs.trans ((if_neg c_41).trans rfl)
            refine lv_iload_n hx hb dX5_product_30 rfl (lv_at hl 2 rfl) ?_
            refine lv_bipush (v := 37) hx hb dX5_product_31 bp_37 ?_
            refine lv_icmp_ne (tgt := 67) hx hb dX5_product_33 (by decide) (fun c => ?_) (fun c => ?_)
            · skip
              have c_65 : y2_12.toInt ≠ 37 := (by first | exact (cm_ne1 ti_37 c) | (have z := bn_ne c; have k1 : (37 : Int32).toInt = 37 := ti_37; omega))
              exact hret _ _ _ _ fp_12 L Q dX5_product_67 hP hS ⟨⟨hI, hF, rfl, rfl⟩, (Eq.trans (Eq.symm (hs.trans ((if_neg c_65).trans rfl))) hsp)⟩
            · skip
              have c_66 : y2_12.toInt = 37 := (by first | exact (cm_eq1 ti_37 c) | (have z := Int32.toInt_inj.mpr c; have k1 : (37 : Int32).toInt = 37 := ti_37; omega))
              refine lv_aload_n hx hb dX5_product_36 rfl (lv_at hl 0 rfl) ?_
              refine lv_dup hx hb dX5_product_37 rfl ?_
              refine sl_gX_4_6_5 (v := v_7) hx hb hts hown hK hP (show fp_12 4 6 = v_7 from ev_7.symm) dX5_product_38 ?_
              refine lv_iconst (v := 1) hx hb dX5_product_41 ic_1 ?_
              refine lv_iadd hx hb dX5_product_42 ?_
              refine lv_topi (fun v_67 ev_67 => ?_)
              have q_68 : v_67.toInt = v_7.toInt + 1 := by rw [ev_67]; first | exact cm_add ti_1 (by omega) (by omega) | (have k1 : (1 : Int32).toInt = 1 := ti_1; exact (bn_addI (by omega) (by omega)).trans (by omega))
              refine sl_pX_4_6_5 (x := v_67) hx hb hts hown hh hA hK hP hS dX5_product_43 (fun f_69 H locs ef_69 hP hS => ?_)
              have hI : sgI loX hiX f_69 := by rw [ef_69]; exact sgI.put hI 4 6 (show 0 ≤ (v_67 : Int32).toInt ∧ (v_67 : Int32).toInt ≤ 120 from ⟨by omega, by omega⟩)
              have hF : sgK WkX5_product_4 f f_69 := sgK.put hF ef_69 (by rfl)
              refine lv_aload_n hx hb dX5_product_46 rfl (lv_at hl 0 rfl) ?_
              refine lv_iload_n hx hb dX5_product_47 rfl (lv_at hl 1 rfl) ?_
              refine sg_callv (va_runV (As := [.int 4]) (rest := []) ⟨hx, hb, hml, hown, hts⟩ (kX5_operand_4 l D ca za h hh f_69 L Q hI H.size) (sl_c5_operand_16_0_0_355_5 hts ⟨Nat.le_of_ble_eq_true rfl, Nat.le_of_ble_eq_true rfl⟩) (sl_vX_4 hA hK hP hS hZ) rfl rfl hl.1 rfl (lv_room (Nat.le_of_ble_eq_true rfl)) dX5_product_48 ⟨Nat.le_refl _, Nat.le_refl _⟩) hA hS (fun f_70 L_71 Q_72 H locs hq hP hS => ?_)
              obtain ⟨⟨hI, hk_f_70, eL9, eQ9⟩, u_73⟩ := hq
              rw [eL9, eQ9] at hP; clear eL9 eQ9
              have hF : sgK WkX5_product_4 f f_70 := sgK.tr hF hk_f_70 (by decide +kernel)
              refine lv_aload_n hx hb dX5_product_51 rfl (lv_at hl 0 rfl) ?_
              refine lv_iload_n hx hb dX5_product_52 rfl (lv_at hl 2 rfl) ?_
              refine sg_callv (va_runV (As := [.int y2_12]) (rest := []) ⟨hx, hb, hml, hown, hts⟩ (kX5_write l D ca za h hh f_70 L Q hI y2_12 H.size) (sl_c5_write_0_0_0_0_5 hts ⟨Nat.le_of_ble_eq_true rfl, Nat.le_of_ble_eq_true rfl⟩) (sl_vX_4 hA hK hP hS hZ) rfl rfl hl.1 rfl (lv_room (Nat.le_of_ble_eq_true rfl)) dX5_product_53 ⟨Nat.le_refl _, Nat.le_refl _⟩) hA hS (fun f_74 L_75 Q_76 H locs hq hP hS => ?_)
              obtain ⟨⟨hI, hk_f_74, eL9, eQ9⟩, u_77⟩ := hq
              rw [eL9, eQ9] at hP; clear eL9 eQ9
              have hF : sgK WkX5_product_4 f f_74 := sgK.tr hF hk_f_74 (by decide +kernel)
              refine lv_aload_n hx hb dX5_product_56 rfl (lv_at hl 0 rfl) ?_
              obtain ⟨v_78, ev_78⟩ : ∃ z : Int32, z = f_74 4 6 := ⟨_, rfl⟩
              have q_79 : 0 ≤ v_78.toInt ∧ v_78.toInt ≤ 120 := by rw [ev_78]; exact hI 4 6
              have q_80 : (f_74 4 6).toInt = v_78.toInt := (congrArg Int32.toInt (show f_74 4 6 = v_78 from ev_78.symm))
              have q_81 : (f_74 4 1).toInt = v_10.toInt := (congrArg Int32.toInt (show f_74 4 1 = v_10 from ((hk_f_74 4 1 (by decide)).trans ((hk_f_70 4 1 (by decide)).trans (by rw [ef_69, sg_up_s, sgu_n (by decide)]; exact ev_10.symm)))))
              refine sg_calli (va_runV (As := []) (rest := []) ⟨hx, hb, hml, hown, hts⟩ (kX5_next l D ca za h hh f_74 L Q hI H.size) (sl_c5_next_0_0_0_0_5 hts ⟨Nat.le_of_ble_eq_true rfl, Nat.le_of_ble_eq_true rfl⟩) (sl_vX_4 hA hK hP hS hZ) rfl rfl hl.1 rfl (lv_room (Nat.le_of_ble_eq_true rfl)) dX5_product_57 ⟨Nat.le_refl _, Nat.le_refl _⟩) hA hS (fun r_85 f_82 L_83 Q_84 H locs hq hP hS => ?_)
              obtain ⟨⟨ef9, eL9, eQ9⟩, hq, p_86, u_87⟩ := hq
              rw [ef9, eL9, eQ9] at hP; clear ef9 eL9 eQ9
              refine lv_istore_n (lv' := [(2, .int r_85), (0, .ref (h 4)), (1, .int 4), (3, .int y3_12)]) hx hb dX5_product_60 rfl hl (by decide) rfl (fun ls hl => ?_)
              obtain ⟨v_88, ev_88⟩ : ∃ z : Int32, z = y3_12 + 1 := ⟨_, rfl⟩
              have q_89 : v_88.toInt = y3_12.toInt + 1 := by rw [ev_88]; exact (bn_addc y3_12 1 (by decide) (by omega) (by omega))
              refine lv_iinc (v := v_88) (lv' := [(3, .int v_88), (2, .int r_85), (0, .ref (h 4)), (1, .int 4)]) hx hb dX5_product_61 hl (k := 3) rfl (by rw [ev_88]; rfl) (by decide) rfl (fun ls hl => ?_)
              refine lv_goto (tgt := 12) hx hb dX5_product_64 (by decide) ?_
              exact ih_12 r_85 v_88 f_74 _ _ _ (hs.trans ((if_pos c_66).trans (spl_e ev_67 (spl_e ef_69 (spl_e u_73 (spl_e u_77 (spl_e ev_78 (spl_e u_87 (spl_e ev_88 rfl))))))))) (by omega) ⟨by omega, by omega⟩ ⟨by omega, by omega⟩ (by have zz4_6 : (f_74 4 6).toInt = v_78.toInt := (congrArg Int32.toInt (show f_74 4 6 = v_78 from ev_78.symm)); have zz4_1 : (f_74 4 1).toInt = v_10.toInt := (congrArg Int32.toInt (show f_74 4 1 = v_10 from ((hk_f_74 4 1 (by decide)).trans ((hk_f_70 4 1 (by decide)).trans (by rw [ef_69, sg_up_s, sgu_n (by decide)]; exact ev_10.symm))))); omega) hI hF hP hS (lv_sub hl [2, 3, 1, 0] rfl)
  refine lv_aload_n hx hb dX5_product_0 rfl (lv_at hl 0 rfl) ?_
  refine lv_iload_n hx hb dX5_product_1 rfl (lv_at hl 1 rfl) ?_
  refine sg_callv (va_runV (As := [.int 4]) (rest := []) ⟨hx, hb, hml, hown, hts⟩ (kX5_operand_4 l D ca za h hh f L Q hI H.size) (sl_c5_operand_16_0_0_355_5 hts ⟨Nat.le_of_ble_eq_true rfl, Nat.le_of_ble_eq_true rfl⟩) (sl_vX_4 hA hK hP hS hZ) rfl rfl hl.1 rfl (lv_room (Nat.le_of_ble_eq_true rfl)) dX5_product_2 ⟨Nat.le_refl _, Nat.le_refl _⟩) hA hS (fun f_90 L_91 Q_92 H locs hq hP hS => ?_)
  obtain ⟨⟨hI, hk_f_90, eL9, eQ9⟩, u_93⟩ := hq
  rw [eL9, eQ9] at hP; clear eL9 eQ9
  have hF : sgK WkX5_product_4 f f_90 := sgK.tr hF hk_f_90 (by decide +kernel)
  refine lv_aload_n hx hb dX5_product_5 rfl (lv_at hl 0 rfl) ?_
  obtain ⟨v_94, ev_94⟩ : ∃ z : Int32, z = f_90 4 6 := ⟨_, rfl⟩
  have q_95 : 0 ≤ v_94.toInt ∧ v_94.toInt ≤ 120 := by rw [ev_94]; exact hI 4 6
  have q_96 : (f_90 4 6).toInt = v_94.toInt := (congrArg Int32.toInt (show f_90 4 6 = v_94 from ev_94.symm))
  have q_97 : (f_90 4 1).toInt = v_3.toInt := (congrArg Int32.toInt (show f_90 4 1 = v_3 from ((hk_f_90 4 1 (by decide)).trans ev_3.symm)))
  refine sg_calli (va_runV (As := []) (rest := []) ⟨hx, hb, hml, hown, hts⟩ (kX5_next l D ca za h hh f_90 L Q hI H.size) (sl_c5_next_0_0_0_0_5 hts ⟨Nat.le_of_ble_eq_true rfl, Nat.le_of_ble_eq_true rfl⟩) (sl_vX_4 hA hK hP hS hZ) rfl rfl hl.1 rfl (lv_room (Nat.le_of_ble_eq_true rfl)) dX5_product_6 ⟨Nat.le_refl _, Nat.le_refl _⟩) hA hS (fun r_101 f_98 L_99 Q_100 H locs hq hP hS => ?_)
  obtain ⟨⟨ef9, eL9, eQ9⟩, hq, p_102, u_103⟩ := hq
  rw [ef9, eL9, eQ9] at hP; clear ef9 eL9 eQ9
  refine lv_istore_n (lv' := [(2, .int r_101), (0, .ref (h 4)), (1, .int 4)]) hx hb dX5_product_9 rfl hl (by decide) rfl (fun ls hl => ?_)
  refine lv_iconst (v := 0) hx hb dX5_product_10 ic_0 ?_
  refine lv_istore_n (lv' := [(3, .int 0), (2, .int r_101), (0, .ref (h 4)), (1, .int 4)]) hx hb dX5_product_11 rfl hl (by decide) rfl (fun ls hl => ?_)
  exact loop_12 121 r_101 0 f_90 _ _ _ (hs.trans ((spl_e ev_1 (spl_e ev_3 (spl_e u_93 (spl_e ev_94 (spl_e u_103 rfl))))))) (by have kc1 : (0 : Int32).toInt = 0 := ti_0; omega) ⟨by omega, by omega⟩ (by decide) (by have kc1 : (0 : Int32).toInt = 0 := ti_0; have zz4_6 : (f_90 4 6).toInt = v_94.toInt := (congrArg Int32.toInt (show f_90 4 6 = v_94 from ev_94.symm)); have zz4_1 : (f_90 4 1).toInt = v_3.toInt := (congrArg Int32.toInt (show f_90 4 1 = v_3 from ((hk_f_90 4 1 (by decide)).trans ev_3.symm))); omega) hI hF hP hS (lv_sub hl [2, 3, 1, 0] rfl)

abbrev WkX5_sum_4 : List (Nat × Nat × Option Nat) := [(4, 4, some 6), (4, 4, some 7), (4, 4, some 8), (6, 6, none)]
set_option maxHeartbeats 4000000 in
set_option maxRecDepth 100000 in
theorem kX5_sum_4 (l : Launch) (D : va_G) (ca : Nat → ClassId) (za h : Nat → Nat) (hh : sgH 52 h) (f : sg_F) (L : sg_L) (Q : sg_Q) (hI : sgI loX hiX f) (sz : Nat) : Met l yX5_sum gwX5_sum { frames := 18, cells := 0, slots := 0, locals := 400 } (sgP D vwCl (tyX ca) 52 h (eX ca h) zcX za f L Q sz [.ref (h 4), .int 4]) (sgQv D vwCl 52 h (eX ca h) sz (fun f1 L1 Q1 => ((sgI loX hiX f1 ∧ sgK WkX5_sum_4 f f1 ∧ L1 = L ∧ Q1 = Q) ∧ (f1) = sX5_sum_4 f L))) 0 0 (sgA 52 h sz) := by
  refine sg_ofWv (cc := cX5_sum) (maxL := 4) RX5 (by decide) rfl rfl (Nat.le_of_ble_eq_true rfl) ?_
  intro p e s m below meth cd Qz ls hx hb hml hown hts hK hZ hP hS hl hret
  have hA := sgY.self (n := 52) (h := h) (sz := s.heap.size)
  have hl : lv_has ls 4 [(0, .ref (h 4)), (1, .int 4)] := hl
  obtain ⟨H, hH⟩ : ∃ z : Heap, z = s.heap := ⟨_, rfl⟩
  obtain ⟨locs, hlo⟩ : ∃ z : List Loc, z = [] := ⟨_, rfl⟩
  have hP : va_P D vwCl (sgw 52 h (eX ca h) f L Q) H := by rw [hH]; exact hP
  have hS : va_S (sgA 52 h s.heap.size) s.heap H locs := by rw [hH, hlo]; exact hS
  suffices hgo : W p l e ({ frames := 18, cells := 0, slots := 0, locals := 400 }) s m ([.ref (h 4), .int 4] : List Value).toArray below meth cd H locs 0 0 Qz (F0 m 0 ls []) by rw [hH, hlo] at hgo; exact hgo
  clear hH hlo
  obtain ⟨sp, hsp⟩ : ∃ z : sg_F, z = sX5_sum_4 f L := ⟨_, rfl⟩
  have hs : sp = sX5_sum_4 f L := hsp
  obtain ⟨v_1, ev_1⟩ : ∃ z : Int32, z = f 4 6 := ⟨_, rfl⟩
  have q_2 : 0 ≤ v_1.toInt ∧ v_1.toInt ≤ 120 := by rw [ev_1]; exact hI 4 6
  obtain ⟨v_3, ev_3⟩ : ∃ z : Int32, z = f 4 1 := ⟨_, rfl⟩
  have q_4 : 0 ≤ v_3.toInt ∧ v_3.toInt ≤ 120 := by rw [ev_3]; exact hI 4 1
  have o_5 : (f 4 6).toInt = v_1.toInt := (congrArg Int32.toInt (show f 4 6 = v_1 from ev_1.symm))
  have o_6 : (f 4 1).toInt = v_3.toInt := (congrArg Int32.toInt (show f 4 1 = v_3 from ev_3.symm))
  have hF : sgK WkX5_sum_4 f f := sgK.rf
  have loop_12 : ∀ (n_12 : Nat) (y2_12 : Int32) (y3_12 : Int32) (fp_12 : sg_F) (H : Heap) (locs : List Loc) (ls : Array Slot), sp = sX5_sum_4_l12 n_12 y2_12 y3_12 fp_12 L → 120 - y3_12.toInt < (n_12 : Int) → (-1) ≤ y2_12.toInt ∧ y2_12.toInt ≤ 255 → 0 ≤ y3_12.toInt ∧ y3_12.toInt ≤ 120 → y2_12.toInt < 0 ∨ (fp_12 4 6).toInt < (fp_12 4 1).toInt → sgI loX hiX fp_12 → sgK WkX5_sum_4 f fp_12 → va_P D vwCl (sgw 52 h (eX ca h) fp_12 L Q) H → va_S (sgA 52 h s.heap.size) s.heap H locs → lv_has ls 4 [(0, .ref (h 4)), (1, .int 4), (2, .int y2_12), (3, .int y3_12)] → W p l e ({ frames := 18, cells := 0, slots := 0, locals := 400 }) s m ([.ref (h 4), .int 4] : List Value).toArray below meth cd H locs 0 0 Qz (F0 m 12 ls []) := by
    intro n_12
    induction n_12 with
    | zero => intro y2_12 y3_12 fp_12 H locs ls hs hm_12 hy0_12 hy1_12 hg0_12 hI hF hP hS hl; exact absurd hm_12 (by omega)
    | succ n_12 ih_12 =>
      intro y2_12 y3_12 fp_12 H locs ls hs hm_12 hy0_12 hy1_12 hg0_12 hI hF hP hS hl
      have hs : sp = sX5_sum_4_h12 (sX5_sum_4_l12 n_12) y2_12 y3_12 fp_12 L := hs
      obtain ⟨v_7, ev_7⟩ : ∃ z : Int32, z = fp_12 4 6 := ⟨_, rfl⟩
      have q_8 : 0 ≤ v_7.toInt ∧ v_7.toInt ≤ 120 := by rw [ev_7]; exact hI 4 6
      have q_9 : (fp_12 4 6).toInt = v_7.toInt := by rw [ev_7]
      obtain ⟨v_10, ev_10⟩ : ∃ z : Int32, z = fp_12 4 1 := ⟨_, rfl⟩
      replace hs := hs.trans (spl_e ev_7 (spl_e ev_10 rfl))
      have q_11 : 0 ≤ v_10.toInt ∧ v_10.toInt ≤ 120 := by rw [ev_10]; exact hI 4 1
      have q_12 : (fp_12 4 1).toInt = v_10.toInt := by rw [ev_10]
      refine lv_iload_n hx hb dX5_sum_12 rfl (lv_at hl 3 rfl) ?_
      refine lv_bipush (v := 120) hx hb dX5_sum_13 bp_120 ?_
      refine lv_icmp_ge (tgt := 61) hx hb dX5_sum_15 (by decide) (fun c => ?_) (fun c => ?_)
      · skip
        have c_13 : 120 ≤ y3_12.toInt := (by first | exact (cm_le0 ti_120 c) | (have z := bn_le c; have k1 : (120 : Int32).toInt = 120 := ti_120; omega))
        exact hret _ _ _ _ fp_12 L Q dX5_sum_61 hP hS ⟨⟨hI, hF, rfl, rfl⟩, (Eq.trans (Eq.symm (hs.trans ((if_neg (Int.not_lt.mpr c_13)).trans rfl))) hsp)⟩
      · skip
        have c_14 : y3_12.toInt < 120 := (by first | exact (cm_nle0 ti_120 c) | (have z := bn_nle c; have k1 : (120 : Int32).toInt = 120 := ti_120; omega))
        replace hs := hs.trans ((if_pos c_14).trans rfl)
        refine lv_iload_n hx hb dX5_sum_18 rfl (lv_at hl 2 rfl) ?_
        refine lv_bipush (v := 43) hx hb dX5_sum_19 bp_43 ?_
        refine lv_icmp_eq (tgt := 30) hx hb dX5_sum_21 (by decide) (fun c => ?_) (fun c => ?_)
        · skip
          have c_15 : y2_12.toInt = 43 := (by first | exact (cm_eq1 ti_43 c) | (have z := Int32.toInt_inj.mpr c; have k1 : (43 : Int32).toInt = 43 := ti_43; omega))
          refine lv_aload_n hx hb dX5_sum_30 rfl (lv_at hl 0 rfl) ?_
          refine lv_dup hx hb dX5_sum_31 rfl ?_
          refine sl_gX_4_6_5 (v := v_7) hx hb hts hown hK hP (show fp_12 4 6 = v_7 from ev_7.symm) dX5_sum_32 ?_
          refine lv_iconst (v := 1) hx hb dX5_sum_35 ic_1 ?_
          refine lv_iadd hx hb dX5_sum_36 ?_
          refine lv_topi (fun v_17 ev_17 => ?_)
          have q_18 : v_17.toInt = v_7.toInt + 1 := by rw [ev_17]; first | exact cm_add ti_1 (by omega) (by omega) | (have k1 : (1 : Int32).toInt = 1 := ti_1; exact (bn_addI (by omega) (by omega)).trans (by omega))
          refine sl_pX_4_6_5 (x := v_17) hx hb hts hown hh hA hK hP hS dX5_sum_37 (fun f_19 H locs ef_19 hP hS => ?_)
          have hI : sgI loX hiX f_19 := by rw [ef_19]; exact sgI.put hI 4 6 (show 0 ≤ (v_17 : Int32).toInt ∧ (v_17 : Int32).toInt ≤ 120 from ⟨by omega, by omega⟩)
          have hF : sgK WkX5_sum_4 f f_19 := sgK.put hF ef_19 (by rfl)
          refine lv_aload_n hx hb dX5_sum_40 rfl (lv_at hl 0 rfl) ?_
          refine lv_iload_n hx hb dX5_sum_41 rfl (lv_at hl 1 rfl) ?_
          refine sg_callv (va_runV (As := [.int 4]) (rest := []) ⟨hx, hb, hml, hown, hts⟩ (kX5_product_4 l D ca za h hh f_19 L Q hI H.size) (sl_c5_product_17_0_0_377_5 hts ⟨Nat.le_of_ble_eq_true rfl, Nat.le_of_ble_eq_true rfl⟩) (sl_vX_4 hA hK hP hS hZ) rfl rfl hl.1 rfl (lv_room (Nat.le_of_ble_eq_true rfl)) dX5_sum_42 ⟨Nat.le_refl _, Nat.le_refl _⟩) hA hS (fun f_20 L_21 Q_22 H locs hq hP hS => ?_)
          obtain ⟨⟨hI, hk_f_20, eL9, eQ9⟩, u_23⟩ := hq
          rw [eL9, eQ9] at hP; clear eL9 eQ9
          have hF : sgK WkX5_sum_4 f f_20 := sgK.tr hF hk_f_20 (by decide +kernel)
          refine lv_aload_n hx hb dX5_sum_45 rfl (lv_at hl 0 rfl) ?_
          refine lv_iload_n hx hb dX5_sum_46 rfl (lv_at hl 2 rfl) ?_
          refine sg_callv (va_runV (As := [.int y2_12]) (rest := []) ⟨hx, hb, hml, hown, hts⟩ (kX5_write l D ca za h hh f_20 L Q hI y2_12 H.size) (sl_c5_write_0_0_0_0_5 hts ⟨Nat.le_of_ble_eq_true rfl, Nat.le_of_ble_eq_true rfl⟩) (sl_vX_4 hA hK hP hS hZ) rfl rfl hl.1 rfl (lv_room (Nat.le_of_ble_eq_true rfl)) dX5_sum_47 ⟨Nat.le_refl _, Nat.le_refl _⟩) hA hS (fun f_24 L_25 Q_26 H locs hq hP hS => ?_)
          obtain ⟨⟨hI, hk_f_24, eL9, eQ9⟩, u_27⟩ := hq
          rw [eL9, eQ9] at hP; clear eL9 eQ9
          have hF : sgK WkX5_sum_4 f f_24 := sgK.tr hF hk_f_24 (by decide +kernel)
          refine lv_aload_n hx hb dX5_sum_50 rfl (lv_at hl 0 rfl) ?_
          obtain ⟨v_28, ev_28⟩ : ∃ z : Int32, z = f_24 4 6 := ⟨_, rfl⟩
          have q_29 : 0 ≤ v_28.toInt ∧ v_28.toInt ≤ 120 := by rw [ev_28]; exact hI 4 6
          have q_30 : (f_24 4 6).toInt = v_28.toInt := (congrArg Int32.toInt (show f_24 4 6 = v_28 from ev_28.symm))
          have q_31 : (f_24 4 1).toInt = v_10.toInt := (congrArg Int32.toInt (show f_24 4 1 = v_10 from ((hk_f_24 4 1 (by decide)).trans ((hk_f_20 4 1 (by decide)).trans (by rw [ef_19, sg_up_s, sgu_n (by decide)]; exact ev_10.symm)))))
          refine sg_calli (va_runV (As := []) (rest := []) ⟨hx, hb, hml, hown, hts⟩ (kX5_next l D ca za h hh f_24 L Q hI H.size) (sl_c5_next_0_0_0_0_5 hts ⟨Nat.le_of_ble_eq_true rfl, Nat.le_of_ble_eq_true rfl⟩) (sl_vX_4 hA hK hP hS hZ) rfl rfl hl.1 rfl (lv_room (Nat.le_of_ble_eq_true rfl)) dX5_sum_51 ⟨Nat.le_refl _, Nat.le_refl _⟩) hA hS (fun r_35 f_32 L_33 Q_34 H locs hq hP hS => ?_)
          obtain ⟨⟨ef9, eL9, eQ9⟩, hq, p_36, u_37⟩ := hq
          rw [ef9, eL9, eQ9] at hP; clear ef9 eL9 eQ9
          refine lv_istore_n (lv' := [(2, .int r_35), (0, .ref (h 4)), (1, .int 4), (3, .int y3_12)]) hx hb dX5_sum_54 rfl hl (by decide) rfl (fun ls hl => ?_)
          obtain ⟨v_38, ev_38⟩ : ∃ z : Int32, z = y3_12 + 1 := ⟨_, rfl⟩
          have q_39 : v_38.toInt = y3_12.toInt + 1 := by rw [ev_38]; exact (bn_addc y3_12 1 (by decide) (by omega) (by omega))
          refine lv_iinc (v := v_38) (lv' := [(3, .int v_38), (2, .int r_35), (0, .ref (h 4)), (1, .int 4)]) hx hb dX5_sum_55 hl (k := 3) rfl (by rw [ev_38]; rfl) (by decide) rfl (fun ls hl => ?_)
          refine lv_goto (tgt := 12) hx hb dX5_sum_58 (by decide) ?_
          exact ih_12 r_35 v_38 f_24 _ _ _ (hs.trans ((if_pos c_15).trans (spl_e ev_17 (spl_e ef_19 (spl_e u_23 (spl_e u_27 (spl_e ev_28 (spl_e u_37 (spl_e ev_38 rfl))))))))) (by omega) ⟨by omega, by omega⟩ ⟨by omega, by omega⟩ (by have zz4_6 : (f_24 4 6).toInt = v_28.toInt := (congrArg Int32.toInt (show f_24 4 6 = v_28 from ev_28.symm)); have zz4_1 : (f_24 4 1).toInt = v_10.toInt := (congrArg Int32.toInt (show f_24 4 1 = v_10 from ((hk_f_24 4 1 (by decide)).trans ((hk_f_20 4 1 (by decide)).trans (by rw [ef_19, sg_up_s, sgu_n (by decide)]; exact ev_10.symm))))); omega) hI hF hP hS (lv_sub hl [2, 3, 1, 0] rfl)
        · skip
          have c_16 : y2_12.toInt ≠ 43 := (by first | exact (cm_ne1 ti_43 c) | (have z := bn_ne c; have k1 : (43 : Int32).toInt = 43 := ti_43; omega))
          replace hs := hs.trans ((if_neg c_16).trans rfl)
          refine lv_iload_n hx hb dX5_sum_24 rfl (lv_at hl 2 rfl) ?_
          refine lv_bipush (v := 45) hx hb dX5_sum_25 bp_45 ?_
          refine lv_icmp_ne (tgt := 61) hx hb dX5_sum_27 (by decide) (fun c => ?_) (fun c => ?_)
          · skip
            have c_40 : y2_12.toInt ≠ 45 := (by first | exact (cm_ne1 ti_45 c) | (have z := bn_ne c; have k1 : (45 : Int32).toInt = 45 := ti_45; omega))
            exact hret _ _ _ _ fp_12 L Q dX5_sum_61 hP hS ⟨⟨hI, hF, rfl, rfl⟩, (Eq.trans (Eq.symm (hs.trans ((if_neg c_40).trans rfl))) hsp)⟩
          · skip
            have c_41 : y2_12.toInt = 45 := (by first | exact (cm_eq1 ti_45 c) | (have z := Int32.toInt_inj.mpr c; have k1 : (45 : Int32).toInt = 45 := ti_45; omega))
            refine lv_aload_n hx hb dX5_sum_30 rfl (lv_at hl 0 rfl) ?_
            refine lv_dup hx hb dX5_sum_31 rfl ?_
            refine sl_gX_4_6_5 (v := v_7) hx hb hts hown hK hP (show fp_12 4 6 = v_7 from ev_7.symm) dX5_sum_32 ?_
            refine lv_iconst (v := 1) hx hb dX5_sum_35 ic_1 ?_
            refine lv_iadd hx hb dX5_sum_36 ?_
            refine lv_topi (fun v_42 ev_42 => ?_)
            have q_43 : v_42.toInt = v_7.toInt + 1 := by rw [ev_42]; first | exact cm_add ti_1 (by omega) (by omega) | (have k1 : (1 : Int32).toInt = 1 := ti_1; exact (bn_addI (by omega) (by omega)).trans (by omega))
            refine sl_pX_4_6_5 (x := v_42) hx hb hts hown hh hA hK hP hS dX5_sum_37 (fun f_44 H locs ef_44 hP hS => ?_)
            have hI : sgI loX hiX f_44 := by rw [ef_44]; exact sgI.put hI 4 6 (show 0 ≤ (v_42 : Int32).toInt ∧ (v_42 : Int32).toInt ≤ 120 from ⟨by omega, by omega⟩)
            have hF : sgK WkX5_sum_4 f f_44 := sgK.put hF ef_44 (by rfl)
            refine lv_aload_n hx hb dX5_sum_40 rfl (lv_at hl 0 rfl) ?_
            refine lv_iload_n hx hb dX5_sum_41 rfl (lv_at hl 1 rfl) ?_
            refine sg_callv (va_runV (As := [.int 4]) (rest := []) ⟨hx, hb, hml, hown, hts⟩ (kX5_product_4 l D ca za h hh f_44 L Q hI H.size) (sl_c5_product_17_0_0_377_5 hts ⟨Nat.le_of_ble_eq_true rfl, Nat.le_of_ble_eq_true rfl⟩) (sl_vX_4 hA hK hP hS hZ) rfl rfl hl.1 rfl (lv_room (Nat.le_of_ble_eq_true rfl)) dX5_sum_42 ⟨Nat.le_refl _, Nat.le_refl _⟩) hA hS (fun f_45 L_46 Q_47 H locs hq hP hS => ?_)
            obtain ⟨⟨hI, hk_f_45, eL9, eQ9⟩, u_48⟩ := hq
            rw [eL9, eQ9] at hP; clear eL9 eQ9
            have hF : sgK WkX5_sum_4 f f_45 := sgK.tr hF hk_f_45 (by decide +kernel)
            refine lv_aload_n hx hb dX5_sum_45 rfl (lv_at hl 0 rfl) ?_
            refine lv_iload_n hx hb dX5_sum_46 rfl (lv_at hl 2 rfl) ?_
            refine sg_callv (va_runV (As := [.int y2_12]) (rest := []) ⟨hx, hb, hml, hown, hts⟩ (kX5_write l D ca za h hh f_45 L Q hI y2_12 H.size) (sl_c5_write_0_0_0_0_5 hts ⟨Nat.le_of_ble_eq_true rfl, Nat.le_of_ble_eq_true rfl⟩) (sl_vX_4 hA hK hP hS hZ) rfl rfl hl.1 rfl (lv_room (Nat.le_of_ble_eq_true rfl)) dX5_sum_47 ⟨Nat.le_refl _, Nat.le_refl _⟩) hA hS (fun f_49 L_50 Q_51 H locs hq hP hS => ?_)
            obtain ⟨⟨hI, hk_f_49, eL9, eQ9⟩, u_52⟩ := hq
            rw [eL9, eQ9] at hP; clear eL9 eQ9
            have hF : sgK WkX5_sum_4 f f_49 := sgK.tr hF hk_f_49 (by decide +kernel)
            refine lv_aload_n hx hb dX5_sum_50 rfl (lv_at hl 0 rfl) ?_
            obtain ⟨v_53, ev_53⟩ : ∃ z : Int32, z = f_49 4 6 := ⟨_, rfl⟩
            have q_54 : 0 ≤ v_53.toInt ∧ v_53.toInt ≤ 120 := by rw [ev_53]; exact hI 4 6
            have q_55 : (f_49 4 6).toInt = v_53.toInt := (congrArg Int32.toInt (show f_49 4 6 = v_53 from ev_53.symm))
            have q_56 : (f_49 4 1).toInt = v_10.toInt := (congrArg Int32.toInt (show f_49 4 1 = v_10 from ((hk_f_49 4 1 (by decide)).trans ((hk_f_45 4 1 (by decide)).trans (by rw [ef_44, sg_up_s, sgu_n (by decide)]; exact ev_10.symm)))))
            refine sg_calli (va_runV (As := []) (rest := []) ⟨hx, hb, hml, hown, hts⟩ (kX5_next l D ca za h hh f_49 L Q hI H.size) (sl_c5_next_0_0_0_0_5 hts ⟨Nat.le_of_ble_eq_true rfl, Nat.le_of_ble_eq_true rfl⟩) (sl_vX_4 hA hK hP hS hZ) rfl rfl hl.1 rfl (lv_room (Nat.le_of_ble_eq_true rfl)) dX5_sum_51 ⟨Nat.le_refl _, Nat.le_refl _⟩) hA hS (fun r_60 f_57 L_58 Q_59 H locs hq hP hS => ?_)
            obtain ⟨⟨ef9, eL9, eQ9⟩, hq, p_61, u_62⟩ := hq
            rw [ef9, eL9, eQ9] at hP; clear ef9 eL9 eQ9
            refine lv_istore_n (lv' := [(2, .int r_60), (0, .ref (h 4)), (1, .int 4), (3, .int y3_12)]) hx hb dX5_sum_54 rfl hl (by decide) rfl (fun ls hl => ?_)
            obtain ⟨v_63, ev_63⟩ : ∃ z : Int32, z = y3_12 + 1 := ⟨_, rfl⟩
            have q_64 : v_63.toInt = y3_12.toInt + 1 := by rw [ev_63]; exact (bn_addc y3_12 1 (by decide) (by omega) (by omega))
            refine lv_iinc (v := v_63) (lv' := [(3, .int v_63), (2, .int r_60), (0, .ref (h 4)), (1, .int 4)]) hx hb dX5_sum_55 hl (k := 3) rfl (by rw [ev_63]; rfl) (by decide) rfl (fun ls hl => ?_)
            refine lv_goto (tgt := 12) hx hb dX5_sum_58 (by decide) ?_
            exact ih_12 r_60 v_63 f_49 _ _ _ (hs.trans ((if_pos c_41).trans (spl_e ev_42 (spl_e ef_44 (spl_e u_48 (spl_e u_52 (spl_e ev_53 (spl_e u_62 (spl_e ev_63 rfl))))))))) (by omega) ⟨by omega, by omega⟩ ⟨by omega, by omega⟩ (by have zz4_6 : (f_49 4 6).toInt = v_53.toInt := (congrArg Int32.toInt (show f_49 4 6 = v_53 from ev_53.symm)); have zz4_1 : (f_49 4 1).toInt = v_10.toInt := (congrArg Int32.toInt (show f_49 4 1 = v_10 from ((hk_f_49 4 1 (by decide)).trans ((hk_f_45 4 1 (by decide)).trans (by rw [ef_44, sg_up_s, sgu_n (by decide)]; exact ev_10.symm))))); omega) hI hF hP hS (lv_sub hl [2, 3, 1, 0] rfl)
  refine lv_aload_n hx hb dX5_sum_0 rfl (lv_at hl 0 rfl) ?_
  refine lv_iload_n hx hb dX5_sum_1 rfl (lv_at hl 1 rfl) ?_
  refine sg_callv (va_runV (As := [.int 4]) (rest := []) ⟨hx, hb, hml, hown, hts⟩ (kX5_product_4 l D ca za h hh f L Q hI H.size) (sl_c5_product_17_0_0_377_5 hts ⟨Nat.le_of_ble_eq_true rfl, Nat.le_of_ble_eq_true rfl⟩) (sl_vX_4 hA hK hP hS hZ) rfl rfl hl.1 rfl (lv_room (Nat.le_of_ble_eq_true rfl)) dX5_sum_2 ⟨Nat.le_refl _, Nat.le_refl _⟩) hA hS (fun f_65 L_66 Q_67 H locs hq hP hS => ?_)
  obtain ⟨⟨hI, hk_f_65, eL9, eQ9⟩, u_68⟩ := hq
  rw [eL9, eQ9] at hP; clear eL9 eQ9
  have hF : sgK WkX5_sum_4 f f_65 := sgK.tr hF hk_f_65 (by decide +kernel)
  refine lv_aload_n hx hb dX5_sum_5 rfl (lv_at hl 0 rfl) ?_
  obtain ⟨v_69, ev_69⟩ : ∃ z : Int32, z = f_65 4 6 := ⟨_, rfl⟩
  have q_70 : 0 ≤ v_69.toInt ∧ v_69.toInt ≤ 120 := by rw [ev_69]; exact hI 4 6
  have q_71 : (f_65 4 6).toInt = v_69.toInt := (congrArg Int32.toInt (show f_65 4 6 = v_69 from ev_69.symm))
  have q_72 : (f_65 4 1).toInt = v_3.toInt := (congrArg Int32.toInt (show f_65 4 1 = v_3 from ((hk_f_65 4 1 (by decide)).trans ev_3.symm)))
  refine sg_calli (va_runV (As := []) (rest := []) ⟨hx, hb, hml, hown, hts⟩ (kX5_next l D ca za h hh f_65 L Q hI H.size) (sl_c5_next_0_0_0_0_5 hts ⟨Nat.le_of_ble_eq_true rfl, Nat.le_of_ble_eq_true rfl⟩) (sl_vX_4 hA hK hP hS hZ) rfl rfl hl.1 rfl (lv_room (Nat.le_of_ble_eq_true rfl)) dX5_sum_6 ⟨Nat.le_refl _, Nat.le_refl _⟩) hA hS (fun r_76 f_73 L_74 Q_75 H locs hq hP hS => ?_)
  obtain ⟨⟨ef9, eL9, eQ9⟩, hq, p_77, u_78⟩ := hq
  rw [ef9, eL9, eQ9] at hP; clear ef9 eL9 eQ9
  refine lv_istore_n (lv' := [(2, .int r_76), (0, .ref (h 4)), (1, .int 4)]) hx hb dX5_sum_9 rfl hl (by decide) rfl (fun ls hl => ?_)
  refine lv_iconst (v := 0) hx hb dX5_sum_10 ic_0 ?_
  refine lv_istore_n (lv' := [(3, .int 0), (2, .int r_76), (0, .ref (h 4)), (1, .int 4)]) hx hb dX5_sum_11 rfl hl (by decide) rfl (fun ls hl => ?_)
  exact loop_12 121 r_76 0 f_65 _ _ _ (hs.trans ((spl_e ev_1 (spl_e ev_3 (spl_e u_68 (spl_e ev_69 (spl_e u_78 rfl))))))) (by have kc1 : (0 : Int32).toInt = 0 := ti_0; omega) ⟨by omega, by omega⟩ (by decide) (by have kc1 : (0 : Int32).toInt = 0 := ti_0; have zz4_6 : (f_65 4 6).toInt = v_69.toInt := (congrArg Int32.toInt (show f_65 4 6 = v_69 from ev_69.symm)); have zz4_1 : (f_65 4 1).toInt = v_3.toInt := (congrArg Int32.toInt (show f_65 4 1 = v_3 from ((hk_f_65 4 1 (by decide)).trans ev_3.symm))); omega) hI hF hP hS (lv_sub hl [2, 3, 1, 0] rfl)

abbrev WkX5_compared_4 : List (Nat × Nat × Option Nat) := [(4, 4, some 6), (4, 4, some 7), (4, 4, some 8), (6, 6, none)]
set_option maxHeartbeats 4000000 in
set_option maxRecDepth 100000 in
theorem kX5_compared_4 (l : Launch) (D : va_G) (ca : Nat → ClassId) (za h : Nat → Nat) (hh : sgH 52 h) (f : sg_F) (L : sg_L) (Q : sg_Q) (hI : sgI loX hiX f) (sz : Nat) : Met l yX5_compared gwX5_compared { frames := 19, cells := 0, slots := 0, locals := 423 } (sgP D vwCl (tyX ca) 52 h (eX ca h) zcX za f L Q sz [.ref (h 4), .int 4]) (sgQv D vwCl 52 h (eX ca h) sz (fun f1 L1 Q1 => ((sgI loX hiX f1 ∧ sgK WkX5_compared_4 f f1 ∧ L1 = L ∧ Q1 = Q) ∧ (f1) = sX5_compared_4 f L))) 0 0 (sgA 52 h sz) := by
  refine sg_ofWv (cc := cX5_compared) (maxL := 3) RX5 (by decide) rfl rfl (Nat.le_of_ble_eq_true rfl) ?_
  intro p e s m below meth cd Qz ls hx hb hml hown hts hK hZ hP hS hl hret
  have hA := sgY.self (n := 52) (h := h) (sz := s.heap.size)
  have hl : lv_has ls 3 [(0, .ref (h 4)), (1, .int 4)] := hl
  obtain ⟨H, hH⟩ : ∃ z : Heap, z = s.heap := ⟨_, rfl⟩
  obtain ⟨locs, hlo⟩ : ∃ z : List Loc, z = [] := ⟨_, rfl⟩
  have hP : va_P D vwCl (sgw 52 h (eX ca h) f L Q) H := by rw [hH]; exact hP
  have hS : va_S (sgA 52 h s.heap.size) s.heap H locs := by rw [hH, hlo]; exact hS
  suffices hgo : W p l e ({ frames := 19, cells := 0, slots := 0, locals := 423 }) s m ([.ref (h 4), .int 4] : List Value).toArray below meth cd H locs 0 0 Qz (F0 m 0 ls []) by rw [hH, hlo] at hgo; exact hgo
  clear hH hlo
  obtain ⟨sp, hsp⟩ : ∃ z : sg_F, z = sX5_compared_4 f L := ⟨_, rfl⟩
  have hs : sp = sX5_compared_4 f L := hsp
  have hF : sgK WkX5_compared_4 f f := sgK.rf
  refine lv_aload_n hx hb dX5_compared_0 rfl (lv_at hl 0 rfl) ?_
  refine lv_iload_n hx hb dX5_compared_1 rfl (lv_at hl 1 rfl) ?_
  refine sg_callv (va_runV (As := [.int 4]) (rest := []) ⟨hx, hb, hml, hown, hts⟩ (kX5_sum_4 l D ca za h hh f L Q hI H.size) (sl_c5_sum_18_0_0_400_5 hts ⟨Nat.le_of_ble_eq_true rfl, Nat.le_of_ble_eq_true rfl⟩) (sl_vX_4 hA hK hP hS hZ) rfl rfl hl.1 rfl (lv_room (Nat.le_of_ble_eq_true rfl)) dX5_compared_2 ⟨Nat.le_refl _, Nat.le_refl _⟩) hA hS (fun f_1 L_2 Q_3 H locs hq hP hS => ?_)
  obtain ⟨⟨hI, hk_f_1, eL9, eQ9⟩, u_4⟩ := hq
  rw [eL9, eQ9] at hP; clear eL9 eQ9
  have hF : sgK WkX5_compared_4 f f_1 := sgK.tr hF hk_f_1 (by decide +kernel)
  refine lv_aload_n hx hb dX5_compared_5 rfl (lv_at hl 0 rfl) ?_
  obtain ⟨v_5, ev_5⟩ : ∃ z : Int32, z = f_1 4 6 := ⟨_, rfl⟩
  have q_6 : 0 ≤ v_5.toInt ∧ v_5.toInt ≤ 120 := by rw [ev_5]; exact hI 4 6
  have q_7 : (f_1 4 6).toInt = v_5.toInt := (congrArg Int32.toInt (show f_1 4 6 = v_5 from ev_5.symm))
  obtain ⟨v_8, ev_8⟩ : ∃ z : Int32, z = f_1 4 1 := ⟨_, rfl⟩
  have q_9 : 0 ≤ v_8.toInt ∧ v_8.toInt ≤ 120 := by rw [ev_8]; exact hI 4 1
  have q_10 : (f_1 4 1).toInt = v_8.toInt := (congrArg Int32.toInt (show f_1 4 1 = v_8 from ev_8.symm))
  refine sg_calli (va_runV (As := []) (rest := []) ⟨hx, hb, hml, hown, hts⟩ (kX5_next l D ca za h hh f_1 L Q hI H.size) (sl_c5_next_0_0_0_0_5 hts ⟨Nat.le_of_ble_eq_true rfl, Nat.le_of_ble_eq_true rfl⟩) (sl_vX_4 hA hK hP hS hZ) rfl rfl hl.1 rfl (lv_room (Nat.le_of_ble_eq_true rfl)) dX5_compared_6 ⟨Nat.le_refl _, Nat.le_refl _⟩) hA hS (fun r_14 f_11 L_12 Q_13 H locs hq hP hS => ?_)
  obtain ⟨⟨ef9, eL9, eQ9⟩, hq, p_15, u_16⟩ := hq
  replace hs := hs.trans (spl_e u_4 (spl_e ev_5 (spl_e ev_8 (spl_e u_16 rfl))))
  rw [ef9, eL9, eQ9] at hP; clear ef9 eL9 eQ9
  refine lv_istore_n (lv' := [(2, .int r_14), (0, .ref (h 4)), (1, .int 4)]) hx hb dX5_compared_9 rfl hl (by decide) rfl (fun ls hl => ?_)
  refine lv_iload_n hx hb dX5_compared_10 rfl (lv_at hl 0 rfl) ?_
  refine lv_bipush (v := 60) hx hb dX5_compared_11 bp_60 ?_
  refine lv_icmp_eq (tgt := 28) hx hb dX5_compared_13 (by decide) (fun c => ?_) (fun c => ?_)
  · skip
    have c_17 : r_14.toInt = 60 := (by first | exact (cm_eq1 ti_60 c) | (have z := Int32.toInt_inj.mpr c; have k1 : (60 : Int32).toInt = 60 := ti_60; omega))
    refine lv_aload_n hx hb dX5_compared_28 rfl (lv_at hl 1 rfl) ?_
    refine lv_dup hx hb dX5_compared_29 rfl ?_
    refine sl_gX_4_6_5 (v := v_5) hx hb hts hown hK hP (show f_1 4 6 = v_5 from ev_5.symm) dX5_compared_30 ?_
    refine lv_iconst (v := 1) hx hb dX5_compared_33 ic_1 ?_
    refine lv_iadd hx hb dX5_compared_34 ?_
    refine lv_topi (fun v_19 ev_19 => ?_)
    have q_20 : v_19.toInt = v_5.toInt + 1 := by rw [ev_19]; first | exact cm_add ti_1 (by omega) (by omega) | (have k1 : (1 : Int32).toInt = 1 := ti_1; exact (bn_addI (by omega) (by omega)).trans (by omega))
    refine sl_pX_4_6_5 (x := v_19) hx hb hts hown hh hA hK hP hS dX5_compared_35 (fun f_21 H locs ef_21 hP hS => ?_)
    have hI : sgI loX hiX f_21 := by rw [ef_21]; exact sgI.put hI 4 6 (show 0 ≤ (v_19 : Int32).toInt ∧ (v_19 : Int32).toInt ≤ 120 from ⟨by omega, by omega⟩)
    have hF : sgK WkX5_compared_4 f f_21 := sgK.put hF ef_21 (by rfl)
    refine lv_aload_n hx hb dX5_compared_38 rfl (lv_at hl 1 rfl) ?_
    refine lv_iload_n hx hb dX5_compared_39 rfl (lv_at hl 2 rfl) ?_
    refine sg_callv (va_runV (As := [.int 4]) (rest := []) ⟨hx, hb, hml, hown, hts⟩ (kX5_sum_4 l D ca za h hh f_21 L Q hI H.size) (sl_c5_sum_18_0_0_400_5 hts ⟨Nat.le_of_ble_eq_true rfl, Nat.le_of_ble_eq_true rfl⟩) (sl_vX_4 hA hK hP hS hZ) rfl rfl hl.1 rfl (lv_room (Nat.le_of_ble_eq_true rfl)) dX5_compared_40 ⟨Nat.le_refl _, Nat.le_refl _⟩) hA hS (fun f_22 L_23 Q_24 H locs hq hP hS => ?_)
    obtain ⟨⟨hI, hk_f_22, eL9, eQ9⟩, u_25⟩ := hq
    rw [eL9, eQ9] at hP; clear eL9 eQ9
    have hF : sgK WkX5_compared_4 f f_22 := sgK.tr hF hk_f_22 (by decide +kernel)
    refine lv_aload_n hx hb dX5_compared_43 rfl (lv_at hl 1 rfl) ?_
    refine lv_iload_n hx hb dX5_compared_44 rfl (lv_at hl 0 rfl) ?_
    refine sg_callv (va_runV (As := [.int r_14]) (rest := []) ⟨hx, hb, hml, hown, hts⟩ (kX5_write l D ca za h hh f_22 L Q hI r_14 H.size) (sl_c5_write_0_0_0_0_5 hts ⟨Nat.le_of_ble_eq_true rfl, Nat.le_of_ble_eq_true rfl⟩) (sl_vX_4 hA hK hP hS hZ) rfl rfl hl.1 rfl (lv_room (Nat.le_of_ble_eq_true rfl)) dX5_compared_45 ⟨Nat.le_refl _, Nat.le_refl _⟩) hA hS (fun f_26 L_27 Q_28 H locs hq hP hS => ?_)
    obtain ⟨⟨hI, hk_f_26, eL9, eQ9⟩, u_29⟩ := hq
    rw [eL9, eQ9] at hP; clear eL9 eQ9
    have hF : sgK WkX5_compared_4 f f_26 := sgK.tr hF hk_f_26 (by decide +kernel)
    exact hret _ _ _ _ f_26 L Q dX5_compared_48 hP hS ⟨⟨hI, hF, rfl, rfl⟩, (Eq.trans (Eq.symm (hs.trans ((if_pos c_17).trans (spl_e ev_19 (spl_e ef_21 (spl_e u_25 (spl_e u_29 rfl))))))) hsp)⟩
  · skip
    have c_18 : r_14.toInt ≠ 60 := (by first | exact (cm_ne1 ti_60 c) | (have z := bn_ne c; have k1 : (60 : Int32).toInt = 60 := ti_60; omega))
    replace hs := hs.trans ((if_neg c_18).trans rfl)
    refine lv_iload_n hx hb dX5_compared_16 rfl (lv_at hl 0 rfl) ?_
    refine lv_bipush (v := 61) hx hb dX5_compared_17 bp_61 ?_
    refine lv_icmp_eq (tgt := 28) hx hb dX5_compared_19 (by decide) (fun c => ?_) (fun c => ?_)
    · skip
      have c_30 : r_14.toInt = 61 := (by first | exact (cm_eq1 ti_61 c) | (have z := Int32.toInt_inj.mpr c; have k1 : (61 : Int32).toInt = 61 := ti_61; omega))
      refine lv_aload_n hx hb dX5_compared_28 rfl (lv_at hl 1 rfl) ?_
      refine lv_dup hx hb dX5_compared_29 rfl ?_
      refine sl_gX_4_6_5 (v := v_5) hx hb hts hown hK hP (show f_1 4 6 = v_5 from ev_5.symm) dX5_compared_30 ?_
      refine lv_iconst (v := 1) hx hb dX5_compared_33 ic_1 ?_
      refine lv_iadd hx hb dX5_compared_34 ?_
      refine lv_topi (fun v_32 ev_32 => ?_)
      have q_33 : v_32.toInt = v_5.toInt + 1 := by rw [ev_32]; first | exact cm_add ti_1 (by omega) (by omega) | (have k1 : (1 : Int32).toInt = 1 := ti_1; exact (bn_addI (by omega) (by omega)).trans (by omega))
      refine sl_pX_4_6_5 (x := v_32) hx hb hts hown hh hA hK hP hS dX5_compared_35 (fun f_34 H locs ef_34 hP hS => ?_)
      have hI : sgI loX hiX f_34 := by rw [ef_34]; exact sgI.put hI 4 6 (show 0 ≤ (v_32 : Int32).toInt ∧ (v_32 : Int32).toInt ≤ 120 from ⟨by omega, by omega⟩)
      have hF : sgK WkX5_compared_4 f f_34 := sgK.put hF ef_34 (by rfl)
      refine lv_aload_n hx hb dX5_compared_38 rfl (lv_at hl 1 rfl) ?_
      refine lv_iload_n hx hb dX5_compared_39 rfl (lv_at hl 2 rfl) ?_
      refine sg_callv (va_runV (As := [.int 4]) (rest := []) ⟨hx, hb, hml, hown, hts⟩ (kX5_sum_4 l D ca za h hh f_34 L Q hI H.size) (sl_c5_sum_18_0_0_400_5 hts ⟨Nat.le_of_ble_eq_true rfl, Nat.le_of_ble_eq_true rfl⟩) (sl_vX_4 hA hK hP hS hZ) rfl rfl hl.1 rfl (lv_room (Nat.le_of_ble_eq_true rfl)) dX5_compared_40 ⟨Nat.le_refl _, Nat.le_refl _⟩) hA hS (fun f_35 L_36 Q_37 H locs hq hP hS => ?_)
      obtain ⟨⟨hI, hk_f_35, eL9, eQ9⟩, u_38⟩ := hq
      rw [eL9, eQ9] at hP; clear eL9 eQ9
      have hF : sgK WkX5_compared_4 f f_35 := sgK.tr hF hk_f_35 (by decide +kernel)
      refine lv_aload_n hx hb dX5_compared_43 rfl (lv_at hl 1 rfl) ?_
      refine lv_iload_n hx hb dX5_compared_44 rfl (lv_at hl 0 rfl) ?_
      refine sg_callv (va_runV (As := [.int r_14]) (rest := []) ⟨hx, hb, hml, hown, hts⟩ (kX5_write l D ca za h hh f_35 L Q hI r_14 H.size) (sl_c5_write_0_0_0_0_5 hts ⟨Nat.le_of_ble_eq_true rfl, Nat.le_of_ble_eq_true rfl⟩) (sl_vX_4 hA hK hP hS hZ) rfl rfl hl.1 rfl (lv_room (Nat.le_of_ble_eq_true rfl)) dX5_compared_45 ⟨Nat.le_refl _, Nat.le_refl _⟩) hA hS (fun f_39 L_40 Q_41 H locs hq hP hS => ?_)
      obtain ⟨⟨hI, hk_f_39, eL9, eQ9⟩, u_42⟩ := hq
      rw [eL9, eQ9] at hP; clear eL9 eQ9
      have hF : sgK WkX5_compared_4 f f_39 := sgK.tr hF hk_f_39 (by decide +kernel)
      exact hret _ _ _ _ f_39 L Q dX5_compared_48 hP hS ⟨⟨hI, hF, rfl, rfl⟩, (Eq.trans (Eq.symm (hs.trans ((if_pos c_30).trans (spl_e ev_32 (spl_e ef_34 (spl_e u_38 (spl_e u_42 rfl))))))) hsp)⟩
    · skip
      have c_31 : r_14.toInt ≠ 61 := (by first | exact (cm_ne1 ti_61 c) | (have z := bn_ne c; have k1 : (61 : Int32).toInt = 61 := ti_61; omega))
      replace hs := hs.trans ((if_neg c_31).trans rfl)
      refine lv_iload_n hx hb dX5_compared_22 rfl (lv_at hl 0 rfl) ?_
      refine lv_bipush (v := 62) hx hb dX5_compared_23 bp_62 ?_
      refine lv_icmp_ne (tgt := 48) hx hb dX5_compared_25 (by decide) (fun c => ?_) (fun c => ?_)
      · skip
        have c_43 : r_14.toInt ≠ 62 := (by first | exact (cm_ne1 ti_62 c) | (have z := bn_ne c; have k1 : (62 : Int32).toInt = 62 := ti_62; omega))
        exact hret _ _ _ _ f_1 L Q dX5_compared_48 hP hS ⟨⟨hI, hF, rfl, rfl⟩, (Eq.trans (Eq.symm (hs.trans ((if_neg c_43).trans rfl))) hsp)⟩
      · skip
        have c_44 : r_14.toInt = 62 := (by first | exact (cm_eq1 ti_62 c) | (have z := Int32.toInt_inj.mpr c; have k1 : (62 : Int32).toInt = 62 := ti_62; omega))
        refine lv_aload_n hx hb dX5_compared_28 rfl (lv_at hl 1 rfl) ?_
        refine lv_dup hx hb dX5_compared_29 rfl ?_
        refine sl_gX_4_6_5 (v := v_5) hx hb hts hown hK hP (show f_1 4 6 = v_5 from ev_5.symm) dX5_compared_30 ?_
        refine lv_iconst (v := 1) hx hb dX5_compared_33 ic_1 ?_
        refine lv_iadd hx hb dX5_compared_34 ?_
        refine lv_topi (fun v_45 ev_45 => ?_)
        have q_46 : v_45.toInt = v_5.toInt + 1 := by rw [ev_45]; first | exact cm_add ti_1 (by omega) (by omega) | (have k1 : (1 : Int32).toInt = 1 := ti_1; exact (bn_addI (by omega) (by omega)).trans (by omega))
        refine sl_pX_4_6_5 (x := v_45) hx hb hts hown hh hA hK hP hS dX5_compared_35 (fun f_47 H locs ef_47 hP hS => ?_)
        have hI : sgI loX hiX f_47 := by rw [ef_47]; exact sgI.put hI 4 6 (show 0 ≤ (v_45 : Int32).toInt ∧ (v_45 : Int32).toInt ≤ 120 from ⟨by omega, by omega⟩)
        have hF : sgK WkX5_compared_4 f f_47 := sgK.put hF ef_47 (by rfl)
        refine lv_aload_n hx hb dX5_compared_38 rfl (lv_at hl 1 rfl) ?_
        refine lv_iload_n hx hb dX5_compared_39 rfl (lv_at hl 2 rfl) ?_
        refine sg_callv (va_runV (As := [.int 4]) (rest := []) ⟨hx, hb, hml, hown, hts⟩ (kX5_sum_4 l D ca za h hh f_47 L Q hI H.size) (sl_c5_sum_18_0_0_400_5 hts ⟨Nat.le_of_ble_eq_true rfl, Nat.le_of_ble_eq_true rfl⟩) (sl_vX_4 hA hK hP hS hZ) rfl rfl hl.1 rfl (lv_room (Nat.le_of_ble_eq_true rfl)) dX5_compared_40 ⟨Nat.le_refl _, Nat.le_refl _⟩) hA hS (fun f_48 L_49 Q_50 H locs hq hP hS => ?_)
        obtain ⟨⟨hI, hk_f_48, eL9, eQ9⟩, u_51⟩ := hq
        rw [eL9, eQ9] at hP; clear eL9 eQ9
        have hF : sgK WkX5_compared_4 f f_48 := sgK.tr hF hk_f_48 (by decide +kernel)
        refine lv_aload_n hx hb dX5_compared_43 rfl (lv_at hl 1 rfl) ?_
        refine lv_iload_n hx hb dX5_compared_44 rfl (lv_at hl 0 rfl) ?_
        refine sg_callv (va_runV (As := [.int r_14]) (rest := []) ⟨hx, hb, hml, hown, hts⟩ (kX5_write l D ca za h hh f_48 L Q hI r_14 H.size) (sl_c5_write_0_0_0_0_5 hts ⟨Nat.le_of_ble_eq_true rfl, Nat.le_of_ble_eq_true rfl⟩) (sl_vX_4 hA hK hP hS hZ) rfl rfl hl.1 rfl (lv_room (Nat.le_of_ble_eq_true rfl)) dX5_compared_45 ⟨Nat.le_refl _, Nat.le_refl _⟩) hA hS (fun f_52 L_53 Q_54 H locs hq hP hS => ?_)
        obtain ⟨⟨hI, hk_f_52, eL9, eQ9⟩, u_55⟩ := hq
        rw [eL9, eQ9] at hP; clear eL9 eQ9
        have hF : sgK WkX5_compared_4 f f_52 := sgK.tr hF hk_f_52 (by decide +kernel)
        exact hret _ _ _ _ f_52 L Q dX5_compared_48 hP hS ⟨⟨hI, hF, rfl, rfl⟩, (Eq.trans (Eq.symm (hs.trans ((if_pos c_44).trans (spl_e ev_45 (spl_e ef_47 (spl_e u_51 (spl_e u_55 rfl))))))) hsp)⟩

abbrev WkX5_both_4 : List (Nat × Nat × Option Nat) := [(4, 4, some 6), (4, 4, some 7), (4, 4, some 8), (6, 6, none)]
set_option maxHeartbeats 4000000 in
set_option maxRecDepth 100000 in
theorem kX5_both_4 (l : Launch) (D : va_G) (ca : Nat → ClassId) (za h : Nat → Nat) (hh : sgH 52 h) (f : sg_F) (L : sg_L) (Q : sg_Q) (hI : sgI loX hiX f) (sz : Nat) : Met l yX5_both gwX5_both { frames := 20, cells := 0, slots := 0, locals := 445 } (sgP D vwCl (tyX ca) 52 h (eX ca h) zcX za f L Q sz [.ref (h 4), .int 4]) (sgQv D vwCl 52 h (eX ca h) sz (fun f1 L1 Q1 => ((sgI loX hiX f1 ∧ sgK WkX5_both_4 f f1 ∧ L1 = L ∧ Q1 = Q) ∧ (f1) = sX5_both_4 f L))) 0 0 (sgA 52 h sz) := by
  refine sg_ofWv (cc := cX5_both) (maxL := 3) RX5 (by decide) rfl rfl (Nat.le_of_ble_eq_true rfl) ?_
  intro p e s m below meth cd Qz ls hx hb hml hown hts hK hZ hP hS hl hret
  have hA := sgY.self (n := 52) (h := h) (sz := s.heap.size)
  have hl : lv_has ls 3 [(0, .ref (h 4)), (1, .int 4)] := hl
  obtain ⟨H, hH⟩ : ∃ z : Heap, z = s.heap := ⟨_, rfl⟩
  obtain ⟨locs, hlo⟩ : ∃ z : List Loc, z = [] := ⟨_, rfl⟩
  have hP : va_P D vwCl (sgw 52 h (eX ca h) f L Q) H := by rw [hH]; exact hP
  have hS : va_S (sgA 52 h s.heap.size) s.heap H locs := by rw [hH, hlo]; exact hS
  suffices hgo : W p l e ({ frames := 20, cells := 0, slots := 0, locals := 445 }) s m ([.ref (h 4), .int 4] : List Value).toArray below meth cd H locs 0 0 Qz (F0 m 0 ls []) by rw [hH, hlo] at hgo; exact hgo
  clear hH hlo
  obtain ⟨sp, hsp⟩ : ∃ z : sg_F, z = sX5_both_4 f L := ⟨_, rfl⟩
  have hs : sp = sX5_both_4 f L := hsp
  have hF : sgK WkX5_both_4 f f := sgK.rf
  have loop_7 : ∀ (n_7 : Nat) (y2_7 : Int32) (fp_7 : sg_F) (H : Heap) (locs : List Loc) (ls : Array Slot), sp = sX5_both_4_l7 n_7 y2_7 fp_7 L → 120 - y2_7.toInt < (n_7 : Int) → 0 ≤ y2_7.toInt ∧ y2_7.toInt ≤ 120 → sgI loX hiX fp_7 → sgK WkX5_both_4 f fp_7 → va_P D vwCl (sgw 52 h (eX ca h) fp_7 L Q) H → va_S (sgA 52 h s.heap.size) s.heap H locs → lv_has ls 3 [(0, .ref (h 4)), (1, .int 4), (2, .int y2_7)] → W p l e ({ frames := 20, cells := 0, slots := 0, locals := 445 }) s m ([.ref (h 4), .int 4] : List Value).toArray below meth cd H locs 0 0 Qz (F0 m 7 ls []) := by
    intro n_7
    induction n_7 with
    | zero => intro y2_7 fp_7 H locs ls hs hm_7 hy0_7 hI hF hP hS hl; exact absurd hm_7 (by omega)
    | succ n_7 ih_7 =>
      intro y2_7 fp_7 H locs ls hs hm_7 hy0_7 hI hF hP hS hl
      have hs : sp = sX5_both_4_h7 (sX5_both_4_l7 n_7) y2_7 fp_7 L := hs
      refine lv_iload_n hx hb dX5_both_7 rfl (lv_at hl 2 rfl) ?_
      refine lv_bipush (v := 120) hx hb dX5_both_8 bp_120 ?_
      refine lv_icmp_ge (tgt := 49) hx hb dX5_both_10 (by decide) (fun c => ?_) (fun c => ?_)
      · skip
        have c_1 : 120 ≤ y2_7.toInt := (by first | exact (cm_le0 ti_120 c) | (have z := bn_le c; have k1 : (120 : Int32).toInt = 120 := ti_120; omega))
        exact hret _ _ _ _ fp_7 L Q dX5_both_49 hP hS ⟨⟨hI, hF, rfl, rfl⟩, (Eq.trans (Eq.symm (hs.trans (((if_neg (Int.not_lt.mpr c_1)).trans rfl)))) hsp)⟩
      · skip
        have c_2 : y2_7.toInt < 120 := (by first | exact (cm_nle0 ti_120 c) | (have z := bn_nle c; have k1 : (120 : Int32).toInt = 120 := ti_120; omega))
        refine lv_aload_n hx hb dX5_both_13 rfl (lv_at hl 0 rfl) ?_
        obtain ⟨v_3, ev_3⟩ : ∃ z : Int32, z = fp_7 4 6 := ⟨_, rfl⟩
        have q_4 : 0 ≤ v_3.toInt ∧ v_3.toInt ≤ 120 := by rw [ev_3]; exact hI 4 6
        have q_5 : (fp_7 4 6).toInt = v_3.toInt := (congrArg Int32.toInt (show fp_7 4 6 = v_3 from ev_3.symm))
        obtain ⟨v_6, ev_6⟩ : ∃ z : Int32, z = fp_7 4 1 := ⟨_, rfl⟩
        have q_7 : 0 ≤ v_6.toInt ∧ v_6.toInt ≤ 120 := by rw [ev_6]; exact hI 4 1
        have q_8 : (fp_7 4 1).toInt = v_6.toInt := (congrArg Int32.toInt (show fp_7 4 1 = v_6 from ev_6.symm))
        refine sg_calli (va_runV (As := []) (rest := []) ⟨hx, hb, hml, hown, hts⟩ (kX5_next l D ca za h hh fp_7 L Q hI H.size) (sl_c5_next_0_0_0_0_5 hts ⟨Nat.le_of_ble_eq_true rfl, Nat.le_of_ble_eq_true rfl⟩) (sl_vX_4 hA hK hP hS hZ) rfl rfl hl.1 rfl (lv_room (Nat.le_of_ble_eq_true rfl)) dX5_both_14 ⟨Nat.le_refl _, Nat.le_refl _⟩) hA hS (fun r_12 f_9 L_10 Q_11 H locs hq hP hS => ?_)
        obtain ⟨⟨ef9, eL9, eQ9⟩, hq, p_13, u_14⟩ := hq
        replace hs := hs.trans ((if_pos c_2).trans (spl_e ev_3 (spl_e ev_6 (spl_e u_14 rfl))))
        rw [ef9, eL9, eQ9] at hP; clear ef9 eL9 eQ9
        refine lv_bipush (v := 38) hx hb dX5_both_17 bp_38 ?_
        refine lv_icmp_ne (tgt := 49) hx hb dX5_both_19 (by decide) (fun c => ?_) (fun c => ?_)
        · skip
          have c_15 : r_12.toInt ≠ 38 := (by first | exact (cm_ne1 ti_38 c) | (have z := bn_ne c; have k1 : (38 : Int32).toInt = 38 := ti_38; omega))
          exact hret _ _ _ _ fp_7 L Q dX5_both_49 hP hS ⟨⟨hI, hF, rfl, rfl⟩, (Eq.trans (Eq.symm (hs.trans ((if_neg c_15).trans rfl))) hsp)⟩
        · skip
          have c_16 : r_12.toInt = 38 := (by first | exact (cm_eq1 ti_38 c) | (have z := Int32.toInt_inj.mpr c; have k1 : (38 : Int32).toInt = 38 := ti_38; omega))
          refine lv_aload_n hx hb dX5_both_22 rfl (lv_at hl 0 rfl) ?_
          refine lv_dup hx hb dX5_both_23 rfl ?_
          refine sl_gX_4_6_5 (v := v_3) hx hb hts hown hK hP (show fp_7 4 6 = v_3 from ev_3.symm) dX5_both_24 ?_
          refine lv_iconst (v := 1) hx hb dX5_both_27 ic_1 ?_
          refine lv_iadd hx hb dX5_both_28 ?_
          refine lv_topi (fun v_17 ev_17 => ?_)
          have q_18 : v_17.toInt = v_3.toInt + 1 := by rw [ev_17]; first | exact cm_add ti_1 (by omega) (by omega) | (have k1 : (1 : Int32).toInt = 1 := ti_1; exact (bn_addI (by omega) (by omega)).trans (by omega))
          refine sl_pX_4_6_5 (x := v_17) hx hb hts hown hh hA hK hP hS dX5_both_29 (fun f_19 H locs ef_19 hP hS => ?_)
          have hI : sgI loX hiX f_19 := by rw [ef_19]; exact sgI.put hI 4 6 (show 0 ≤ (v_17 : Int32).toInt ∧ (v_17 : Int32).toInt ≤ 120 from ⟨by omega, by omega⟩)
          have hF : sgK WkX5_both_4 f f_19 := sgK.put hF ef_19 (by rfl)
          refine lv_aload_n hx hb dX5_both_32 rfl (lv_at hl 0 rfl) ?_
          refine lv_iload_n hx hb dX5_both_33 rfl (lv_at hl 1 rfl) ?_
          refine sg_callv (va_runV (As := [.int 4]) (rest := []) ⟨hx, hb, hml, hown, hts⟩ (kX5_compared_4 l D ca za h hh f_19 L Q hI H.size) (sl_c5_compared_19_0_0_423_5 hts ⟨Nat.le_of_ble_eq_true rfl, Nat.le_of_ble_eq_true rfl⟩) (sl_vX_4 hA hK hP hS hZ) rfl rfl hl.1 rfl (lv_room (Nat.le_of_ble_eq_true rfl)) dX5_both_34 ⟨Nat.le_refl _, Nat.le_refl _⟩) hA hS (fun f_20 L_21 Q_22 H locs hq hP hS => ?_)
          obtain ⟨⟨hI, hk_f_20, eL9, eQ9⟩, u_23⟩ := hq
          rw [eL9, eQ9] at hP; clear eL9 eQ9
          have hF : sgK WkX5_both_4 f f_20 := sgK.tr hF hk_f_20 (by decide +kernel)
          refine lv_aload_n hx hb dX5_both_37 rfl (lv_at hl 0 rfl) ?_
          refine lv_bipush (v := 38) hx hb dX5_both_38 bp_38 ?_
          refine sg_callv (va_runV (As := [.int 38]) (rest := []) ⟨hx, hb, hml, hown, hts⟩ (kX5_write l D ca za h hh f_20 L Q hI 38 H.size) (sl_c5_write_0_0_0_0_5 hts ⟨Nat.le_of_ble_eq_true rfl, Nat.le_of_ble_eq_true rfl⟩) (sl_vX_4 hA hK hP hS hZ) rfl rfl hl.1 rfl (lv_room (Nat.le_of_ble_eq_true rfl)) dX5_both_40 ⟨Nat.le_refl _, Nat.le_refl _⟩) hA hS (fun f_24 L_25 Q_26 H locs hq hP hS => ?_)
          obtain ⟨⟨hI, hk_f_24, eL9, eQ9⟩, u_27⟩ := hq
          rw [eL9, eQ9] at hP; clear eL9 eQ9
          have hF : sgK WkX5_both_4 f f_24 := sgK.tr hF hk_f_24 (by decide +kernel)
          obtain ⟨v_28, ev_28⟩ : ∃ z : Int32, z = y2_7 + 1 := ⟨_, rfl⟩
          have q_29 : v_28.toInt = y2_7.toInt + 1 := by rw [ev_28]; exact (bn_addc y2_7 1 (by decide) (by omega) (by omega))
          refine lv_iinc (v := v_28) (lv' := [(2, .int v_28), (0, .ref (h 4)), (1, .int 4)]) hx hb dX5_both_43 hl (k := 2) rfl (by rw [ev_28]; rfl) (by decide) rfl (fun ls hl => ?_)
          refine lv_goto (tgt := 7) hx hb dX5_both_46 (by decide) ?_
          exact ih_7 v_28 f_24 _ _ _ (hs.trans ((if_pos c_16).trans (spl_e ev_17 (spl_e ef_19 (spl_e u_23 (spl_e u_27 (spl_e ev_28 rfl))))))) (by omega) ⟨by omega, by omega⟩ hI hF hP hS (lv_sub hl [1, 2, 0] rfl)
  refine lv_aload_n hx hb dX5_both_0 rfl (lv_at hl 0 rfl) ?_
  refine lv_iload_n hx hb dX5_both_1 rfl (lv_at hl 1 rfl) ?_
  refine sg_callv (va_runV (As := [.int 4]) (rest := []) ⟨hx, hb, hml, hown, hts⟩ (kX5_compared_4 l D ca za h hh f L Q hI H.size) (sl_c5_compared_19_0_0_423_5 hts ⟨Nat.le_of_ble_eq_true rfl, Nat.le_of_ble_eq_true rfl⟩) (sl_vX_4 hA hK hP hS hZ) rfl rfl hl.1 rfl (lv_room (Nat.le_of_ble_eq_true rfl)) dX5_both_2 ⟨Nat.le_refl _, Nat.le_refl _⟩) hA hS (fun f_30 L_31 Q_32 H locs hq hP hS => ?_)
  obtain ⟨⟨hI, hk_f_30, eL9, eQ9⟩, u_33⟩ := hq
  rw [eL9, eQ9] at hP; clear eL9 eQ9
  have hF : sgK WkX5_both_4 f f_30 := sgK.tr hF hk_f_30 (by decide +kernel)
  refine lv_iconst (v := 0) hx hb dX5_both_5 ic_0 ?_
  refine lv_istore_n (lv' := [(2, .int 0), (0, .ref (h 4)), (1, .int 4)]) hx hb dX5_both_6 rfl hl (by decide) rfl (fun ls hl => ?_)
  exact loop_7 121 0 f_30 _ _ _ (hs.trans ((spl_e u_33 rfl))) (by have kc0 : (0 : Int32).toInt = 0 := ti_0; omega) (by decide) hI hF hP hS (lv_sub hl [1, 2, 0] rfl)

abbrev WkX5_either_4 : List (Nat × Nat × Option Nat) := [(4, 4, some 6), (4, 4, some 7), (4, 4, some 8), (6, 6, none)]
set_option maxHeartbeats 4000000 in
set_option maxRecDepth 100000 in
theorem kX5_either_4 (l : Launch) (D : va_G) (ca : Nat → ClassId) (za h : Nat → Nat) (hh : sgH 52 h) (f : sg_F) (L : sg_L) (Q : sg_Q) (hI : sgI loX hiX f) (sz : Nat) : Met l yX5_either gwX5_either { frames := 21, cells := 0, slots := 0, locals := 467 } (sgP D vwCl (tyX ca) 52 h (eX ca h) zcX za f L Q sz [.ref (h 4), .int 4]) (sgQv D vwCl 52 h (eX ca h) sz (fun f1 L1 Q1 => ((sgI loX hiX f1 ∧ sgK WkX5_either_4 f f1 ∧ L1 = L ∧ Q1 = Q) ∧ (f1) = sX5_either_4 f L))) 0 0 (sgA 52 h sz) := by
  refine sg_ofWv (cc := cX5_either) (maxL := 3) RX5 (by decide) rfl rfl (Nat.le_of_ble_eq_true rfl) ?_
  intro p e s m below meth cd Qz ls hx hb hml hown hts hK hZ hP hS hl hret
  have hA := sgY.self (n := 52) (h := h) (sz := s.heap.size)
  have hl : lv_has ls 3 [(0, .ref (h 4)), (1, .int 4)] := hl
  obtain ⟨H, hH⟩ : ∃ z : Heap, z = s.heap := ⟨_, rfl⟩
  obtain ⟨locs, hlo⟩ : ∃ z : List Loc, z = [] := ⟨_, rfl⟩
  have hP : va_P D vwCl (sgw 52 h (eX ca h) f L Q) H := by rw [hH]; exact hP
  have hS : va_S (sgA 52 h s.heap.size) s.heap H locs := by rw [hH, hlo]; exact hS
  suffices hgo : W p l e ({ frames := 21, cells := 0, slots := 0, locals := 467 }) s m ([.ref (h 4), .int 4] : List Value).toArray below meth cd H locs 0 0 Qz (F0 m 0 ls []) by rw [hH, hlo] at hgo; exact hgo
  clear hH hlo
  obtain ⟨sp, hsp⟩ : ∃ z : sg_F, z = sX5_either_4 f L := ⟨_, rfl⟩
  have hs : sp = sX5_either_4 f L := hsp
  have hF : sgK WkX5_either_4 f f := sgK.rf
  have loop_7 : ∀ (n_7 : Nat) (y2_7 : Int32) (fp_7 : sg_F) (H : Heap) (locs : List Loc) (ls : Array Slot), sp = sX5_either_4_l7 n_7 y2_7 fp_7 L → 120 - y2_7.toInt < (n_7 : Int) → 0 ≤ y2_7.toInt ∧ y2_7.toInt ≤ 120 → sgI loX hiX fp_7 → sgK WkX5_either_4 f fp_7 → va_P D vwCl (sgw 52 h (eX ca h) fp_7 L Q) H → va_S (sgA 52 h s.heap.size) s.heap H locs → lv_has ls 3 [(0, .ref (h 4)), (1, .int 4), (2, .int y2_7)] → W p l e ({ frames := 21, cells := 0, slots := 0, locals := 467 }) s m ([.ref (h 4), .int 4] : List Value).toArray below meth cd H locs 0 0 Qz (F0 m 7 ls []) := by
    intro n_7
    induction n_7 with
    | zero => intro y2_7 fp_7 H locs ls hs hm_7 hy0_7 hI hF hP hS hl; exact absurd hm_7 (by omega)
    | succ n_7 ih_7 =>
      intro y2_7 fp_7 H locs ls hs hm_7 hy0_7 hI hF hP hS hl
      have hs : sp = sX5_either_4_h7 (sX5_either_4_l7 n_7) y2_7 fp_7 L := hs
      refine lv_iload_n hx hb dX5_either_7 rfl (lv_at hl 2 rfl) ?_
      refine lv_bipush (v := 120) hx hb dX5_either_8 bp_120 ?_
      refine lv_icmp_ge (tgt := 49) hx hb dX5_either_10 (by decide) (fun c => ?_) (fun c => ?_)
      · skip
        have c_1 : 120 ≤ y2_7.toInt := (by first | exact (cm_le0 ti_120 c) | (have z := bn_le c; have k1 : (120 : Int32).toInt = 120 := ti_120; omega))
        exact hret _ _ _ _ fp_7 L Q dX5_either_49 hP hS ⟨⟨hI, hF, rfl, rfl⟩, (Eq.trans (Eq.symm (hs.trans (((if_neg (Int.not_lt.mpr c_1)).trans rfl)))) hsp)⟩
      · skip
        have c_2 : y2_7.toInt < 120 := (by first | exact (cm_nle0 ti_120 c) | (have z := bn_nle c; have k1 : (120 : Int32).toInt = 120 := ti_120; omega))
        refine lv_aload_n hx hb dX5_either_13 rfl (lv_at hl 0 rfl) ?_
        obtain ⟨v_3, ev_3⟩ : ∃ z : Int32, z = fp_7 4 6 := ⟨_, rfl⟩
        have q_4 : 0 ≤ v_3.toInt ∧ v_3.toInt ≤ 120 := by rw [ev_3]; exact hI 4 6
        have q_5 : (fp_7 4 6).toInt = v_3.toInt := (congrArg Int32.toInt (show fp_7 4 6 = v_3 from ev_3.symm))
        obtain ⟨v_6, ev_6⟩ : ∃ z : Int32, z = fp_7 4 1 := ⟨_, rfl⟩
        have q_7 : 0 ≤ v_6.toInt ∧ v_6.toInt ≤ 120 := by rw [ev_6]; exact hI 4 1
        have q_8 : (fp_7 4 1).toInt = v_6.toInt := (congrArg Int32.toInt (show fp_7 4 1 = v_6 from ev_6.symm))
        refine sg_calli (va_runV (As := []) (rest := []) ⟨hx, hb, hml, hown, hts⟩ (kX5_next l D ca za h hh fp_7 L Q hI H.size) (sl_c5_next_0_0_0_0_5 hts ⟨Nat.le_of_ble_eq_true rfl, Nat.le_of_ble_eq_true rfl⟩) (sl_vX_4 hA hK hP hS hZ) rfl rfl hl.1 rfl (lv_room (Nat.le_of_ble_eq_true rfl)) dX5_either_14 ⟨Nat.le_refl _, Nat.le_refl _⟩) hA hS (fun r_12 f_9 L_10 Q_11 H locs hq hP hS => ?_)
        obtain ⟨⟨ef9, eL9, eQ9⟩, hq, p_13, u_14⟩ := hq
        replace hs := hs.trans ((if_pos c_2).trans (spl_e ev_3 (spl_e ev_6 (spl_e u_14 rfl))))
        rw [ef9, eL9, eQ9] at hP; clear ef9 eL9 eQ9
        refine lv_bipush (v := 124) hx hb dX5_either_17 bp_124 ?_
        refine lv_icmp_ne (tgt := 49) hx hb dX5_either_19 (by decide) (fun c => ?_) (fun c => ?_)
        · skip
          have c_15 : r_12.toInt ≠ 124 := (by first | exact (cm_ne1 ti_124 c) | (have z := bn_ne c; have k1 : (124 : Int32).toInt = 124 := ti_124; omega))
          exact hret _ _ _ _ fp_7 L Q dX5_either_49 hP hS ⟨⟨hI, hF, rfl, rfl⟩, (Eq.trans (Eq.symm (hs.trans ((if_neg c_15).trans rfl))) hsp)⟩
        · skip
          have c_16 : r_12.toInt = 124 := (by first | exact (cm_eq1 ti_124 c) | (have z := Int32.toInt_inj.mpr c; have k1 : (124 : Int32).toInt = 124 := ti_124; omega))
          refine lv_aload_n hx hb dX5_either_22 rfl (lv_at hl 0 rfl) ?_
          refine lv_dup hx hb dX5_either_23 rfl ?_
          refine sl_gX_4_6_5 (v := v_3) hx hb hts hown hK hP (show fp_7 4 6 = v_3 from ev_3.symm) dX5_either_24 ?_
          refine lv_iconst (v := 1) hx hb dX5_either_27 ic_1 ?_
          refine lv_iadd hx hb dX5_either_28 ?_
          refine lv_topi (fun v_17 ev_17 => ?_)
          have q_18 : v_17.toInt = v_3.toInt + 1 := by rw [ev_17]; first | exact cm_add ti_1 (by omega) (by omega) | (have k1 : (1 : Int32).toInt = 1 := ti_1; exact (bn_addI (by omega) (by omega)).trans (by omega))
          refine sl_pX_4_6_5 (x := v_17) hx hb hts hown hh hA hK hP hS dX5_either_29 (fun f_19 H locs ef_19 hP hS => ?_)
          have hI : sgI loX hiX f_19 := by rw [ef_19]; exact sgI.put hI 4 6 (show 0 ≤ (v_17 : Int32).toInt ∧ (v_17 : Int32).toInt ≤ 120 from ⟨by omega, by omega⟩)
          have hF : sgK WkX5_either_4 f f_19 := sgK.put hF ef_19 (by rfl)
          refine lv_aload_n hx hb dX5_either_32 rfl (lv_at hl 0 rfl) ?_
          refine lv_iload_n hx hb dX5_either_33 rfl (lv_at hl 1 rfl) ?_
          refine sg_callv (va_runV (As := [.int 4]) (rest := []) ⟨hx, hb, hml, hown, hts⟩ (kX5_both_4 l D ca za h hh f_19 L Q hI H.size) (sl_c5_both_20_0_0_445_5 hts ⟨Nat.le_of_ble_eq_true rfl, Nat.le_of_ble_eq_true rfl⟩) (sl_vX_4 hA hK hP hS hZ) rfl rfl hl.1 rfl (lv_room (Nat.le_of_ble_eq_true rfl)) dX5_either_34 ⟨Nat.le_refl _, Nat.le_refl _⟩) hA hS (fun f_20 L_21 Q_22 H locs hq hP hS => ?_)
          obtain ⟨⟨hI, hk_f_20, eL9, eQ9⟩, u_23⟩ := hq
          rw [eL9, eQ9] at hP; clear eL9 eQ9
          have hF : sgK WkX5_either_4 f f_20 := sgK.tr hF hk_f_20 (by decide +kernel)
          refine lv_aload_n hx hb dX5_either_37 rfl (lv_at hl 0 rfl) ?_
          refine lv_bipush (v := 124) hx hb dX5_either_38 bp_124 ?_
          refine sg_callv (va_runV (As := [.int 124]) (rest := []) ⟨hx, hb, hml, hown, hts⟩ (kX5_write l D ca za h hh f_20 L Q hI 124 H.size) (sl_c5_write_0_0_0_0_5 hts ⟨Nat.le_of_ble_eq_true rfl, Nat.le_of_ble_eq_true rfl⟩) (sl_vX_4 hA hK hP hS hZ) rfl rfl hl.1 rfl (lv_room (Nat.le_of_ble_eq_true rfl)) dX5_either_40 ⟨Nat.le_refl _, Nat.le_refl _⟩) hA hS (fun f_24 L_25 Q_26 H locs hq hP hS => ?_)
          obtain ⟨⟨hI, hk_f_24, eL9, eQ9⟩, u_27⟩ := hq
          rw [eL9, eQ9] at hP; clear eL9 eQ9
          have hF : sgK WkX5_either_4 f f_24 := sgK.tr hF hk_f_24 (by decide +kernel)
          obtain ⟨v_28, ev_28⟩ : ∃ z : Int32, z = y2_7 + 1 := ⟨_, rfl⟩
          have q_29 : v_28.toInt = y2_7.toInt + 1 := by rw [ev_28]; exact (bn_addc y2_7 1 (by decide) (by omega) (by omega))
          refine lv_iinc (v := v_28) (lv' := [(2, .int v_28), (0, .ref (h 4)), (1, .int 4)]) hx hb dX5_either_43 hl (k := 2) rfl (by rw [ev_28]; rfl) (by decide) rfl (fun ls hl => ?_)
          refine lv_goto (tgt := 7) hx hb dX5_either_46 (by decide) ?_
          exact ih_7 v_28 f_24 _ _ _ (hs.trans ((if_pos c_16).trans (spl_e ev_17 (spl_e ef_19 (spl_e u_23 (spl_e u_27 (spl_e ev_28 rfl))))))) (by omega) ⟨by omega, by omega⟩ hI hF hP hS (lv_sub hl [1, 2, 0] rfl)
  refine lv_aload_n hx hb dX5_either_0 rfl (lv_at hl 0 rfl) ?_
  refine lv_iload_n hx hb dX5_either_1 rfl (lv_at hl 1 rfl) ?_
  refine sg_callv (va_runV (As := [.int 4]) (rest := []) ⟨hx, hb, hml, hown, hts⟩ (kX5_both_4 l D ca za h hh f L Q hI H.size) (sl_c5_both_20_0_0_445_5 hts ⟨Nat.le_of_ble_eq_true rfl, Nat.le_of_ble_eq_true rfl⟩) (sl_vX_4 hA hK hP hS hZ) rfl rfl hl.1 rfl (lv_room (Nat.le_of_ble_eq_true rfl)) dX5_either_2 ⟨Nat.le_refl _, Nat.le_refl _⟩) hA hS (fun f_30 L_31 Q_32 H locs hq hP hS => ?_)
  obtain ⟨⟨hI, hk_f_30, eL9, eQ9⟩, u_33⟩ := hq
  rw [eL9, eQ9] at hP; clear eL9 eQ9
  have hF : sgK WkX5_either_4 f f_30 := sgK.tr hF hk_f_30 (by decide +kernel)
  refine lv_iconst (v := 0) hx hb dX5_either_5 ic_0 ?_
  refine lv_istore_n (lv' := [(2, .int 0), (0, .ref (h 4)), (1, .int 4)]) hx hb dX5_either_6 rfl hl (by decide) rfl (fun ls hl => ?_)
  exact loop_7 121 0 f_30 _ _ _ (hs.trans ((spl_e u_33 rfl))) (by have kc0 : (0 : Int32).toInt = 0 := ti_0; omega) (by decide) hI hF hP hS (lv_sub hl [1, 2, 0] rfl)

abbrev WkX5_opened_4 : List (Nat × Nat × Option Nat) := [(4, 4, some 6), (4, 4, some 7), (4, 4, some 8), (6, 6, none)]
set_option maxHeartbeats 4000000 in
set_option maxRecDepth 100000 in
theorem kX5_opened_4 (l : Launch) (D : va_G) (ca : Nat → ClassId) (za h : Nat → Nat) (hh : sgH 52 h) (f : sg_F) (L : sg_L) (Q : sg_Q) (hI : sgI loX hiX f) (x0 : Int32) (b0 : 33 ≤ x0.toInt ∧ x0.toInt ≤ 49) (sz : Nat) : Met l yX5_opened gwX5_opened { frames := 22, cells := 0, slots := 0, locals := 489 } (sgP D vwCl (tyX ca) 52 h (eX ca h) zcX za f L Q sz [.ref (h 4), .int x0, .int 4]) (sgQv D vwCl 52 h (eX ca h) sz (fun f1 L1 Q1 => ((sgI loX hiX f1 ∧ sgK WkX5_opened_4 f f1 ∧ L1 = L ∧ Q1 = Q) ∧ (f1) = sX5_opened_4 x0 f L))) 0 0 (sgA 52 h sz) := by
  refine sg_ofWv (cc := cX5_opened) (maxL := 3) RX5 (by decide) rfl rfl (Nat.le_of_ble_eq_true rfl) ?_
  intro p e s m below meth cd Qz ls hx hb hml hown hts hK hZ hP hS hl hret
  have hA := sgY.self (n := 52) (h := h) (sz := s.heap.size)
  have hl : lv_has ls 3 [(0, .ref (h 4)), (1, .int x0), (2, .int 4)] := hl
  obtain ⟨H, hH⟩ : ∃ z : Heap, z = s.heap := ⟨_, rfl⟩
  obtain ⟨locs, hlo⟩ : ∃ z : List Loc, z = [] := ⟨_, rfl⟩
  have hP : va_P D vwCl (sgw 52 h (eX ca h) f L Q) H := by rw [hH]; exact hP
  have hS : va_S (sgA 52 h s.heap.size) s.heap H locs := by rw [hH, hlo]; exact hS
  suffices hgo : W p l e ({ frames := 22, cells := 0, slots := 0, locals := 489 }) s m ([.ref (h 4), .int x0, .int 4] : List Value).toArray below meth cd H locs 0 0 Qz (F0 m 0 ls []) by rw [hH, hlo] at hgo; exact hgo
  clear hH hlo
  obtain ⟨sp, hsp⟩ : ∃ z : sg_F, z = sX5_opened_4 x0 f L := ⟨_, rfl⟩
  have hs : sp = sX5_opened_4 x0 f L := hsp
  have hF : sgK WkX5_opened_4 f f := sgK.rf
  refine lv_iload_n hx hb dX5_opened_0 rfl (lv_at hl 1 rfl) ?_
  refine lv_bipush (v := 40) hx hb dX5_opened_1 bp_40 ?_
  refine lv_icmp_eq (tgt := 29) hx hb dX5_opened_3 (by decide) (fun c => ?_) (fun c => ?_)
  · skip
    have c_1 : x0.toInt = 40 := (by first | exact (cm_eq1 ti_40 c) | (have z := Int32.toInt_inj.mpr c; have k1 : (40 : Int32).toInt = 40 := ti_40; omega))
    refine lv_aload_n hx hb dX5_opened_29 rfl (lv_at hl 0 rfl) ?_
    refine lv_iload_n hx hb dX5_opened_30 rfl (lv_at hl 2 rfl) ?_
    refine sg_callv (va_runV (As := [.int 4]) (rest := []) ⟨hx, hb, hml, hown, hts⟩ (kX5_either_4 l D ca za h hh f L Q hI H.size) (sl_c5_either_21_0_0_467_5 hts ⟨Nat.le_of_ble_eq_true rfl, Nat.le_of_ble_eq_true rfl⟩) (sl_vX_4 hA hK hP hS hZ) rfl rfl hl.1 rfl (lv_room (Nat.le_of_ble_eq_true rfl)) dX5_opened_31 ⟨Nat.le_refl _, Nat.le_refl _⟩) hA hS (fun f_3 L_4 Q_5 H locs hq hP hS => ?_)
    obtain ⟨⟨hI, hk_f_3, eL9, eQ9⟩, u_6⟩ := hq
    rw [eL9, eQ9] at hP; clear eL9 eQ9
    have hF : sgK WkX5_opened_4 f f_3 := sgK.tr hF hk_f_3 (by decide +kernel)
    refine lv_aload_n hx hb dX5_opened_34 rfl (lv_at hl 0 rfl) ?_
    obtain ⟨v_7, ev_7⟩ : ∃ z : Int32, z = f_3 4 6 := ⟨_, rfl⟩
    have q_8 : 0 ≤ v_7.toInt ∧ v_7.toInt ≤ 120 := by rw [ev_7]; exact hI 4 6
    have q_9 : (f_3 4 6).toInt = v_7.toInt := (congrArg Int32.toInt (show f_3 4 6 = v_7 from ev_7.symm))
    obtain ⟨v_10, ev_10⟩ : ∃ z : Int32, z = f_3 4 1 := ⟨_, rfl⟩
    have q_11 : 0 ≤ v_10.toInt ∧ v_10.toInt ≤ 120 := by rw [ev_10]; exact hI 4 1
    have q_12 : (f_3 4 1).toInt = v_10.toInt := (congrArg Int32.toInt (show f_3 4 1 = v_10 from ev_10.symm))
    refine sg_calli (va_runV (As := []) (rest := []) ⟨hx, hb, hml, hown, hts⟩ (kX5_next l D ca za h hh f_3 L Q hI H.size) (sl_c5_next_0_0_0_0_5 hts ⟨Nat.le_of_ble_eq_true rfl, Nat.le_of_ble_eq_true rfl⟩) (sl_vX_4 hA hK hP hS hZ) rfl rfl hl.1 rfl (lv_room (Nat.le_of_ble_eq_true rfl)) dX5_opened_35 ⟨Nat.le_refl _, Nat.le_refl _⟩) hA hS (fun r_16 f_13 L_14 Q_15 H locs hq hP hS => ?_)
    obtain ⟨⟨ef9, eL9, eQ9⟩, hq, p_17, u_18⟩ := hq
    replace hs := hs.trans ((if_pos c_1).trans (spl_e u_6 (spl_e ev_7 (spl_e ev_10 (spl_e u_18 rfl)))))
    rw [ef9, eL9, eQ9] at hP; clear ef9 eL9 eQ9
    refine lv_bipush (v := 41) hx hb dX5_opened_38 bp_41 ?_
    refine lv_icmp_ne (tgt := 56) hx hb dX5_opened_40 (by decide) (fun c => ?_) (fun c => ?_)
    · skip
      have c_19 : r_16.toInt ≠ 41 := (by first | exact (cm_ne1 ti_41 c) | (have z := bn_ne c; have k1 : (41 : Int32).toInt = 41 := ti_41; omega))
      refine lv_aload_n hx hb dX5_opened_56 rfl (lv_at hl 0 rfl) ?_
      refine sg_callv (va_runV (As := []) (rest := []) ⟨hx, hb, hml, hown, hts⟩ (kX5_fail l D ca za h hh f_3 L Q hI H.size) (sl_c5_fail_0_0_0_0_5 hts ⟨Nat.le_of_ble_eq_true rfl, Nat.le_of_ble_eq_true rfl⟩) (sl_vX_4 hA hK hP hS hZ) rfl rfl hl.1 rfl (lv_room (Nat.le_of_ble_eq_true rfl)) dX5_opened_57 ⟨Nat.le_refl _, Nat.le_refl _⟩) hA hS (fun f_21 L_22 Q_23 H locs hq hP hS => ?_)
      obtain ⟨⟨hI, hk_f_21, eL9, eQ9⟩, u_24⟩ := hq
      rw [eL9, eQ9] at hP; clear eL9 eQ9
      have hF : sgK WkX5_opened_4 f f_21 := sgK.tr hF hk_f_21 (by decide +kernel)
      exact hret _ _ _ _ f_21 L Q dX5_opened_60 hP hS ⟨⟨hI, hF, rfl, rfl⟩, (Eq.trans (Eq.symm (hs.trans ((if_neg c_19).trans (spl_e u_24 rfl)))) hsp)⟩
    · skip
      have c_20 : r_16.toInt = 41 := (by first | exact (cm_eq1 ti_41 c) | (have z := Int32.toInt_inj.mpr c; have k1 : (41 : Int32).toInt = 41 := ti_41; omega))
      refine lv_aload_n hx hb dX5_opened_43 rfl (lv_at hl 0 rfl) ?_
      refine lv_dup hx hb dX5_opened_44 rfl ?_
      refine sl_gX_4_6_5 (v := v_7) hx hb hts hown hK hP (show f_3 4 6 = v_7 from ev_7.symm) dX5_opened_45 ?_
      refine lv_iconst (v := 1) hx hb dX5_opened_48 ic_1 ?_
      refine lv_iadd hx hb dX5_opened_49 ?_
      refine lv_topi (fun v_25 ev_25 => ?_)
      have q_26 : v_25.toInt = v_7.toInt + 1 := by rw [ev_25]; first | exact cm_add ti_1 (by omega) (by omega) | (have k1 : (1 : Int32).toInt = 1 := ti_1; exact (bn_addI (by omega) (by omega)).trans (by omega))
      refine sl_pX_4_6_5 (x := v_25) hx hb hts hown hh hA hK hP hS dX5_opened_50 (fun f_27 H locs ef_27 hP hS => ?_)
      have hI : sgI loX hiX f_27 := by rw [ef_27]; exact sgI.put hI 4 6 (show 0 ≤ (v_25 : Int32).toInt ∧ (v_25 : Int32).toInt ≤ 120 from ⟨by omega, by omega⟩)
      have hF : sgK WkX5_opened_4 f f_27 := sgK.put hF ef_27 (by rfl)
      refine lv_goto (tgt := 60) hx hb dX5_opened_53 (by decide) ?_
      exact hret _ _ _ _ f_27 L Q dX5_opened_60 hP hS ⟨⟨hI, hF, rfl, rfl⟩, (Eq.trans (Eq.symm (hs.trans ((if_pos c_20).trans (spl_e ev_25 (spl_e ef_27 rfl))))) hsp)⟩
  · skip
    have c_2 : x0.toInt ≠ 40 := (by first | exact (cm_ne1 ti_40 c) | (have z := bn_ne c; have k1 : (40 : Int32).toInt = 40 := ti_40; omega))
    refine lv_aload_n hx hb dX5_opened_6 rfl (lv_at hl 0 rfl) ?_
    refine lv_iload_n hx hb dX5_opened_7 rfl (lv_at hl 2 rfl) ?_
    refine sg_callv (va_runV (As := [.int 4]) (rest := []) ⟨hx, hb, hml, hown, hts⟩ (kX5_operand_4 l D ca za h hh f L Q hI H.size) (sl_c5_operand_16_0_0_355_5 hts ⟨Nat.le_of_ble_eq_true rfl, Nat.le_of_ble_eq_true rfl⟩) (sl_vX_4 hA hK hP hS hZ) rfl rfl hl.1 rfl (lv_room (Nat.le_of_ble_eq_true rfl)) dX5_opened_8 ⟨Nat.le_refl _, Nat.le_refl _⟩) hA hS (fun f_28 L_29 Q_30 H locs hq hP hS => ?_)
    obtain ⟨⟨hI, hk_f_28, eL9, eQ9⟩, u_31⟩ := hq
    replace hs := hs.trans ((if_neg c_2).trans (spl_e u_31 rfl))
    rw [eL9, eQ9] at hP; clear eL9 eQ9
    have hF : sgK WkX5_opened_4 f f_28 := sgK.tr hF hk_f_28 (by decide +kernel)
    refine lv_aload_n hx hb dX5_opened_11 rfl (lv_at hl 0 rfl) ?_
    refine lv_iload_n hx hb dX5_opened_12 rfl (lv_at hl 1 rfl) ?_
    refine lv_bipush (v := 33) hx hb dX5_opened_13 bp_33 ?_
    refine lv_icmp_ne (tgt := 23) hx hb dX5_opened_15 (by decide) (fun c => ?_) (fun c => ?_)
    · skip
      have c_32 : x0.toInt ≠ 33 := (by first | exact (cm_ne1 ti_33 c) | (have z := bn_ne c; have k1 : (33 : Int32).toInt = 33 := ti_33; omega))
      refine lv_bipush (v := 126) hx hb dX5_opened_23 bp_126 ?_
      refine sg_callv (va_runV (As := [.int 126]) (rest := []) ⟨hx, hb, hml, hown, hts⟩ (kX5_write l D ca za h hh f_28 L Q hI 126 H.size) (sl_c5_write_0_0_0_0_5 hts ⟨Nat.le_of_ble_eq_true rfl, Nat.le_of_ble_eq_true rfl⟩) (sl_vX_4 hA hK hP hS hZ) rfl rfl hl.1 rfl (lv_room (Nat.le_of_ble_eq_true rfl)) dX5_opened_25 ⟨Nat.le_refl _, Nat.le_refl _⟩) hA hS (fun f_34 L_35 Q_36 H locs hq hP hS => ?_)
      obtain ⟨⟨hI, hk_f_34, eL9, eQ9⟩, u_37⟩ := hq
      rw [eL9, eQ9] at hP; clear eL9 eQ9
      have hF : sgK WkX5_opened_4 f f_34 := sgK.tr hF hk_f_34 (by decide +kernel)
      exact hret _ _ _ _ f_34 L Q dX5_opened_28 hP hS ⟨⟨hI, hF, rfl, rfl⟩, (Eq.trans (Eq.symm (hs.trans ((if_neg c_32).trans (spl_e u_37 rfl)))) hsp)⟩
    · skip
      have c_33 : x0.toInt = 33 := (by first | exact (cm_eq1 ti_33 c) | (have z := Int32.toInt_inj.mpr c; have k1 : (33 : Int32).toInt = 33 := ti_33; omega))
      refine lv_bipush (v := 33) hx hb dX5_opened_18 bp_33 ?_
      refine lv_goto (tgt := 25) hx hb dX5_opened_20 (by decide) ?_
      refine sg_callv (va_runV (As := [.int 33]) (rest := []) ⟨hx, hb, hml, hown, hts⟩ (kX5_write l D ca za h hh f_28 L Q hI 33 H.size) (sl_c5_write_0_0_0_0_5 hts ⟨Nat.le_of_ble_eq_true rfl, Nat.le_of_ble_eq_true rfl⟩) (sl_vX_4 hA hK hP hS hZ) rfl rfl hl.1 rfl (lv_room (Nat.le_of_ble_eq_true rfl)) dX5_opened_25 ⟨Nat.le_refl _, Nat.le_refl _⟩) hA hS (fun f_38 L_39 Q_40 H locs hq hP hS => ?_)
      obtain ⟨⟨hI, hk_f_38, eL9, eQ9⟩, u_41⟩ := hq
      rw [eL9, eQ9] at hP; clear eL9 eQ9
      have hF : sgK WkX5_opened_4 f f_38 := sgK.tr hF hk_f_38 (by decide +kernel)
      exact hret _ _ _ _ f_38 L Q dX5_opened_28 hP hS ⟨⟨hI, hF, rfl, rfl⟩, (Eq.trans (Eq.symm (hs.trans ((if_pos c_33).trans (spl_e u_41 rfl)))) hsp)⟩

abbrev WkX5_operand_3 : List (Nat × Nat × Option Nat) := [(4, 4, some 6), (4, 4, some 7), (4, 4, some 8), (6, 6, none)]
set_option maxHeartbeats 4000000 in
set_option maxRecDepth 100000 in
theorem kX5_operand_3 (l : Launch) (D : va_G) (ca : Nat → ClassId) (za h : Nat → Nat) (hh : sgH 52 h) (f : sg_F) (L : sg_L) (Q : sg_Q) (hI : sgI loX hiX f) (sz : Nat) : Met l yX5_operand gwX5_operand { frames := 23, cells := 0, slots := 0, locals := 511 } (sgP D vwCl (tyX ca) 52 h (eX ca h) zcX za f L Q sz [.ref (h 4), .int 3]) (sgQv D vwCl 52 h (eX ca h) sz (fun f1 L1 Q1 => ((sgI loX hiX f1 ∧ sgK WkX5_operand_3 f f1 ∧ L1 = L ∧ Q1 = Q) ∧ (f1) = sX5_operand_3 f L))) 0 0 (sgA 52 h sz) := by
  refine sg_ofWv (cc := cX5_operand) (maxL := 3) RX5 (by decide) rfl rfl (Nat.le_of_ble_eq_true rfl) ?_
  intro p e s m below meth cd Qz ls hx hb hml hown hts hK hZ hP hS hl hret
  have hA := sgY.self (n := 52) (h := h) (sz := s.heap.size)
  have hl : lv_has ls 3 [(0, .ref (h 4)), (1, .int 3)] := hl
  obtain ⟨H, hH⟩ : ∃ z : Heap, z = s.heap := ⟨_, rfl⟩
  obtain ⟨locs, hlo⟩ : ∃ z : List Loc, z = [] := ⟨_, rfl⟩
  have hP : va_P D vwCl (sgw 52 h (eX ca h) f L Q) H := by rw [hH]; exact hP
  have hS : va_S (sgA 52 h s.heap.size) s.heap H locs := by rw [hH, hlo]; exact hS
  suffices hgo : W p l e ({ frames := 23, cells := 0, slots := 0, locals := 511 }) s m ([.ref (h 4), .int 3] : List Value).toArray below meth cd H locs 0 0 Qz (F0 m 0 ls []) by rw [hH, hlo] at hgo; exact hgo
  clear hH hlo
  obtain ⟨sp, hsp⟩ : ∃ z : sg_F, z = sX5_operand_3 f L := ⟨_, rfl⟩
  have hs : sp = sX5_operand_3 f L := hsp
  have hF : sgK WkX5_operand_3 f f := sgK.rf
  refine lv_aload_n hx hb dX5_operand_0 rfl (lv_at hl 0 rfl) ?_
  obtain ⟨v_1, ev_1⟩ : ∃ z : Int32, z = f 4 6 := ⟨_, rfl⟩
  have q_2 : 0 ≤ v_1.toInt ∧ v_1.toInt ≤ 120 := by rw [ev_1]; exact hI 4 6
  have q_3 : (f 4 6).toInt = v_1.toInt := (congrArg Int32.toInt (show f 4 6 = v_1 from ev_1.symm))
  obtain ⟨v_4, ev_4⟩ : ∃ z : Int32, z = f 4 1 := ⟨_, rfl⟩
  have q_5 : 0 ≤ v_4.toInt ∧ v_4.toInt ≤ 120 := by rw [ev_4]; exact hI 4 1
  have q_6 : (f 4 1).toInt = v_4.toInt := (congrArg Int32.toInt (show f 4 1 = v_4 from ev_4.symm))
  refine sg_calli (va_runV (As := []) (rest := []) ⟨hx, hb, hml, hown, hts⟩ (kX5_next l D ca za h hh f L Q hI H.size) (sl_c5_next_0_0_0_0_5 hts ⟨Nat.le_of_ble_eq_true rfl, Nat.le_of_ble_eq_true rfl⟩) (sl_vX_4 hA hK hP hS hZ) rfl rfl hl.1 rfl (lv_room (Nat.le_of_ble_eq_true rfl)) dX5_operand_1 ⟨Nat.le_refl _, Nat.le_refl _⟩) hA hS (fun r_10 f_7 L_8 Q_9 H locs hq hP hS => ?_)
  obtain ⟨⟨ef9, eL9, eQ9⟩, hq, p_11, u_12⟩ := hq
  rw [ef9, eL9, eQ9] at hP; clear ef9 eL9 eQ9
  refine lv_istore_n (lv' := [(2, .int r_10), (0, .ref (h 4)), (1, .int 3)]) hx hb dX5_operand_4 rfl hl (by decide) rfl (fun ls hl => ?_)
  refine lv_iload_n hx hb dX5_operand_5 rfl (lv_at hl 0 rfl) ?_
  refine sg_calli (va_runS (As := [.int r_10]) (rest := []) ⟨hx, hb, hml, hown, hts⟩ (kX5_isDigit l D ca za h hh f L Q hI r_10 ⟨by omega, by omega⟩ H.size) (va_cwS 1 hts (gw_S (fun _ h => List.mem_cons_of_mem _ h) mw_505 mw_506 mw_73 mw_504) rfl rfl rfl hd_yX5_isDigit.2 ⟨Nat.le_of_ble_eq_true rfl, Nat.le_of_ble_eq_true rfl⟩) (sg_preS hA hK hP hS hZ) rfl rfl hl.1 rfl (lv_room (Nat.le_of_ble_eq_true rfl)) dX5_operand_6 ⟨Nat.le_refl _, Nat.le_refl _⟩) hA hS (fun r_16 f_13 L_14 Q_15 H locs hq hP hS => ?_)
  obtain ⟨⟨ef9, eL9, eQ9⟩, hq, u_17⟩ := hq
  replace hs := hs.trans (spl_e ev_1 (spl_e ev_4 (spl_e u_12 (spl_e u_17 rfl))))
  rw [ef9, eL9, eQ9] at hP; clear ef9 eL9 eQ9
  rcases hq with ⟨rfl, hq⟩ | ⟨rfl, hq⟩
  · skip
    have hc_18 := hq
    refine lv_if_eq (tgt := 19) hx hb dX5_operand_9 (by decide) (fun c => absurd c (by decide)) (fun c => ?_)
    refine lv_aload_n hx hb dX5_operand_12 rfl (lv_at hl 1 rfl) ?_
    refine sg_callv (va_runV (As := []) (rest := []) ⟨hx, hb, hml, hown, hts⟩ (kX5_number l D ca za h hh f L Q hI H.size) (sl_c5_number_1_0_0_21_5 hts ⟨Nat.le_of_ble_eq_true rfl, Nat.le_of_ble_eq_true rfl⟩) (sl_vX_4 hA hK hP hS hZ) rfl rfl hl.1 rfl (lv_room (Nat.le_of_ble_eq_true rfl)) dX5_operand_13 ⟨Nat.le_refl _, Nat.le_refl _⟩) hA hS (fun f_19 L_20 Q_21 H locs hq hP hS => ?_)
    obtain ⟨⟨hI, hk_f_19, eL9, eQ9⟩, u_22⟩ := hq
    rw [eL9, eQ9] at hP; clear eL9 eQ9
    have hF : sgK WkX5_operand_3 f f_19 := sgK.tr hF hk_f_19 (by decide +kernel)
    refine lv_goto (tgt := 93) hx hb dX5_operand_16 (by decide) ?_
    exact hret _ _ _ _ f_19 L Q dX5_operand_93 hP hS ⟨⟨hI, hF, rfl, rfl⟩, (Eq.trans (Eq.symm (hs.trans ((if_pos rfl).trans (spl_e u_22 rfl)))) hsp)⟩
  · skip
    have hc_18 := hq
    refine lv_if_eq (tgt := 19) hx hb dX5_operand_9 (by decide) (fun c => ?_) (fun c => absurd c (by decide))
    refine lv_iload_n hx hb dX5_operand_19 rfl (lv_at hl 0 rfl) ?_
    refine sg_calli (va_runS (As := [.int r_10]) (rest := []) ⟨hx, hb, hml, hown, hts⟩ (kX5_isName l D ca za h hh f L Q hI r_10 ⟨by omega, by omega⟩ H.size) (va_cwS 1 hts (gw_S (fun _ h => List.mem_cons_of_mem _ h) mw_525 mw_526 mw_73 mw_524) rfl rfl rfl hd_yX5_isName.2 ⟨Nat.le_of_ble_eq_true rfl, Nat.le_of_ble_eq_true rfl⟩) (sg_preS hA hK hP hS hZ) rfl rfl hl.1 rfl (lv_room (Nat.le_of_ble_eq_true rfl)) dX5_operand_20 ⟨Nat.le_refl _, Nat.le_refl _⟩) hA hS (fun r_26 f_23 L_24 Q_25 H locs hq hP hS => ?_)
    obtain ⟨⟨ef9, eL9, eQ9⟩, hq, u_27⟩ := hq
    replace hs := hs.trans ((if_neg (by decide)).trans (spl_e u_27 rfl))
    rw [ef9, eL9, eQ9] at hP; clear ef9 eL9 eQ9
    rcases hq with ⟨rfl, hq⟩ | ⟨rfl, hq⟩
    · skip
      have hc_28 := hq
      refine lv_if_eq (tgt := 44) hx hb dX5_operand_23 (by decide) (fun c => absurd c (by decide)) (fun c => ?_)
      refine lv_aload_n hx hb dX5_operand_26 rfl (lv_at hl 1 rfl) ?_
      refine lv_dup hx hb dX5_operand_27 rfl ?_
      refine sl_gX_4_6_5 (v := v_1) hx hb hts hown hK hP (show f 4 6 = v_1 from ev_1.symm) dX5_operand_28 ?_
      refine lv_iconst (v := 1) hx hb dX5_operand_31 ic_1 ?_
      refine lv_iadd hx hb dX5_operand_32 ?_
      refine lv_topi (fun v_29 ev_29 => ?_)
      have q_30 : v_29.toInt = v_1.toInt + 1 := by rw [ev_29]; first | exact cm_add ti_1 (by omega) (by omega) | (have k1 : (1 : Int32).toInt = 1 := ti_1; exact (bn_addI (by omega) (by omega)).trans (by omega))
      refine sl_pX_4_6_5 (x := v_29) hx hb hts hown hh hA hK hP hS dX5_operand_33 (fun f_31 H locs ef_31 hP hS => ?_)
      have hI : sgI loX hiX f_31 := by rw [ef_31]; exact sgI.put hI 4 6 (show 0 ≤ (v_29 : Int32).toInt ∧ (v_29 : Int32).toInt ≤ 120 from ⟨by omega, by omega⟩)
      have hF : sgK WkX5_operand_3 f f_31 := sgK.put hF ef_31 (by rfl)
      refine lv_aload_n hx hb dX5_operand_36 rfl (lv_at hl 1 rfl) ?_
      refine lv_iload_n hx hb dX5_operand_37 rfl (lv_at hl 0 rfl) ?_
      refine sg_callv (va_runV (As := [.int r_10]) (rest := []) ⟨hx, hb, hml, hown, hts⟩ (kX5_write l D ca za h hh f_31 L Q hI r_10 H.size) (sl_c5_write_0_0_0_0_5 hts ⟨Nat.le_of_ble_eq_true rfl, Nat.le_of_ble_eq_true rfl⟩) (sl_vX_4 hA hK hP hS hZ) rfl rfl hl.1 rfl (lv_room (Nat.le_of_ble_eq_true rfl)) dX5_operand_38 ⟨Nat.le_refl _, Nat.le_refl _⟩) hA hS (fun f_32 L_33 Q_34 H locs hq hP hS => ?_)
      obtain ⟨⟨hI, hk_f_32, eL9, eQ9⟩, u_35⟩ := hq
      rw [eL9, eQ9] at hP; clear eL9 eQ9
      have hF : sgK WkX5_operand_3 f f_32 := sgK.tr hF hk_f_32 (by decide +kernel)
      refine lv_goto (tgt := 93) hx hb dX5_operand_41 (by decide) ?_
      exact hret _ _ _ _ f_32 L Q dX5_operand_93 hP hS ⟨⟨hI, hF, rfl, rfl⟩, (Eq.trans (Eq.symm (hs.trans ((if_pos rfl).trans (spl_e ev_29 (spl_e ef_31 (spl_e u_35 rfl)))))) hsp)⟩
    · skip
      have hc_28 := hq
      refine lv_if_eq (tgt := 44) hx hb dX5_operand_23 (by decide) (fun c => ?_) (fun c => absurd c (by decide))
      refine lv_iload_n hx hb dX5_operand_44 rfl (lv_at hl 0 rfl) ?_
      refine lv_bipush (v := 40) hx hb dX5_operand_45 bp_40 ?_
      refine lv_icmp_eq (tgt := 62) hx hb dX5_operand_47 (by decide) (fun c => ?_) (fun c => ?_)
      · skip
        have c_36 : r_10.toInt = 40 := (by first | exact (cm_eq1 ti_40 c) | (have z := Int32.toInt_inj.mpr c; have k1 : (40 : Int32).toInt = 40 := ti_40; omega))
        refine lv_iload_n hx hb dX5_operand_62 rfl (lv_at hl 2 rfl) ?_
        refine lv_bipush (v := 6) hx hb dX5_operand_63 bp_6 ?_
        refine lv_icmp_lt (tgt := 75) hx hb dX5_operand_65 (by decide) (fun c => ?_) (fun c => absurd c (by decide))
        refine lv_aload_n hx hb dX5_operand_75 rfl (lv_at hl 1 rfl) ?_
        refine lv_dup hx hb dX5_operand_76 rfl ?_
        refine sl_gX_4_6_5 (v := v_1) hx hb hts hown hK hP (show f 4 6 = v_1 from ev_1.symm) dX5_operand_77 ?_
        refine lv_iconst (v := 1) hx hb dX5_operand_80 ic_1 ?_
        refine lv_iadd hx hb dX5_operand_81 ?_
        refine lv_topi (fun v_38 ev_38 => ?_)
        have q_39 : v_38.toInt = v_1.toInt + 1 := by rw [ev_38]; first | exact cm_add ti_1 (by omega) (by omega) | (have k1 : (1 : Int32).toInt = 1 := ti_1; exact (bn_addI (by omega) (by omega)).trans (by omega))
        refine sl_pX_4_6_5 (x := v_38) hx hb hts hown hh hA hK hP hS dX5_operand_82 (fun f_40 H locs ef_40 hP hS => ?_)
        have hI : sgI loX hiX f_40 := by rw [ef_40]; exact sgI.put hI 4 6 (show 0 ≤ (v_38 : Int32).toInt ∧ (v_38 : Int32).toInt ≤ 120 from ⟨by omega, by omega⟩)
        have hF : sgK WkX5_operand_3 f f_40 := sgK.put hF ef_40 (by rfl)
        refine lv_aload_n hx hb dX5_operand_85 rfl (lv_at hl 1 rfl) ?_
        refine lv_iload_n hx hb dX5_operand_86 rfl (lv_at hl 0 rfl) ?_
        refine lv_iload_n hx hb dX5_operand_87 rfl (lv_at hl 2 rfl) ?_
        refine lv_iconst (v := 1) hx hb dX5_operand_88 ic_1 ?_
        refine lv_iadd hx hb dX5_operand_89 ?_
        refine W.eq (g2 := F0 m 90 ls [.int 4, .int r_10, .ref (h 4)]) (by rw [show (3 + 1 : Int32) = 4 from by decide]) ?_
        refine sg_callv (va_runV (As := [.int r_10, .int 4]) (rest := []) ⟨hx, hb, hml, hown, hts⟩ (kX5_opened_4 l D ca za h hh f_40 L Q hI r_10 ⟨by omega, by omega⟩ H.size) (sl_c5_opened_22_0_0_489_5 hts ⟨Nat.le_of_ble_eq_true rfl, Nat.le_of_ble_eq_true rfl⟩) (sl_vX_4 hA hK hP hS hZ) rfl rfl hl.1 rfl (lv_room (Nat.le_of_ble_eq_true rfl)) dX5_operand_90 ⟨Nat.le_refl _, Nat.le_refl _⟩) hA hS (fun f_41 L_42 Q_43 H locs hq hP hS => ?_)
        obtain ⟨⟨hI, hk_f_41, eL9, eQ9⟩, u_44⟩ := hq
        rw [eL9, eQ9] at hP; clear eL9 eQ9
        have hF : sgK WkX5_operand_3 f f_41 := sgK.tr hF hk_f_41 (by decide +kernel)
        exact hret _ _ _ _ f_41 L Q dX5_operand_93 hP hS ⟨⟨hI, hF, rfl, rfl⟩, (Eq.trans (Eq.symm (hs.trans ((if_neg (by decide)).trans ((if_pos c_36).trans (spl_e ev_38 (spl_e ef_40 (spl_e u_44 rfl))))))) hsp)⟩
      · skip
        have c_37 : r_10.toInt ≠ 40 := (by first | exact (cm_ne1 ti_40 c) | (have z := bn_ne c; have k1 : (40 : Int32).toInt = 40 := ti_40; omega))
        replace hs := hs.trans ((if_neg (by decide)).trans ((if_neg c_37).trans rfl))
        refine lv_iload_n hx hb dX5_operand_50 rfl (lv_at hl 0 rfl) ?_
        refine lv_bipush (v := 33) hx hb dX5_operand_51 bp_33 ?_
        refine lv_icmp_eq (tgt := 62) hx hb dX5_operand_53 (by decide) (fun c => ?_) (fun c => ?_)
        · skip
          have c_45 : r_10.toInt = 33 := (by first | exact (cm_eq1 ti_33 c) | (have z := Int32.toInt_inj.mpr c; have k1 : (33 : Int32).toInt = 33 := ti_33; omega))
          refine lv_iload_n hx hb dX5_operand_62 rfl (lv_at hl 2 rfl) ?_
          refine lv_bipush (v := 6) hx hb dX5_operand_63 bp_6 ?_
          refine lv_icmp_lt (tgt := 75) hx hb dX5_operand_65 (by decide) (fun c => ?_) (fun c => absurd c (by decide))
          refine lv_aload_n hx hb dX5_operand_75 rfl (lv_at hl 1 rfl) ?_
          refine lv_dup hx hb dX5_operand_76 rfl ?_
          refine sl_gX_4_6_5 (v := v_1) hx hb hts hown hK hP (show f 4 6 = v_1 from ev_1.symm) dX5_operand_77 ?_
          refine lv_iconst (v := 1) hx hb dX5_operand_80 ic_1 ?_
          refine lv_iadd hx hb dX5_operand_81 ?_
          refine lv_topi (fun v_47 ev_47 => ?_)
          have q_48 : v_47.toInt = v_1.toInt + 1 := by rw [ev_47]; first | exact cm_add ti_1 (by omega) (by omega) | (have k1 : (1 : Int32).toInt = 1 := ti_1; exact (bn_addI (by omega) (by omega)).trans (by omega))
          refine sl_pX_4_6_5 (x := v_47) hx hb hts hown hh hA hK hP hS dX5_operand_82 (fun f_49 H locs ef_49 hP hS => ?_)
          have hI : sgI loX hiX f_49 := by rw [ef_49]; exact sgI.put hI 4 6 (show 0 ≤ (v_47 : Int32).toInt ∧ (v_47 : Int32).toInt ≤ 120 from ⟨by omega, by omega⟩)
          have hF : sgK WkX5_operand_3 f f_49 := sgK.put hF ef_49 (by rfl)
          refine lv_aload_n hx hb dX5_operand_85 rfl (lv_at hl 1 rfl) ?_
          refine lv_iload_n hx hb dX5_operand_86 rfl (lv_at hl 0 rfl) ?_
          refine lv_iload_n hx hb dX5_operand_87 rfl (lv_at hl 2 rfl) ?_
          refine lv_iconst (v := 1) hx hb dX5_operand_88 ic_1 ?_
          refine lv_iadd hx hb dX5_operand_89 ?_
          refine W.eq (g2 := F0 m 90 ls [.int 4, .int r_10, .ref (h 4)]) (by rw [show (3 + 1 : Int32) = 4 from by decide]) ?_
          refine sg_callv (va_runV (As := [.int r_10, .int 4]) (rest := []) ⟨hx, hb, hml, hown, hts⟩ (kX5_opened_4 l D ca za h hh f_49 L Q hI r_10 ⟨by omega, by omega⟩ H.size) (sl_c5_opened_22_0_0_489_5 hts ⟨Nat.le_of_ble_eq_true rfl, Nat.le_of_ble_eq_true rfl⟩) (sl_vX_4 hA hK hP hS hZ) rfl rfl hl.1 rfl (lv_room (Nat.le_of_ble_eq_true rfl)) dX5_operand_90 ⟨Nat.le_refl _, Nat.le_refl _⟩) hA hS (fun f_50 L_51 Q_52 H locs hq hP hS => ?_)
          obtain ⟨⟨hI, hk_f_50, eL9, eQ9⟩, u_53⟩ := hq
          rw [eL9, eQ9] at hP; clear eL9 eQ9
          have hF : sgK WkX5_operand_3 f f_50 := sgK.tr hF hk_f_50 (by decide +kernel)
          exact hret _ _ _ _ f_50 L Q dX5_operand_93 hP hS ⟨⟨hI, hF, rfl, rfl⟩, (Eq.trans (Eq.symm (hs.trans ((if_pos c_45).trans (spl_e ev_47 (spl_e ef_49 (spl_e u_53 rfl)))))) hsp)⟩
        · skip
          have c_46 : r_10.toInt ≠ 33 := (by first | exact (cm_ne1 ti_33 c) | (have z := bn_ne c; have k1 : (33 : Int32).toInt = 33 := ti_33; omega))
          replace hs := hs.trans ((if_neg c_46).trans rfl)
          refine lv_iload_n hx hb dX5_operand_56 rfl (lv_at hl 0 rfl) ?_
          refine lv_bipush (v := 45) hx hb dX5_operand_57 bp_45 ?_
          refine lv_icmp_ne (tgt := 68) hx hb dX5_operand_59 (by decide) (fun c => ?_) (fun c => ?_)
          · skip
            have c_54 : r_10.toInt ≠ 45 := (by first | exact (cm_ne1 ti_45 c) | (have z := bn_ne c; have k1 : (45 : Int32).toInt = 45 := ti_45; omega))
            refine lv_aload_n hx hb dX5_operand_68 rfl (lv_at hl 1 rfl) ?_
            refine sg_callv (va_runV (As := []) (rest := []) ⟨hx, hb, hml, hown, hts⟩ (kX5_fail l D ca za h hh f L Q hI H.size) (sl_c5_fail_0_0_0_0_5 hts ⟨Nat.le_of_ble_eq_true rfl, Nat.le_of_ble_eq_true rfl⟩) (sl_vX_4 hA hK hP hS hZ) rfl rfl hl.1 rfl (lv_room (Nat.le_of_ble_eq_true rfl)) dX5_operand_69 ⟨Nat.le_refl _, Nat.le_refl _⟩) hA hS (fun f_56 L_57 Q_58 H locs hq hP hS => ?_)
            obtain ⟨⟨hI, hk_f_56, eL9, eQ9⟩, u_59⟩ := hq
            rw [eL9, eQ9] at hP; clear eL9 eQ9
            have hF : sgK WkX5_operand_3 f f_56 := sgK.tr hF hk_f_56 (by decide +kernel)
            refine lv_goto (tgt := 93) hx hb dX5_operand_72 (by decide) ?_
            exact hret _ _ _ _ f_56 L Q dX5_operand_93 hP hS ⟨⟨hI, hF, rfl, rfl⟩, (Eq.trans (Eq.symm (hs.trans ((if_neg c_54).trans (spl_e u_59 rfl)))) hsp)⟩
          · skip
            have c_55 : r_10.toInt = 45 := (by first | exact (cm_eq1 ti_45 c) | (have z := Int32.toInt_inj.mpr c; have k1 : (45 : Int32).toInt = 45 := ti_45; omega))
            refine lv_iload_n hx hb dX5_operand_62 rfl (lv_at hl 2 rfl) ?_
            refine lv_bipush (v := 6) hx hb dX5_operand_63 bp_6 ?_
            refine lv_icmp_lt (tgt := 75) hx hb dX5_operand_65 (by decide) (fun c => ?_) (fun c => absurd c (by decide))
            refine lv_aload_n hx hb dX5_operand_75 rfl (lv_at hl 1 rfl) ?_
            refine lv_dup hx hb dX5_operand_76 rfl ?_
            refine sl_gX_4_6_5 (v := v_1) hx hb hts hown hK hP (show f 4 6 = v_1 from ev_1.symm) dX5_operand_77 ?_
            refine lv_iconst (v := 1) hx hb dX5_operand_80 ic_1 ?_
            refine lv_iadd hx hb dX5_operand_81 ?_
            refine lv_topi (fun v_60 ev_60 => ?_)
            have q_61 : v_60.toInt = v_1.toInt + 1 := by rw [ev_60]; first | exact cm_add ti_1 (by omega) (by omega) | (have k1 : (1 : Int32).toInt = 1 := ti_1; exact (bn_addI (by omega) (by omega)).trans (by omega))
            refine sl_pX_4_6_5 (x := v_60) hx hb hts hown hh hA hK hP hS dX5_operand_82 (fun f_62 H locs ef_62 hP hS => ?_)
            have hI : sgI loX hiX f_62 := by rw [ef_62]; exact sgI.put hI 4 6 (show 0 ≤ (v_60 : Int32).toInt ∧ (v_60 : Int32).toInt ≤ 120 from ⟨by omega, by omega⟩)
            have hF : sgK WkX5_operand_3 f f_62 := sgK.put hF ef_62 (by rfl)
            refine lv_aload_n hx hb dX5_operand_85 rfl (lv_at hl 1 rfl) ?_
            refine lv_iload_n hx hb dX5_operand_86 rfl (lv_at hl 0 rfl) ?_
            refine lv_iload_n hx hb dX5_operand_87 rfl (lv_at hl 2 rfl) ?_
            refine lv_iconst (v := 1) hx hb dX5_operand_88 ic_1 ?_
            refine lv_iadd hx hb dX5_operand_89 ?_
            refine W.eq (g2 := F0 m 90 ls [.int 4, .int r_10, .ref (h 4)]) (by rw [show (3 + 1 : Int32) = 4 from by decide]) ?_
            refine sg_callv (va_runV (As := [.int r_10, .int 4]) (rest := []) ⟨hx, hb, hml, hown, hts⟩ (kX5_opened_4 l D ca za h hh f_62 L Q hI r_10 ⟨by omega, by omega⟩ H.size) (sl_c5_opened_22_0_0_489_5 hts ⟨Nat.le_of_ble_eq_true rfl, Nat.le_of_ble_eq_true rfl⟩) (sl_vX_4 hA hK hP hS hZ) rfl rfl hl.1 rfl (lv_room (Nat.le_of_ble_eq_true rfl)) dX5_operand_90 ⟨Nat.le_refl _, Nat.le_refl _⟩) hA hS (fun f_63 L_64 Q_65 H locs hq hP hS => ?_)
            obtain ⟨⟨hI, hk_f_63, eL9, eQ9⟩, u_66⟩ := hq
            rw [eL9, eQ9] at hP; clear eL9 eQ9
            have hF : sgK WkX5_operand_3 f f_63 := sgK.tr hF hk_f_63 (by decide +kernel)
            exact hret _ _ _ _ f_63 L Q dX5_operand_93 hP hS ⟨⟨hI, hF, rfl, rfl⟩, (Eq.trans (Eq.symm (hs.trans ((if_pos c_55).trans (spl_e ev_60 (spl_e ef_62 (spl_e u_66 rfl)))))) hsp)⟩

abbrev WkX5_product_3 : List (Nat × Nat × Option Nat) := [(4, 4, some 6), (4, 4, some 7), (4, 4, some 8), (6, 6, none)]
set_option maxHeartbeats 4000000 in
set_option maxRecDepth 100000 in
theorem kX5_product_3 (l : Launch) (D : va_G) (ca : Nat → ClassId) (za h : Nat → Nat) (hh : sgH 52 h) (f : sg_F) (L : sg_L) (Q : sg_Q) (hI : sgI loX hiX f) (sz : Nat) : Met l yX5_product gwX5_product { frames := 24, cells := 0, slots := 0, locals := 533 } (sgP D vwCl (tyX ca) 52 h (eX ca h) zcX za f L Q sz [.ref (h 4), .int 3]) (sgQv D vwCl 52 h (eX ca h) sz (fun f1 L1 Q1 => ((sgI loX hiX f1 ∧ sgK WkX5_product_3 f f1 ∧ L1 = L ∧ Q1 = Q) ∧ (f1) = sX5_product_3 f L))) 0 0 (sgA 52 h sz) := by
  refine sg_ofWv (cc := cX5_product) (maxL := 4) RX5 (by decide) rfl rfl (Nat.le_of_ble_eq_true rfl) ?_
  intro p e s m below meth cd Qz ls hx hb hml hown hts hK hZ hP hS hl hret
  have hA := sgY.self (n := 52) (h := h) (sz := s.heap.size)
  have hl : lv_has ls 4 [(0, .ref (h 4)), (1, .int 3)] := hl
  obtain ⟨H, hH⟩ : ∃ z : Heap, z = s.heap := ⟨_, rfl⟩
  obtain ⟨locs, hlo⟩ : ∃ z : List Loc, z = [] := ⟨_, rfl⟩
  have hP : va_P D vwCl (sgw 52 h (eX ca h) f L Q) H := by rw [hH]; exact hP
  have hS : va_S (sgA 52 h s.heap.size) s.heap H locs := by rw [hH, hlo]; exact hS
  suffices hgo : W p l e ({ frames := 24, cells := 0, slots := 0, locals := 533 }) s m ([.ref (h 4), .int 3] : List Value).toArray below meth cd H locs 0 0 Qz (F0 m 0 ls []) by rw [hH, hlo] at hgo; exact hgo
  clear hH hlo
  obtain ⟨sp, hsp⟩ : ∃ z : sg_F, z = sX5_product_3 f L := ⟨_, rfl⟩
  have hs : sp = sX5_product_3 f L := hsp
  obtain ⟨v_1, ev_1⟩ : ∃ z : Int32, z = f 4 6 := ⟨_, rfl⟩
  have q_2 : 0 ≤ v_1.toInt ∧ v_1.toInt ≤ 120 := by rw [ev_1]; exact hI 4 6
  obtain ⟨v_3, ev_3⟩ : ∃ z : Int32, z = f 4 1 := ⟨_, rfl⟩
  have q_4 : 0 ≤ v_3.toInt ∧ v_3.toInt ≤ 120 := by rw [ev_3]; exact hI 4 1
  have o_5 : (f 4 6).toInt = v_1.toInt := (congrArg Int32.toInt (show f 4 6 = v_1 from ev_1.symm))
  have o_6 : (f 4 1).toInt = v_3.toInt := (congrArg Int32.toInt (show f 4 1 = v_3 from ev_3.symm))
  have hF : sgK WkX5_product_3 f f := sgK.rf
  have loop_12 : ∀ (n_12 : Nat) (y2_12 : Int32) (y3_12 : Int32) (fp_12 : sg_F) (H : Heap) (locs : List Loc) (ls : Array Slot), sp = sX5_product_3_l12 n_12 y2_12 y3_12 fp_12 L → 120 - y3_12.toInt < (n_12 : Int) → (-1) ≤ y2_12.toInt ∧ y2_12.toInt ≤ 255 → 0 ≤ y3_12.toInt ∧ y3_12.toInt ≤ 120 → y2_12.toInt < 0 ∨ (fp_12 4 6).toInt < (fp_12 4 1).toInt → sgI loX hiX fp_12 → sgK WkX5_product_3 f fp_12 → va_P D vwCl (sgw 52 h (eX ca h) fp_12 L Q) H → va_S (sgA 52 h s.heap.size) s.heap H locs → lv_has ls 4 [(0, .ref (h 4)), (1, .int 3), (2, .int y2_12), (3, .int y3_12)] → W p l e ({ frames := 24, cells := 0, slots := 0, locals := 533 }) s m ([.ref (h 4), .int 3] : List Value).toArray below meth cd H locs 0 0 Qz (F0 m 12 ls []) := by
    intro n_12
    induction n_12 with
    | zero => intro y2_12 y3_12 fp_12 H locs ls hs hm_12 hy0_12 hy1_12 hg0_12 hI hF hP hS hl; exact absurd hm_12 (by omega)
    | succ n_12 ih_12 =>
      intro y2_12 y3_12 fp_12 H locs ls hs hm_12 hy0_12 hy1_12 hg0_12 hI hF hP hS hl
      have hs : sp = sX5_product_3_h12 (sX5_product_3_l12 n_12) y2_12 y3_12 fp_12 L := hs
      obtain ⟨v_7, ev_7⟩ : ∃ z : Int32, z = fp_12 4 6 := ⟨_, rfl⟩
      have q_8 : 0 ≤ v_7.toInt ∧ v_7.toInt ≤ 120 := by rw [ev_7]; exact hI 4 6
      have q_9 : (fp_12 4 6).toInt = v_7.toInt := by rw [ev_7]
      obtain ⟨v_10, ev_10⟩ : ∃ z : Int32, z = fp_12 4 1 := ⟨_, rfl⟩
      replace hs := hs.trans (spl_e ev_7 (spl_e ev_10 rfl))
      have q_11 : 0 ≤ v_10.toInt ∧ v_10.toInt ≤ 120 := by rw [ev_10]; exact hI 4 1
      have q_12 : (fp_12 4 1).toInt = v_10.toInt := by rw [ev_10]
      refine lv_iload_n hx hb dX5_product_12 rfl (lv_at hl 3 rfl) ?_
      refine lv_bipush (v := 120) hx hb dX5_product_13 bp_120 ?_
      refine lv_icmp_ge (tgt := 67) hx hb dX5_product_15 (by decide) (fun c => ?_) (fun c => ?_)
      · skip
        have c_13 : 120 ≤ y3_12.toInt := (by first | exact (cm_le0 ti_120 c) | (have z := bn_le c; have k1 : (120 : Int32).toInt = 120 := ti_120; omega))
        exact hret _ _ _ _ fp_12 L Q dX5_product_67 hP hS ⟨⟨hI, hF, rfl, rfl⟩, (Eq.trans (Eq.symm (hs.trans ((if_neg (Int.not_lt.mpr c_13)).trans rfl))) hsp)⟩
      · skip
        have c_14 : y3_12.toInt < 120 := (by first | exact (cm_nle0 ti_120 c) | (have z := bn_nle c; have k1 : (120 : Int32).toInt = 120 := ti_120; omega))
        replace hs := hs.trans ((if_pos c_14).trans rfl)
        refine lv_iload_n hx hb dX5_product_18 rfl (lv_at hl 2 rfl) ?_
        refine lv_bipush (v := 42) hx hb dX5_product_19 bp_42 ?_
        refine lv_icmp_eq (tgt := 36) hx hb dX5_product_21 (by decide) (fun c => ?_) (fun c => ?_)
        · skip
          have c_15 : y2_12.toInt = 42 := (by first | exact (cm_eq1 ti_42 c) | (have z := Int32.toInt_inj.mpr c; have k1 : (42 : Int32).toInt = 42 := ti_42; omega))
          refine lv_aload_n hx hb dX5_product_36 rfl (lv_at hl 0 rfl) ?_
          refine lv_dup hx hb dX5_product_37 rfl ?_
          refine sl_gX_4_6_5 (v := v_7) hx hb hts hown hK hP (show fp_12 4 6 = v_7 from ev_7.symm) dX5_product_38 ?_
          refine lv_iconst (v := 1) hx hb dX5_product_41 ic_1 ?_
          refine lv_iadd hx hb dX5_product_42 ?_
          refine lv_topi (fun v_17 ev_17 => ?_)
          have q_18 : v_17.toInt = v_7.toInt + 1 := by rw [ev_17]; first | exact cm_add ti_1 (by omega) (by omega) | (have k1 : (1 : Int32).toInt = 1 := ti_1; exact (bn_addI (by omega) (by omega)).trans (by omega))
          refine sl_pX_4_6_5 (x := v_17) hx hb hts hown hh hA hK hP hS dX5_product_43 (fun f_19 H locs ef_19 hP hS => ?_)
          have hI : sgI loX hiX f_19 := by rw [ef_19]; exact sgI.put hI 4 6 (show 0 ≤ (v_17 : Int32).toInt ∧ (v_17 : Int32).toInt ≤ 120 from ⟨by omega, by omega⟩)
          have hF : sgK WkX5_product_3 f f_19 := sgK.put hF ef_19 (by rfl)
          refine lv_aload_n hx hb dX5_product_46 rfl (lv_at hl 0 rfl) ?_
          refine lv_iload_n hx hb dX5_product_47 rfl (lv_at hl 1 rfl) ?_
          refine sg_callv (va_runV (As := [.int 3]) (rest := []) ⟨hx, hb, hml, hown, hts⟩ (kX5_operand_3 l D ca za h hh f_19 L Q hI H.size) (sl_c5_operand_23_0_0_511_5 hts ⟨Nat.le_of_ble_eq_true rfl, Nat.le_of_ble_eq_true rfl⟩) (sl_vX_4 hA hK hP hS hZ) rfl rfl hl.1 rfl (lv_room (Nat.le_of_ble_eq_true rfl)) dX5_product_48 ⟨Nat.le_refl _, Nat.le_refl _⟩) hA hS (fun f_20 L_21 Q_22 H locs hq hP hS => ?_)
          obtain ⟨⟨hI, hk_f_20, eL9, eQ9⟩, u_23⟩ := hq
          rw [eL9, eQ9] at hP; clear eL9 eQ9
          have hF : sgK WkX5_product_3 f f_20 := sgK.tr hF hk_f_20 (by decide +kernel)
          refine lv_aload_n hx hb dX5_product_51 rfl (lv_at hl 0 rfl) ?_
          refine lv_iload_n hx hb dX5_product_52 rfl (lv_at hl 2 rfl) ?_
          refine sg_callv (va_runV (As := [.int y2_12]) (rest := []) ⟨hx, hb, hml, hown, hts⟩ (kX5_write l D ca za h hh f_20 L Q hI y2_12 H.size) (sl_c5_write_0_0_0_0_5 hts ⟨Nat.le_of_ble_eq_true rfl, Nat.le_of_ble_eq_true rfl⟩) (sl_vX_4 hA hK hP hS hZ) rfl rfl hl.1 rfl (lv_room (Nat.le_of_ble_eq_true rfl)) dX5_product_53 ⟨Nat.le_refl _, Nat.le_refl _⟩) hA hS (fun f_24 L_25 Q_26 H locs hq hP hS => ?_)
          obtain ⟨⟨hI, hk_f_24, eL9, eQ9⟩, u_27⟩ := hq
          rw [eL9, eQ9] at hP; clear eL9 eQ9
          have hF : sgK WkX5_product_3 f f_24 := sgK.tr hF hk_f_24 (by decide +kernel)
          refine lv_aload_n hx hb dX5_product_56 rfl (lv_at hl 0 rfl) ?_
          obtain ⟨v_28, ev_28⟩ : ∃ z : Int32, z = f_24 4 6 := ⟨_, rfl⟩
          have q_29 : 0 ≤ v_28.toInt ∧ v_28.toInt ≤ 120 := by rw [ev_28]; exact hI 4 6
          have q_30 : (f_24 4 6).toInt = v_28.toInt := (congrArg Int32.toInt (show f_24 4 6 = v_28 from ev_28.symm))
          have q_31 : (f_24 4 1).toInt = v_10.toInt := (congrArg Int32.toInt (show f_24 4 1 = v_10 from ((hk_f_24 4 1 (by decide)).trans ((hk_f_20 4 1 (by decide)).trans (by rw [ef_19, sg_up_s, sgu_n (by decide)]; exact ev_10.symm)))))
          refine sg_calli (va_runV (As := []) (rest := []) ⟨hx, hb, hml, hown, hts⟩ (kX5_next l D ca za h hh f_24 L Q hI H.size) (sl_c5_next_0_0_0_0_5 hts ⟨Nat.le_of_ble_eq_true rfl, Nat.le_of_ble_eq_true rfl⟩) (sl_vX_4 hA hK hP hS hZ) rfl rfl hl.1 rfl (lv_room (Nat.le_of_ble_eq_true rfl)) dX5_product_57 ⟨Nat.le_refl _, Nat.le_refl _⟩) hA hS (fun r_35 f_32 L_33 Q_34 H locs hq hP hS => ?_)
          obtain ⟨⟨ef9, eL9, eQ9⟩, hq, p_36, u_37⟩ := hq
          rw [ef9, eL9, eQ9] at hP; clear ef9 eL9 eQ9
          refine lv_istore_n (lv' := [(2, .int r_35), (0, .ref (h 4)), (1, .int 3), (3, .int y3_12)]) hx hb dX5_product_60 rfl hl (by decide) rfl (fun ls hl => ?_)
          obtain ⟨v_38, ev_38⟩ : ∃ z : Int32, z = y3_12 + 1 := ⟨_, rfl⟩
          have q_39 : v_38.toInt = y3_12.toInt + 1 := by rw [ev_38]; exact (bn_addc y3_12 1 (by decide) (by omega) (by omega))
          refine lv_iinc (v := v_38) (lv' := [(3, .int v_38), (2, .int r_35), (0, .ref (h 4)), (1, .int 3)]) hx hb dX5_product_61 hl (k := 3) rfl (by rw [ev_38]; rfl) (by decide) rfl (fun ls hl => ?_)
          refine lv_goto (tgt := 12) hx hb dX5_product_64 (by decide) ?_
          exact ih_12 r_35 v_38 f_24 _ _ _ (hs.trans ((if_pos c_15).trans (spl_e ev_17 (spl_e ef_19 (spl_e u_23 (spl_e u_27 (spl_e ev_28 (spl_e u_37 (spl_e ev_38 rfl))))))))) (by omega) ⟨by omega, by omega⟩ ⟨by omega, by omega⟩ (by have zz4_6 : (f_24 4 6).toInt = v_28.toInt := (congrArg Int32.toInt (show f_24 4 6 = v_28 from ev_28.symm)); have zz4_1 : (f_24 4 1).toInt = v_10.toInt := (congrArg Int32.toInt (show f_24 4 1 = v_10 from ((hk_f_24 4 1 (by decide)).trans ((hk_f_20 4 1 (by decide)).trans (by rw [ef_19, sg_up_s, sgu_n (by decide)]; exact ev_10.symm))))); omega) hI hF hP hS (lv_sub hl [2, 3, 1, 0] rfl)
        · skip
          have c_16 : y2_12.toInt ≠ 42 := (by first | exact (cm_ne1 ti_42 c) | (have z := bn_ne c; have k1 : (42 : Int32).toInt = 42 := ti_42; omega))
          replace hs := hs.trans ((if_neg c_16).trans rfl)
          refine lv_iload_n hx hb dX5_product_24 rfl (lv_at hl 2 rfl) ?_
          refine lv_bipush (v := 47) hx hb dX5_product_25 bp_47 ?_
          refine lv_icmp_eq (tgt := 36) hx hb dX5_product_27 (by decide) (fun c => ?_) (fun c => ?_)
          · skip
            have c_40 : y2_12.toInt = 47 := (by first | exact (cm_eq1 ti_47 c) | (have z := Int32.toInt_inj.mpr c; have k1 : (47 : Int32).toInt = 47 := ti_47; omega))
            refine lv_aload_n hx hb dX5_product_36 rfl (lv_at hl 0 rfl) ?_
            refine lv_dup hx hb dX5_product_37 rfl ?_
            refine sl_gX_4_6_5 (v := v_7) hx hb hts hown hK hP (show fp_12 4 6 = v_7 from ev_7.symm) dX5_product_38 ?_
            refine lv_iconst (v := 1) hx hb dX5_product_41 ic_1 ?_
            refine lv_iadd hx hb dX5_product_42 ?_
            refine lv_topi (fun v_42 ev_42 => ?_)
            have q_43 : v_42.toInt = v_7.toInt + 1 := by rw [ev_42]; first | exact cm_add ti_1 (by omega) (by omega) | (have k1 : (1 : Int32).toInt = 1 := ti_1; exact (bn_addI (by omega) (by omega)).trans (by omega))
            refine sl_pX_4_6_5 (x := v_42) hx hb hts hown hh hA hK hP hS dX5_product_43 (fun f_44 H locs ef_44 hP hS => ?_)
            have hI : sgI loX hiX f_44 := by rw [ef_44]; exact sgI.put hI 4 6 (show 0 ≤ (v_42 : Int32).toInt ∧ (v_42 : Int32).toInt ≤ 120 from ⟨by omega, by omega⟩)
            have hF : sgK WkX5_product_3 f f_44 := sgK.put hF ef_44 (by rfl)
            refine lv_aload_n hx hb dX5_product_46 rfl (lv_at hl 0 rfl) ?_
            refine lv_iload_n hx hb dX5_product_47 rfl (lv_at hl 1 rfl) ?_
            refine sg_callv (va_runV (As := [.int 3]) (rest := []) ⟨hx, hb, hml, hown, hts⟩ (kX5_operand_3 l D ca za h hh f_44 L Q hI H.size) (sl_c5_operand_23_0_0_511_5 hts ⟨Nat.le_of_ble_eq_true rfl, Nat.le_of_ble_eq_true rfl⟩) (sl_vX_4 hA hK hP hS hZ) rfl rfl hl.1 rfl (lv_room (Nat.le_of_ble_eq_true rfl)) dX5_product_48 ⟨Nat.le_refl _, Nat.le_refl _⟩) hA hS (fun f_45 L_46 Q_47 H locs hq hP hS => ?_)
            obtain ⟨⟨hI, hk_f_45, eL9, eQ9⟩, u_48⟩ := hq
            rw [eL9, eQ9] at hP; clear eL9 eQ9
            have hF : sgK WkX5_product_3 f f_45 := sgK.tr hF hk_f_45 (by decide +kernel)
            refine lv_aload_n hx hb dX5_product_51 rfl (lv_at hl 0 rfl) ?_
            refine lv_iload_n hx hb dX5_product_52 rfl (lv_at hl 2 rfl) ?_
            refine sg_callv (va_runV (As := [.int y2_12]) (rest := []) ⟨hx, hb, hml, hown, hts⟩ (kX5_write l D ca za h hh f_45 L Q hI y2_12 H.size) (sl_c5_write_0_0_0_0_5 hts ⟨Nat.le_of_ble_eq_true rfl, Nat.le_of_ble_eq_true rfl⟩) (sl_vX_4 hA hK hP hS hZ) rfl rfl hl.1 rfl (lv_room (Nat.le_of_ble_eq_true rfl)) dX5_product_53 ⟨Nat.le_refl _, Nat.le_refl _⟩) hA hS (fun f_49 L_50 Q_51 H locs hq hP hS => ?_)
            obtain ⟨⟨hI, hk_f_49, eL9, eQ9⟩, u_52⟩ := hq
            rw [eL9, eQ9] at hP; clear eL9 eQ9
            have hF : sgK WkX5_product_3 f f_49 := sgK.tr hF hk_f_49 (by decide +kernel)
            refine lv_aload_n hx hb dX5_product_56 rfl (lv_at hl 0 rfl) ?_
            obtain ⟨v_53, ev_53⟩ : ∃ z : Int32, z = f_49 4 6 := ⟨_, rfl⟩
            have q_54 : 0 ≤ v_53.toInt ∧ v_53.toInt ≤ 120 := by rw [ev_53]; exact hI 4 6
            have q_55 : (f_49 4 6).toInt = v_53.toInt := (congrArg Int32.toInt (show f_49 4 6 = v_53 from ev_53.symm))
            have q_56 : (f_49 4 1).toInt = v_10.toInt := (congrArg Int32.toInt (show f_49 4 1 = v_10 from ((hk_f_49 4 1 (by decide)).trans ((hk_f_45 4 1 (by decide)).trans (by rw [ef_44, sg_up_s, sgu_n (by decide)]; exact ev_10.symm)))))
            refine sg_calli (va_runV (As := []) (rest := []) ⟨hx, hb, hml, hown, hts⟩ (kX5_next l D ca za h hh f_49 L Q hI H.size) (sl_c5_next_0_0_0_0_5 hts ⟨Nat.le_of_ble_eq_true rfl, Nat.le_of_ble_eq_true rfl⟩) (sl_vX_4 hA hK hP hS hZ) rfl rfl hl.1 rfl (lv_room (Nat.le_of_ble_eq_true rfl)) dX5_product_57 ⟨Nat.le_refl _, Nat.le_refl _⟩) hA hS (fun r_60 f_57 L_58 Q_59 H locs hq hP hS => ?_)
            obtain ⟨⟨ef9, eL9, eQ9⟩, hq, p_61, u_62⟩ := hq
            rw [ef9, eL9, eQ9] at hP; clear ef9 eL9 eQ9
            refine lv_istore_n (lv' := [(2, .int r_60), (0, .ref (h 4)), (1, .int 3), (3, .int y3_12)]) hx hb dX5_product_60 rfl hl (by decide) rfl (fun ls hl => ?_)
            obtain ⟨v_63, ev_63⟩ : ∃ z : Int32, z = y3_12 + 1 := ⟨_, rfl⟩
            have q_64 : v_63.toInt = y3_12.toInt + 1 := by rw [ev_63]; exact (bn_addc y3_12 1 (by decide) (by omega) (by omega))
            refine lv_iinc (v := v_63) (lv' := [(3, .int v_63), (2, .int r_60), (0, .ref (h 4)), (1, .int 3)]) hx hb dX5_product_61 hl (k := 3) rfl (by rw [ev_63]; rfl) (by decide) rfl (fun ls hl => ?_)
            refine lv_goto (tgt := 12) hx hb dX5_product_64 (by decide) ?_
            exact ih_12 r_60 v_63 f_49 _ _ _ (hs.trans ((if_pos c_40).trans (spl_e ev_42 (spl_e ef_44 (spl_e u_48 (spl_e u_52 (spl_e ev_53 (spl_e u_62 (spl_e ev_63 rfl))))))))) (by omega) ⟨by omega, by omega⟩ ⟨by omega, by omega⟩ (by have zz4_6 : (f_49 4 6).toInt = v_53.toInt := (congrArg Int32.toInt (show f_49 4 6 = v_53 from ev_53.symm)); have zz4_1 : (f_49 4 1).toInt = v_10.toInt := (congrArg Int32.toInt (show f_49 4 1 = v_10 from ((hk_f_49 4 1 (by decide)).trans ((hk_f_45 4 1 (by decide)).trans (by rw [ef_44, sg_up_s, sgu_n (by decide)]; exact ev_10.symm))))); omega) hI hF hP hS (lv_sub hl [2, 3, 1, 0] rfl)
          · skip
            have c_41 : y2_12.toInt ≠ 47 := (by first | exact (cm_ne1 ti_47 c) | (have z := bn_ne c; have k1 : (47 : Int32).toInt = 47 := ti_47; omega))
            replace hs := hs.trans ((if_neg c_41).trans rfl)
            refine lv_iload_n hx hb dX5_product_30 rfl (lv_at hl 2 rfl) ?_
            refine lv_bipush (v := 37) hx hb dX5_product_31 bp_37 ?_
            refine lv_icmp_ne (tgt := 67) hx hb dX5_product_33 (by decide) (fun c => ?_) (fun c => ?_)
            · skip
              have c_65 : y2_12.toInt ≠ 37 := (by first | exact (cm_ne1 ti_37 c) | (have z := bn_ne c; have k1 : (37 : Int32).toInt = 37 := ti_37; omega))
              exact hret _ _ _ _ fp_12 L Q dX5_product_67 hP hS ⟨⟨hI, hF, rfl, rfl⟩, (Eq.trans (Eq.symm (hs.trans ((if_neg c_65).trans rfl))) hsp)⟩
            · skip
              have c_66 : y2_12.toInt = 37 := (by first | exact (cm_eq1 ti_37 c) | (have z := Int32.toInt_inj.mpr c; have k1 : (37 : Int32).toInt = 37 := ti_37; omega))
              refine lv_aload_n hx hb dX5_product_36 rfl (lv_at hl 0 rfl) ?_
              refine lv_dup hx hb dX5_product_37 rfl ?_
              refine sl_gX_4_6_5 (v := v_7) hx hb hts hown hK hP (show fp_12 4 6 = v_7 from ev_7.symm) dX5_product_38 ?_
              refine lv_iconst (v := 1) hx hb dX5_product_41 ic_1 ?_
              refine lv_iadd hx hb dX5_product_42 ?_
              refine lv_topi (fun v_67 ev_67 => ?_)
              have q_68 : v_67.toInt = v_7.toInt + 1 := by rw [ev_67]; first | exact cm_add ti_1 (by omega) (by omega) | (have k1 : (1 : Int32).toInt = 1 := ti_1; exact (bn_addI (by omega) (by omega)).trans (by omega))
              refine sl_pX_4_6_5 (x := v_67) hx hb hts hown hh hA hK hP hS dX5_product_43 (fun f_69 H locs ef_69 hP hS => ?_)
              have hI : sgI loX hiX f_69 := by rw [ef_69]; exact sgI.put hI 4 6 (show 0 ≤ (v_67 : Int32).toInt ∧ (v_67 : Int32).toInt ≤ 120 from ⟨by omega, by omega⟩)
              have hF : sgK WkX5_product_3 f f_69 := sgK.put hF ef_69 (by rfl)
              refine lv_aload_n hx hb dX5_product_46 rfl (lv_at hl 0 rfl) ?_
              refine lv_iload_n hx hb dX5_product_47 rfl (lv_at hl 1 rfl) ?_
              refine sg_callv (va_runV (As := [.int 3]) (rest := []) ⟨hx, hb, hml, hown, hts⟩ (kX5_operand_3 l D ca za h hh f_69 L Q hI H.size) (sl_c5_operand_23_0_0_511_5 hts ⟨Nat.le_of_ble_eq_true rfl, Nat.le_of_ble_eq_true rfl⟩) (sl_vX_4 hA hK hP hS hZ) rfl rfl hl.1 rfl (lv_room (Nat.le_of_ble_eq_true rfl)) dX5_product_48 ⟨Nat.le_refl _, Nat.le_refl _⟩) hA hS (fun f_70 L_71 Q_72 H locs hq hP hS => ?_)
              obtain ⟨⟨hI, hk_f_70, eL9, eQ9⟩, u_73⟩ := hq
              rw [eL9, eQ9] at hP; clear eL9 eQ9
              have hF : sgK WkX5_product_3 f f_70 := sgK.tr hF hk_f_70 (by decide +kernel)
              refine lv_aload_n hx hb dX5_product_51 rfl (lv_at hl 0 rfl) ?_
              refine lv_iload_n hx hb dX5_product_52 rfl (lv_at hl 2 rfl) ?_
              refine sg_callv (va_runV (As := [.int y2_12]) (rest := []) ⟨hx, hb, hml, hown, hts⟩ (kX5_write l D ca za h hh f_70 L Q hI y2_12 H.size) (sl_c5_write_0_0_0_0_5 hts ⟨Nat.le_of_ble_eq_true rfl, Nat.le_of_ble_eq_true rfl⟩) (sl_vX_4 hA hK hP hS hZ) rfl rfl hl.1 rfl (lv_room (Nat.le_of_ble_eq_true rfl)) dX5_product_53 ⟨Nat.le_refl _, Nat.le_refl _⟩) hA hS (fun f_74 L_75 Q_76 H locs hq hP hS => ?_)
              obtain ⟨⟨hI, hk_f_74, eL9, eQ9⟩, u_77⟩ := hq
              rw [eL9, eQ9] at hP; clear eL9 eQ9
              have hF : sgK WkX5_product_3 f f_74 := sgK.tr hF hk_f_74 (by decide +kernel)
              refine lv_aload_n hx hb dX5_product_56 rfl (lv_at hl 0 rfl) ?_
              obtain ⟨v_78, ev_78⟩ : ∃ z : Int32, z = f_74 4 6 := ⟨_, rfl⟩
              have q_79 : 0 ≤ v_78.toInt ∧ v_78.toInt ≤ 120 := by rw [ev_78]; exact hI 4 6
              have q_80 : (f_74 4 6).toInt = v_78.toInt := (congrArg Int32.toInt (show f_74 4 6 = v_78 from ev_78.symm))
              have q_81 : (f_74 4 1).toInt = v_10.toInt := (congrArg Int32.toInt (show f_74 4 1 = v_10 from ((hk_f_74 4 1 (by decide)).trans ((hk_f_70 4 1 (by decide)).trans (by rw [ef_69, sg_up_s, sgu_n (by decide)]; exact ev_10.symm)))))
              refine sg_calli (va_runV (As := []) (rest := []) ⟨hx, hb, hml, hown, hts⟩ (kX5_next l D ca za h hh f_74 L Q hI H.size) (sl_c5_next_0_0_0_0_5 hts ⟨Nat.le_of_ble_eq_true rfl, Nat.le_of_ble_eq_true rfl⟩) (sl_vX_4 hA hK hP hS hZ) rfl rfl hl.1 rfl (lv_room (Nat.le_of_ble_eq_true rfl)) dX5_product_57 ⟨Nat.le_refl _, Nat.le_refl _⟩) hA hS (fun r_85 f_82 L_83 Q_84 H locs hq hP hS => ?_)
              obtain ⟨⟨ef9, eL9, eQ9⟩, hq, p_86, u_87⟩ := hq
              rw [ef9, eL9, eQ9] at hP; clear ef9 eL9 eQ9
              refine lv_istore_n (lv' := [(2, .int r_85), (0, .ref (h 4)), (1, .int 3), (3, .int y3_12)]) hx hb dX5_product_60 rfl hl (by decide) rfl (fun ls hl => ?_)
              obtain ⟨v_88, ev_88⟩ : ∃ z : Int32, z = y3_12 + 1 := ⟨_, rfl⟩
              have q_89 : v_88.toInt = y3_12.toInt + 1 := by rw [ev_88]; exact (bn_addc y3_12 1 (by decide) (by omega) (by omega))
              refine lv_iinc (v := v_88) (lv' := [(3, .int v_88), (2, .int r_85), (0, .ref (h 4)), (1, .int 3)]) hx hb dX5_product_61 hl (k := 3) rfl (by rw [ev_88]; rfl) (by decide) rfl (fun ls hl => ?_)
              refine lv_goto (tgt := 12) hx hb dX5_product_64 (by decide) ?_
              exact ih_12 r_85 v_88 f_74 _ _ _ (hs.trans ((if_pos c_66).trans (spl_e ev_67 (spl_e ef_69 (spl_e u_73 (spl_e u_77 (spl_e ev_78 (spl_e u_87 (spl_e ev_88 rfl))))))))) (by omega) ⟨by omega, by omega⟩ ⟨by omega, by omega⟩ (by have zz4_6 : (f_74 4 6).toInt = v_78.toInt := (congrArg Int32.toInt (show f_74 4 6 = v_78 from ev_78.symm)); have zz4_1 : (f_74 4 1).toInt = v_10.toInt := (congrArg Int32.toInt (show f_74 4 1 = v_10 from ((hk_f_74 4 1 (by decide)).trans ((hk_f_70 4 1 (by decide)).trans (by rw [ef_69, sg_up_s, sgu_n (by decide)]; exact ev_10.symm))))); omega) hI hF hP hS (lv_sub hl [2, 3, 1, 0] rfl)
  refine lv_aload_n hx hb dX5_product_0 rfl (lv_at hl 0 rfl) ?_
  refine lv_iload_n hx hb dX5_product_1 rfl (lv_at hl 1 rfl) ?_
  refine sg_callv (va_runV (As := [.int 3]) (rest := []) ⟨hx, hb, hml, hown, hts⟩ (kX5_operand_3 l D ca za h hh f L Q hI H.size) (sl_c5_operand_23_0_0_511_5 hts ⟨Nat.le_of_ble_eq_true rfl, Nat.le_of_ble_eq_true rfl⟩) (sl_vX_4 hA hK hP hS hZ) rfl rfl hl.1 rfl (lv_room (Nat.le_of_ble_eq_true rfl)) dX5_product_2 ⟨Nat.le_refl _, Nat.le_refl _⟩) hA hS (fun f_90 L_91 Q_92 H locs hq hP hS => ?_)
  obtain ⟨⟨hI, hk_f_90, eL9, eQ9⟩, u_93⟩ := hq
  rw [eL9, eQ9] at hP; clear eL9 eQ9
  have hF : sgK WkX5_product_3 f f_90 := sgK.tr hF hk_f_90 (by decide +kernel)
  refine lv_aload_n hx hb dX5_product_5 rfl (lv_at hl 0 rfl) ?_
  obtain ⟨v_94, ev_94⟩ : ∃ z : Int32, z = f_90 4 6 := ⟨_, rfl⟩
  have q_95 : 0 ≤ v_94.toInt ∧ v_94.toInt ≤ 120 := by rw [ev_94]; exact hI 4 6
  have q_96 : (f_90 4 6).toInt = v_94.toInt := (congrArg Int32.toInt (show f_90 4 6 = v_94 from ev_94.symm))
  have q_97 : (f_90 4 1).toInt = v_3.toInt := (congrArg Int32.toInt (show f_90 4 1 = v_3 from ((hk_f_90 4 1 (by decide)).trans ev_3.symm)))
  refine sg_calli (va_runV (As := []) (rest := []) ⟨hx, hb, hml, hown, hts⟩ (kX5_next l D ca za h hh f_90 L Q hI H.size) (sl_c5_next_0_0_0_0_5 hts ⟨Nat.le_of_ble_eq_true rfl, Nat.le_of_ble_eq_true rfl⟩) (sl_vX_4 hA hK hP hS hZ) rfl rfl hl.1 rfl (lv_room (Nat.le_of_ble_eq_true rfl)) dX5_product_6 ⟨Nat.le_refl _, Nat.le_refl _⟩) hA hS (fun r_101 f_98 L_99 Q_100 H locs hq hP hS => ?_)
  obtain ⟨⟨ef9, eL9, eQ9⟩, hq, p_102, u_103⟩ := hq
  rw [ef9, eL9, eQ9] at hP; clear ef9 eL9 eQ9
  refine lv_istore_n (lv' := [(2, .int r_101), (0, .ref (h 4)), (1, .int 3)]) hx hb dX5_product_9 rfl hl (by decide) rfl (fun ls hl => ?_)
  refine lv_iconst (v := 0) hx hb dX5_product_10 ic_0 ?_
  refine lv_istore_n (lv' := [(3, .int 0), (2, .int r_101), (0, .ref (h 4)), (1, .int 3)]) hx hb dX5_product_11 rfl hl (by decide) rfl (fun ls hl => ?_)
  exact loop_12 121 r_101 0 f_90 _ _ _ (hs.trans ((spl_e ev_1 (spl_e ev_3 (spl_e u_93 (spl_e ev_94 (spl_e u_103 rfl))))))) (by have kc1 : (0 : Int32).toInt = 0 := ti_0; omega) ⟨by omega, by omega⟩ (by decide) (by have kc1 : (0 : Int32).toInt = 0 := ti_0; have zz4_6 : (f_90 4 6).toInt = v_94.toInt := (congrArg Int32.toInt (show f_90 4 6 = v_94 from ev_94.symm)); have zz4_1 : (f_90 4 1).toInt = v_3.toInt := (congrArg Int32.toInt (show f_90 4 1 = v_3 from ((hk_f_90 4 1 (by decide)).trans ev_3.symm))); omega) hI hF hP hS (lv_sub hl [2, 3, 1, 0] rfl)

abbrev WkX5_sum_3 : List (Nat × Nat × Option Nat) := [(4, 4, some 6), (4, 4, some 7), (4, 4, some 8), (6, 6, none)]
set_option maxHeartbeats 4000000 in
set_option maxRecDepth 100000 in
theorem kX5_sum_3 (l : Launch) (D : va_G) (ca : Nat → ClassId) (za h : Nat → Nat) (hh : sgH 52 h) (f : sg_F) (L : sg_L) (Q : sg_Q) (hI : sgI loX hiX f) (sz : Nat) : Met l yX5_sum gwX5_sum { frames := 25, cells := 0, slots := 0, locals := 556 } (sgP D vwCl (tyX ca) 52 h (eX ca h) zcX za f L Q sz [.ref (h 4), .int 3]) (sgQv D vwCl 52 h (eX ca h) sz (fun f1 L1 Q1 => ((sgI loX hiX f1 ∧ sgK WkX5_sum_3 f f1 ∧ L1 = L ∧ Q1 = Q) ∧ (f1) = sX5_sum_3 f L))) 0 0 (sgA 52 h sz) := by
  refine sg_ofWv (cc := cX5_sum) (maxL := 4) RX5 (by decide) rfl rfl (Nat.le_of_ble_eq_true rfl) ?_
  intro p e s m below meth cd Qz ls hx hb hml hown hts hK hZ hP hS hl hret
  have hA := sgY.self (n := 52) (h := h) (sz := s.heap.size)
  have hl : lv_has ls 4 [(0, .ref (h 4)), (1, .int 3)] := hl
  obtain ⟨H, hH⟩ : ∃ z : Heap, z = s.heap := ⟨_, rfl⟩
  obtain ⟨locs, hlo⟩ : ∃ z : List Loc, z = [] := ⟨_, rfl⟩
  have hP : va_P D vwCl (sgw 52 h (eX ca h) f L Q) H := by rw [hH]; exact hP
  have hS : va_S (sgA 52 h s.heap.size) s.heap H locs := by rw [hH, hlo]; exact hS
  suffices hgo : W p l e ({ frames := 25, cells := 0, slots := 0, locals := 556 }) s m ([.ref (h 4), .int 3] : List Value).toArray below meth cd H locs 0 0 Qz (F0 m 0 ls []) by rw [hH, hlo] at hgo; exact hgo
  clear hH hlo
  obtain ⟨sp, hsp⟩ : ∃ z : sg_F, z = sX5_sum_3 f L := ⟨_, rfl⟩
  have hs : sp = sX5_sum_3 f L := hsp
  obtain ⟨v_1, ev_1⟩ : ∃ z : Int32, z = f 4 6 := ⟨_, rfl⟩
  have q_2 : 0 ≤ v_1.toInt ∧ v_1.toInt ≤ 120 := by rw [ev_1]; exact hI 4 6
  obtain ⟨v_3, ev_3⟩ : ∃ z : Int32, z = f 4 1 := ⟨_, rfl⟩
  have q_4 : 0 ≤ v_3.toInt ∧ v_3.toInt ≤ 120 := by rw [ev_3]; exact hI 4 1
  have o_5 : (f 4 6).toInt = v_1.toInt := (congrArg Int32.toInt (show f 4 6 = v_1 from ev_1.symm))
  have o_6 : (f 4 1).toInt = v_3.toInt := (congrArg Int32.toInt (show f 4 1 = v_3 from ev_3.symm))
  have hF : sgK WkX5_sum_3 f f := sgK.rf
  have loop_12 : ∀ (n_12 : Nat) (y2_12 : Int32) (y3_12 : Int32) (fp_12 : sg_F) (H : Heap) (locs : List Loc) (ls : Array Slot), sp = sX5_sum_3_l12 n_12 y2_12 y3_12 fp_12 L → 120 - y3_12.toInt < (n_12 : Int) → (-1) ≤ y2_12.toInt ∧ y2_12.toInt ≤ 255 → 0 ≤ y3_12.toInt ∧ y3_12.toInt ≤ 120 → y2_12.toInt < 0 ∨ (fp_12 4 6).toInt < (fp_12 4 1).toInt → sgI loX hiX fp_12 → sgK WkX5_sum_3 f fp_12 → va_P D vwCl (sgw 52 h (eX ca h) fp_12 L Q) H → va_S (sgA 52 h s.heap.size) s.heap H locs → lv_has ls 4 [(0, .ref (h 4)), (1, .int 3), (2, .int y2_12), (3, .int y3_12)] → W p l e ({ frames := 25, cells := 0, slots := 0, locals := 556 }) s m ([.ref (h 4), .int 3] : List Value).toArray below meth cd H locs 0 0 Qz (F0 m 12 ls []) := by
    intro n_12
    induction n_12 with
    | zero => intro y2_12 y3_12 fp_12 H locs ls hs hm_12 hy0_12 hy1_12 hg0_12 hI hF hP hS hl; exact absurd hm_12 (by omega)
    | succ n_12 ih_12 =>
      intro y2_12 y3_12 fp_12 H locs ls hs hm_12 hy0_12 hy1_12 hg0_12 hI hF hP hS hl
      have hs : sp = sX5_sum_3_h12 (sX5_sum_3_l12 n_12) y2_12 y3_12 fp_12 L := hs
      obtain ⟨v_7, ev_7⟩ : ∃ z : Int32, z = fp_12 4 6 := ⟨_, rfl⟩
      have q_8 : 0 ≤ v_7.toInt ∧ v_7.toInt ≤ 120 := by rw [ev_7]; exact hI 4 6
      have q_9 : (fp_12 4 6).toInt = v_7.toInt := by rw [ev_7]
      obtain ⟨v_10, ev_10⟩ : ∃ z : Int32, z = fp_12 4 1 := ⟨_, rfl⟩
      replace hs := hs.trans (spl_e ev_7 (spl_e ev_10 rfl))
      have q_11 : 0 ≤ v_10.toInt ∧ v_10.toInt ≤ 120 := by rw [ev_10]; exact hI 4 1
      have q_12 : (fp_12 4 1).toInt = v_10.toInt := by rw [ev_10]
      refine lv_iload_n hx hb dX5_sum_12 rfl (lv_at hl 3 rfl) ?_
      refine lv_bipush (v := 120) hx hb dX5_sum_13 bp_120 ?_
      refine lv_icmp_ge (tgt := 61) hx hb dX5_sum_15 (by decide) (fun c => ?_) (fun c => ?_)
      · skip
        have c_13 : 120 ≤ y3_12.toInt := (by first | exact (cm_le0 ti_120 c) | (have z := bn_le c; have k1 : (120 : Int32).toInt = 120 := ti_120; omega))
        exact hret _ _ _ _ fp_12 L Q dX5_sum_61 hP hS ⟨⟨hI, hF, rfl, rfl⟩, (Eq.trans (Eq.symm (hs.trans ((if_neg (Int.not_lt.mpr c_13)).trans rfl))) hsp)⟩
      · skip
        have c_14 : y3_12.toInt < 120 := (by first | exact (cm_nle0 ti_120 c) | (have z := bn_nle c; have k1 : (120 : Int32).toInt = 120 := ti_120; omega))
        replace hs := hs.trans ((if_pos c_14).trans rfl)
        refine lv_iload_n hx hb dX5_sum_18 rfl (lv_at hl 2 rfl) ?_
        refine lv_bipush (v := 43) hx hb dX5_sum_19 bp_43 ?_
        refine lv_icmp_eq (tgt := 30) hx hb dX5_sum_21 (by decide) (fun c => ?_) (fun c => ?_)
        · skip
          have c_15 : y2_12.toInt = 43 := (by first | exact (cm_eq1 ti_43 c) | (have z := Int32.toInt_inj.mpr c; have k1 : (43 : Int32).toInt = 43 := ti_43; omega))
          refine lv_aload_n hx hb dX5_sum_30 rfl (lv_at hl 0 rfl) ?_
          refine lv_dup hx hb dX5_sum_31 rfl ?_
          refine sl_gX_4_6_5 (v := v_7) hx hb hts hown hK hP (show fp_12 4 6 = v_7 from ev_7.symm) dX5_sum_32 ?_
          refine lv_iconst (v := 1) hx hb dX5_sum_35 ic_1 ?_
          refine lv_iadd hx hb dX5_sum_36 ?_
          refine lv_topi (fun v_17 ev_17 => ?_)
          have q_18 : v_17.toInt = v_7.toInt + 1 := by rw [ev_17]; first | exact cm_add ti_1 (by omega) (by omega) | (have k1 : (1 : Int32).toInt = 1 := ti_1; exact (bn_addI (by omega) (by omega)).trans (by omega))
          refine sl_pX_4_6_5 (x := v_17) hx hb hts hown hh hA hK hP hS dX5_sum_37 (fun f_19 H locs ef_19 hP hS => ?_)
          have hI : sgI loX hiX f_19 := by rw [ef_19]; exact sgI.put hI 4 6 (show 0 ≤ (v_17 : Int32).toInt ∧ (v_17 : Int32).toInt ≤ 120 from ⟨by omega, by omega⟩)
          have hF : sgK WkX5_sum_3 f f_19 := sgK.put hF ef_19 (by rfl)
          refine lv_aload_n hx hb dX5_sum_40 rfl (lv_at hl 0 rfl) ?_
          refine lv_iload_n hx hb dX5_sum_41 rfl (lv_at hl 1 rfl) ?_
          refine sg_callv (va_runV (As := [.int 3]) (rest := []) ⟨hx, hb, hml, hown, hts⟩ (kX5_product_3 l D ca za h hh f_19 L Q hI H.size) (sl_c5_product_24_0_0_533_5 hts ⟨Nat.le_of_ble_eq_true rfl, Nat.le_of_ble_eq_true rfl⟩) (sl_vX_4 hA hK hP hS hZ) rfl rfl hl.1 rfl (lv_room (Nat.le_of_ble_eq_true rfl)) dX5_sum_42 ⟨Nat.le_refl _, Nat.le_refl _⟩) hA hS (fun f_20 L_21 Q_22 H locs hq hP hS => ?_)
          obtain ⟨⟨hI, hk_f_20, eL9, eQ9⟩, u_23⟩ := hq
          rw [eL9, eQ9] at hP; clear eL9 eQ9
          have hF : sgK WkX5_sum_3 f f_20 := sgK.tr hF hk_f_20 (by decide +kernel)
          refine lv_aload_n hx hb dX5_sum_45 rfl (lv_at hl 0 rfl) ?_
          refine lv_iload_n hx hb dX5_sum_46 rfl (lv_at hl 2 rfl) ?_
          refine sg_callv (va_runV (As := [.int y2_12]) (rest := []) ⟨hx, hb, hml, hown, hts⟩ (kX5_write l D ca za h hh f_20 L Q hI y2_12 H.size) (sl_c5_write_0_0_0_0_5 hts ⟨Nat.le_of_ble_eq_true rfl, Nat.le_of_ble_eq_true rfl⟩) (sl_vX_4 hA hK hP hS hZ) rfl rfl hl.1 rfl (lv_room (Nat.le_of_ble_eq_true rfl)) dX5_sum_47 ⟨Nat.le_refl _, Nat.le_refl _⟩) hA hS (fun f_24 L_25 Q_26 H locs hq hP hS => ?_)
          obtain ⟨⟨hI, hk_f_24, eL9, eQ9⟩, u_27⟩ := hq
          rw [eL9, eQ9] at hP; clear eL9 eQ9
          have hF : sgK WkX5_sum_3 f f_24 := sgK.tr hF hk_f_24 (by decide +kernel)
          refine lv_aload_n hx hb dX5_sum_50 rfl (lv_at hl 0 rfl) ?_
          obtain ⟨v_28, ev_28⟩ : ∃ z : Int32, z = f_24 4 6 := ⟨_, rfl⟩
          have q_29 : 0 ≤ v_28.toInt ∧ v_28.toInt ≤ 120 := by rw [ev_28]; exact hI 4 6
          have q_30 : (f_24 4 6).toInt = v_28.toInt := (congrArg Int32.toInt (show f_24 4 6 = v_28 from ev_28.symm))
          have q_31 : (f_24 4 1).toInt = v_10.toInt := (congrArg Int32.toInt (show f_24 4 1 = v_10 from ((hk_f_24 4 1 (by decide)).trans ((hk_f_20 4 1 (by decide)).trans (by rw [ef_19, sg_up_s, sgu_n (by decide)]; exact ev_10.symm)))))
          refine sg_calli (va_runV (As := []) (rest := []) ⟨hx, hb, hml, hown, hts⟩ (kX5_next l D ca za h hh f_24 L Q hI H.size) (sl_c5_next_0_0_0_0_5 hts ⟨Nat.le_of_ble_eq_true rfl, Nat.le_of_ble_eq_true rfl⟩) (sl_vX_4 hA hK hP hS hZ) rfl rfl hl.1 rfl (lv_room (Nat.le_of_ble_eq_true rfl)) dX5_sum_51 ⟨Nat.le_refl _, Nat.le_refl _⟩) hA hS (fun r_35 f_32 L_33 Q_34 H locs hq hP hS => ?_)
          obtain ⟨⟨ef9, eL9, eQ9⟩, hq, p_36, u_37⟩ := hq
          rw [ef9, eL9, eQ9] at hP; clear ef9 eL9 eQ9
          refine lv_istore_n (lv' := [(2, .int r_35), (0, .ref (h 4)), (1, .int 3), (3, .int y3_12)]) hx hb dX5_sum_54 rfl hl (by decide) rfl (fun ls hl => ?_)
          obtain ⟨v_38, ev_38⟩ : ∃ z : Int32, z = y3_12 + 1 := ⟨_, rfl⟩
          have q_39 : v_38.toInt = y3_12.toInt + 1 := by rw [ev_38]; exact (bn_addc y3_12 1 (by decide) (by omega) (by omega))
          refine lv_iinc (v := v_38) (lv' := [(3, .int v_38), (2, .int r_35), (0, .ref (h 4)), (1, .int 3)]) hx hb dX5_sum_55 hl (k := 3) rfl (by rw [ev_38]; rfl) (by decide) rfl (fun ls hl => ?_)
          refine lv_goto (tgt := 12) hx hb dX5_sum_58 (by decide) ?_
          exact ih_12 r_35 v_38 f_24 _ _ _ (hs.trans ((if_pos c_15).trans (spl_e ev_17 (spl_e ef_19 (spl_e u_23 (spl_e u_27 (spl_e ev_28 (spl_e u_37 (spl_e ev_38 rfl))))))))) (by omega) ⟨by omega, by omega⟩ ⟨by omega, by omega⟩ (by have zz4_6 : (f_24 4 6).toInt = v_28.toInt := (congrArg Int32.toInt (show f_24 4 6 = v_28 from ev_28.symm)); have zz4_1 : (f_24 4 1).toInt = v_10.toInt := (congrArg Int32.toInt (show f_24 4 1 = v_10 from ((hk_f_24 4 1 (by decide)).trans ((hk_f_20 4 1 (by decide)).trans (by rw [ef_19, sg_up_s, sgu_n (by decide)]; exact ev_10.symm))))); omega) hI hF hP hS (lv_sub hl [2, 3, 1, 0] rfl)
        · skip
          have c_16 : y2_12.toInt ≠ 43 := (by first | exact (cm_ne1 ti_43 c) | (have z := bn_ne c; have k1 : (43 : Int32).toInt = 43 := ti_43; omega))
          replace hs := hs.trans ((if_neg c_16).trans rfl)
          refine lv_iload_n hx hb dX5_sum_24 rfl (lv_at hl 2 rfl) ?_
          refine lv_bipush (v := 45) hx hb dX5_sum_25 bp_45 ?_
          refine lv_icmp_ne (tgt := 61) hx hb dX5_sum_27 (by decide) (fun c => ?_) (fun c => ?_)
          · skip
            have c_40 : y2_12.toInt ≠ 45 := (by first | exact (cm_ne1 ti_45 c) | (have z := bn_ne c; have k1 : (45 : Int32).toInt = 45 := ti_45; omega))
            exact hret _ _ _ _ fp_12 L Q dX5_sum_61 hP hS ⟨⟨hI, hF, rfl, rfl⟩, (Eq.trans (Eq.symm (hs.trans ((if_neg c_40).trans rfl))) hsp)⟩
          · skip
            have c_41 : y2_12.toInt = 45 := (by first | exact (cm_eq1 ti_45 c) | (have z := Int32.toInt_inj.mpr c; have k1 : (45 : Int32).toInt = 45 := ti_45; omega))
            refine lv_aload_n hx hb dX5_sum_30 rfl (lv_at hl 0 rfl) ?_
            refine lv_dup hx hb dX5_sum_31 rfl ?_
            refine sl_gX_4_6_5 (v := v_7) hx hb hts hown hK hP (show fp_12 4 6 = v_7 from ev_7.symm) dX5_sum_32 ?_
            refine lv_iconst (v := 1) hx hb dX5_sum_35 ic_1 ?_
            refine lv_iadd hx hb dX5_sum_36 ?_
            refine lv_topi (fun v_42 ev_42 => ?_)
            have q_43 : v_42.toInt = v_7.toInt + 1 := by rw [ev_42]; first | exact cm_add ti_1 (by omega) (by omega) | (have k1 : (1 : Int32).toInt = 1 := ti_1; exact (bn_addI (by omega) (by omega)).trans (by omega))
            refine sl_pX_4_6_5 (x := v_42) hx hb hts hown hh hA hK hP hS dX5_sum_37 (fun f_44 H locs ef_44 hP hS => ?_)
            have hI : sgI loX hiX f_44 := by rw [ef_44]; exact sgI.put hI 4 6 (show 0 ≤ (v_42 : Int32).toInt ∧ (v_42 : Int32).toInt ≤ 120 from ⟨by omega, by omega⟩)
            have hF : sgK WkX5_sum_3 f f_44 := sgK.put hF ef_44 (by rfl)
            refine lv_aload_n hx hb dX5_sum_40 rfl (lv_at hl 0 rfl) ?_
            refine lv_iload_n hx hb dX5_sum_41 rfl (lv_at hl 1 rfl) ?_
            refine sg_callv (va_runV (As := [.int 3]) (rest := []) ⟨hx, hb, hml, hown, hts⟩ (kX5_product_3 l D ca za h hh f_44 L Q hI H.size) (sl_c5_product_24_0_0_533_5 hts ⟨Nat.le_of_ble_eq_true rfl, Nat.le_of_ble_eq_true rfl⟩) (sl_vX_4 hA hK hP hS hZ) rfl rfl hl.1 rfl (lv_room (Nat.le_of_ble_eq_true rfl)) dX5_sum_42 ⟨Nat.le_refl _, Nat.le_refl _⟩) hA hS (fun f_45 L_46 Q_47 H locs hq hP hS => ?_)
            obtain ⟨⟨hI, hk_f_45, eL9, eQ9⟩, u_48⟩ := hq
            rw [eL9, eQ9] at hP; clear eL9 eQ9
            have hF : sgK WkX5_sum_3 f f_45 := sgK.tr hF hk_f_45 (by decide +kernel)
            refine lv_aload_n hx hb dX5_sum_45 rfl (lv_at hl 0 rfl) ?_
            refine lv_iload_n hx hb dX5_sum_46 rfl (lv_at hl 2 rfl) ?_
            refine sg_callv (va_runV (As := [.int y2_12]) (rest := []) ⟨hx, hb, hml, hown, hts⟩ (kX5_write l D ca za h hh f_45 L Q hI y2_12 H.size) (sl_c5_write_0_0_0_0_5 hts ⟨Nat.le_of_ble_eq_true rfl, Nat.le_of_ble_eq_true rfl⟩) (sl_vX_4 hA hK hP hS hZ) rfl rfl hl.1 rfl (lv_room (Nat.le_of_ble_eq_true rfl)) dX5_sum_47 ⟨Nat.le_refl _, Nat.le_refl _⟩) hA hS (fun f_49 L_50 Q_51 H locs hq hP hS => ?_)
            obtain ⟨⟨hI, hk_f_49, eL9, eQ9⟩, u_52⟩ := hq
            rw [eL9, eQ9] at hP; clear eL9 eQ9
            have hF : sgK WkX5_sum_3 f f_49 := sgK.tr hF hk_f_49 (by decide +kernel)
            refine lv_aload_n hx hb dX5_sum_50 rfl (lv_at hl 0 rfl) ?_
            obtain ⟨v_53, ev_53⟩ : ∃ z : Int32, z = f_49 4 6 := ⟨_, rfl⟩
            have q_54 : 0 ≤ v_53.toInt ∧ v_53.toInt ≤ 120 := by rw [ev_53]; exact hI 4 6
            have q_55 : (f_49 4 6).toInt = v_53.toInt := (congrArg Int32.toInt (show f_49 4 6 = v_53 from ev_53.symm))
            have q_56 : (f_49 4 1).toInt = v_10.toInt := (congrArg Int32.toInt (show f_49 4 1 = v_10 from ((hk_f_49 4 1 (by decide)).trans ((hk_f_45 4 1 (by decide)).trans (by rw [ef_44, sg_up_s, sgu_n (by decide)]; exact ev_10.symm)))))
            refine sg_calli (va_runV (As := []) (rest := []) ⟨hx, hb, hml, hown, hts⟩ (kX5_next l D ca za h hh f_49 L Q hI H.size) (sl_c5_next_0_0_0_0_5 hts ⟨Nat.le_of_ble_eq_true rfl, Nat.le_of_ble_eq_true rfl⟩) (sl_vX_4 hA hK hP hS hZ) rfl rfl hl.1 rfl (lv_room (Nat.le_of_ble_eq_true rfl)) dX5_sum_51 ⟨Nat.le_refl _, Nat.le_refl _⟩) hA hS (fun r_60 f_57 L_58 Q_59 H locs hq hP hS => ?_)
            obtain ⟨⟨ef9, eL9, eQ9⟩, hq, p_61, u_62⟩ := hq
            rw [ef9, eL9, eQ9] at hP; clear ef9 eL9 eQ9
            refine lv_istore_n (lv' := [(2, .int r_60), (0, .ref (h 4)), (1, .int 3), (3, .int y3_12)]) hx hb dX5_sum_54 rfl hl (by decide) rfl (fun ls hl => ?_)
            obtain ⟨v_63, ev_63⟩ : ∃ z : Int32, z = y3_12 + 1 := ⟨_, rfl⟩
            have q_64 : v_63.toInt = y3_12.toInt + 1 := by rw [ev_63]; exact (bn_addc y3_12 1 (by decide) (by omega) (by omega))
            refine lv_iinc (v := v_63) (lv' := [(3, .int v_63), (2, .int r_60), (0, .ref (h 4)), (1, .int 3)]) hx hb dX5_sum_55 hl (k := 3) rfl (by rw [ev_63]; rfl) (by decide) rfl (fun ls hl => ?_)
            refine lv_goto (tgt := 12) hx hb dX5_sum_58 (by decide) ?_
            exact ih_12 r_60 v_63 f_49 _ _ _ (hs.trans ((if_pos c_41).trans (spl_e ev_42 (spl_e ef_44 (spl_e u_48 (spl_e u_52 (spl_e ev_53 (spl_e u_62 (spl_e ev_63 rfl))))))))) (by omega) ⟨by omega, by omega⟩ ⟨by omega, by omega⟩ (by have zz4_6 : (f_49 4 6).toInt = v_53.toInt := (congrArg Int32.toInt (show f_49 4 6 = v_53 from ev_53.symm)); have zz4_1 : (f_49 4 1).toInt = v_10.toInt := (congrArg Int32.toInt (show f_49 4 1 = v_10 from ((hk_f_49 4 1 (by decide)).trans ((hk_f_45 4 1 (by decide)).trans (by rw [ef_44, sg_up_s, sgu_n (by decide)]; exact ev_10.symm))))); omega) hI hF hP hS (lv_sub hl [2, 3, 1, 0] rfl)
  refine lv_aload_n hx hb dX5_sum_0 rfl (lv_at hl 0 rfl) ?_
  refine lv_iload_n hx hb dX5_sum_1 rfl (lv_at hl 1 rfl) ?_
  refine sg_callv (va_runV (As := [.int 3]) (rest := []) ⟨hx, hb, hml, hown, hts⟩ (kX5_product_3 l D ca za h hh f L Q hI H.size) (sl_c5_product_24_0_0_533_5 hts ⟨Nat.le_of_ble_eq_true rfl, Nat.le_of_ble_eq_true rfl⟩) (sl_vX_4 hA hK hP hS hZ) rfl rfl hl.1 rfl (lv_room (Nat.le_of_ble_eq_true rfl)) dX5_sum_2 ⟨Nat.le_refl _, Nat.le_refl _⟩) hA hS (fun f_65 L_66 Q_67 H locs hq hP hS => ?_)
  obtain ⟨⟨hI, hk_f_65, eL9, eQ9⟩, u_68⟩ := hq
  rw [eL9, eQ9] at hP; clear eL9 eQ9
  have hF : sgK WkX5_sum_3 f f_65 := sgK.tr hF hk_f_65 (by decide +kernel)
  refine lv_aload_n hx hb dX5_sum_5 rfl (lv_at hl 0 rfl) ?_
  obtain ⟨v_69, ev_69⟩ : ∃ z : Int32, z = f_65 4 6 := ⟨_, rfl⟩
  have q_70 : 0 ≤ v_69.toInt ∧ v_69.toInt ≤ 120 := by rw [ev_69]; exact hI 4 6
  have q_71 : (f_65 4 6).toInt = v_69.toInt := (congrArg Int32.toInt (show f_65 4 6 = v_69 from ev_69.symm))
  have q_72 : (f_65 4 1).toInt = v_3.toInt := (congrArg Int32.toInt (show f_65 4 1 = v_3 from ((hk_f_65 4 1 (by decide)).trans ev_3.symm)))
  refine sg_calli (va_runV (As := []) (rest := []) ⟨hx, hb, hml, hown, hts⟩ (kX5_next l D ca za h hh f_65 L Q hI H.size) (sl_c5_next_0_0_0_0_5 hts ⟨Nat.le_of_ble_eq_true rfl, Nat.le_of_ble_eq_true rfl⟩) (sl_vX_4 hA hK hP hS hZ) rfl rfl hl.1 rfl (lv_room (Nat.le_of_ble_eq_true rfl)) dX5_sum_6 ⟨Nat.le_refl _, Nat.le_refl _⟩) hA hS (fun r_76 f_73 L_74 Q_75 H locs hq hP hS => ?_)
  obtain ⟨⟨ef9, eL9, eQ9⟩, hq, p_77, u_78⟩ := hq
  rw [ef9, eL9, eQ9] at hP; clear ef9 eL9 eQ9
  refine lv_istore_n (lv' := [(2, .int r_76), (0, .ref (h 4)), (1, .int 3)]) hx hb dX5_sum_9 rfl hl (by decide) rfl (fun ls hl => ?_)
  refine lv_iconst (v := 0) hx hb dX5_sum_10 ic_0 ?_
  refine lv_istore_n (lv' := [(3, .int 0), (2, .int r_76), (0, .ref (h 4)), (1, .int 3)]) hx hb dX5_sum_11 rfl hl (by decide) rfl (fun ls hl => ?_)
  exact loop_12 121 r_76 0 f_65 _ _ _ (hs.trans ((spl_e ev_1 (spl_e ev_3 (spl_e u_68 (spl_e ev_69 (spl_e u_78 rfl))))))) (by have kc1 : (0 : Int32).toInt = 0 := ti_0; omega) ⟨by omega, by omega⟩ (by decide) (by have kc1 : (0 : Int32).toInt = 0 := ti_0; have zz4_6 : (f_65 4 6).toInt = v_69.toInt := (congrArg Int32.toInt (show f_65 4 6 = v_69 from ev_69.symm)); have zz4_1 : (f_65 4 1).toInt = v_3.toInt := (congrArg Int32.toInt (show f_65 4 1 = v_3 from ((hk_f_65 4 1 (by decide)).trans ev_3.symm))); omega) hI hF hP hS (lv_sub hl [2, 3, 1, 0] rfl)

abbrev WkX5_compared_3 : List (Nat × Nat × Option Nat) := [(4, 4, some 6), (4, 4, some 7), (4, 4, some 8), (6, 6, none)]
set_option maxHeartbeats 4000000 in
set_option maxRecDepth 100000 in
theorem kX5_compared_3 (l : Launch) (D : va_G) (ca : Nat → ClassId) (za h : Nat → Nat) (hh : sgH 52 h) (f : sg_F) (L : sg_L) (Q : sg_Q) (hI : sgI loX hiX f) (sz : Nat) : Met l yX5_compared gwX5_compared { frames := 26, cells := 0, slots := 0, locals := 579 } (sgP D vwCl (tyX ca) 52 h (eX ca h) zcX za f L Q sz [.ref (h 4), .int 3]) (sgQv D vwCl 52 h (eX ca h) sz (fun f1 L1 Q1 => ((sgI loX hiX f1 ∧ sgK WkX5_compared_3 f f1 ∧ L1 = L ∧ Q1 = Q) ∧ (f1) = sX5_compared_3 f L))) 0 0 (sgA 52 h sz) := by
  refine sg_ofWv (cc := cX5_compared) (maxL := 3) RX5 (by decide) rfl rfl (Nat.le_of_ble_eq_true rfl) ?_
  intro p e s m below meth cd Qz ls hx hb hml hown hts hK hZ hP hS hl hret
  have hA := sgY.self (n := 52) (h := h) (sz := s.heap.size)
  have hl : lv_has ls 3 [(0, .ref (h 4)), (1, .int 3)] := hl
  obtain ⟨H, hH⟩ : ∃ z : Heap, z = s.heap := ⟨_, rfl⟩
  obtain ⟨locs, hlo⟩ : ∃ z : List Loc, z = [] := ⟨_, rfl⟩
  have hP : va_P D vwCl (sgw 52 h (eX ca h) f L Q) H := by rw [hH]; exact hP
  have hS : va_S (sgA 52 h s.heap.size) s.heap H locs := by rw [hH, hlo]; exact hS
  suffices hgo : W p l e ({ frames := 26, cells := 0, slots := 0, locals := 579 }) s m ([.ref (h 4), .int 3] : List Value).toArray below meth cd H locs 0 0 Qz (F0 m 0 ls []) by rw [hH, hlo] at hgo; exact hgo
  clear hH hlo
  obtain ⟨sp, hsp⟩ : ∃ z : sg_F, z = sX5_compared_3 f L := ⟨_, rfl⟩
  have hs : sp = sX5_compared_3 f L := hsp
  have hF : sgK WkX5_compared_3 f f := sgK.rf
  refine lv_aload_n hx hb dX5_compared_0 rfl (lv_at hl 0 rfl) ?_
  refine lv_iload_n hx hb dX5_compared_1 rfl (lv_at hl 1 rfl) ?_
  refine sg_callv (va_runV (As := [.int 3]) (rest := []) ⟨hx, hb, hml, hown, hts⟩ (kX5_sum_3 l D ca za h hh f L Q hI H.size) (sl_c5_sum_25_0_0_556_5 hts ⟨Nat.le_of_ble_eq_true rfl, Nat.le_of_ble_eq_true rfl⟩) (sl_vX_4 hA hK hP hS hZ) rfl rfl hl.1 rfl (lv_room (Nat.le_of_ble_eq_true rfl)) dX5_compared_2 ⟨Nat.le_refl _, Nat.le_refl _⟩) hA hS (fun f_1 L_2 Q_3 H locs hq hP hS => ?_)
  obtain ⟨⟨hI, hk_f_1, eL9, eQ9⟩, u_4⟩ := hq
  rw [eL9, eQ9] at hP; clear eL9 eQ9
  have hF : sgK WkX5_compared_3 f f_1 := sgK.tr hF hk_f_1 (by decide +kernel)
  refine lv_aload_n hx hb dX5_compared_5 rfl (lv_at hl 0 rfl) ?_
  obtain ⟨v_5, ev_5⟩ : ∃ z : Int32, z = f_1 4 6 := ⟨_, rfl⟩
  have q_6 : 0 ≤ v_5.toInt ∧ v_5.toInt ≤ 120 := by rw [ev_5]; exact hI 4 6
  have q_7 : (f_1 4 6).toInt = v_5.toInt := (congrArg Int32.toInt (show f_1 4 6 = v_5 from ev_5.symm))
  obtain ⟨v_8, ev_8⟩ : ∃ z : Int32, z = f_1 4 1 := ⟨_, rfl⟩
  have q_9 : 0 ≤ v_8.toInt ∧ v_8.toInt ≤ 120 := by rw [ev_8]; exact hI 4 1
  have q_10 : (f_1 4 1).toInt = v_8.toInt := (congrArg Int32.toInt (show f_1 4 1 = v_8 from ev_8.symm))
  refine sg_calli (va_runV (As := []) (rest := []) ⟨hx, hb, hml, hown, hts⟩ (kX5_next l D ca za h hh f_1 L Q hI H.size) (sl_c5_next_0_0_0_0_5 hts ⟨Nat.le_of_ble_eq_true rfl, Nat.le_of_ble_eq_true rfl⟩) (sl_vX_4 hA hK hP hS hZ) rfl rfl hl.1 rfl (lv_room (Nat.le_of_ble_eq_true rfl)) dX5_compared_6 ⟨Nat.le_refl _, Nat.le_refl _⟩) hA hS (fun r_14 f_11 L_12 Q_13 H locs hq hP hS => ?_)
  obtain ⟨⟨ef9, eL9, eQ9⟩, hq, p_15, u_16⟩ := hq
  replace hs := hs.trans (spl_e u_4 (spl_e ev_5 (spl_e ev_8 (spl_e u_16 rfl))))
  rw [ef9, eL9, eQ9] at hP; clear ef9 eL9 eQ9
  refine lv_istore_n (lv' := [(2, .int r_14), (0, .ref (h 4)), (1, .int 3)]) hx hb dX5_compared_9 rfl hl (by decide) rfl (fun ls hl => ?_)
  refine lv_iload_n hx hb dX5_compared_10 rfl (lv_at hl 0 rfl) ?_
  refine lv_bipush (v := 60) hx hb dX5_compared_11 bp_60 ?_
  refine lv_icmp_eq (tgt := 28) hx hb dX5_compared_13 (by decide) (fun c => ?_) (fun c => ?_)
  · skip
    have c_17 : r_14.toInt = 60 := (by first | exact (cm_eq1 ti_60 c) | (have z := Int32.toInt_inj.mpr c; have k1 : (60 : Int32).toInt = 60 := ti_60; omega))
    refine lv_aload_n hx hb dX5_compared_28 rfl (lv_at hl 1 rfl) ?_
    refine lv_dup hx hb dX5_compared_29 rfl ?_
    refine sl_gX_4_6_5 (v := v_5) hx hb hts hown hK hP (show f_1 4 6 = v_5 from ev_5.symm) dX5_compared_30 ?_
    refine lv_iconst (v := 1) hx hb dX5_compared_33 ic_1 ?_
    refine lv_iadd hx hb dX5_compared_34 ?_
    refine lv_topi (fun v_19 ev_19 => ?_)
    have q_20 : v_19.toInt = v_5.toInt + 1 := by rw [ev_19]; first | exact cm_add ti_1 (by omega) (by omega) | (have k1 : (1 : Int32).toInt = 1 := ti_1; exact (bn_addI (by omega) (by omega)).trans (by omega))
    refine sl_pX_4_6_5 (x := v_19) hx hb hts hown hh hA hK hP hS dX5_compared_35 (fun f_21 H locs ef_21 hP hS => ?_)
    have hI : sgI loX hiX f_21 := by rw [ef_21]; exact sgI.put hI 4 6 (show 0 ≤ (v_19 : Int32).toInt ∧ (v_19 : Int32).toInt ≤ 120 from ⟨by omega, by omega⟩)
    have hF : sgK WkX5_compared_3 f f_21 := sgK.put hF ef_21 (by rfl)
    refine lv_aload_n hx hb dX5_compared_38 rfl (lv_at hl 1 rfl) ?_
    refine lv_iload_n hx hb dX5_compared_39 rfl (lv_at hl 2 rfl) ?_
    refine sg_callv (va_runV (As := [.int 3]) (rest := []) ⟨hx, hb, hml, hown, hts⟩ (kX5_sum_3 l D ca za h hh f_21 L Q hI H.size) (sl_c5_sum_25_0_0_556_5 hts ⟨Nat.le_of_ble_eq_true rfl, Nat.le_of_ble_eq_true rfl⟩) (sl_vX_4 hA hK hP hS hZ) rfl rfl hl.1 rfl (lv_room (Nat.le_of_ble_eq_true rfl)) dX5_compared_40 ⟨Nat.le_refl _, Nat.le_refl _⟩) hA hS (fun f_22 L_23 Q_24 H locs hq hP hS => ?_)
    obtain ⟨⟨hI, hk_f_22, eL9, eQ9⟩, u_25⟩ := hq
    rw [eL9, eQ9] at hP; clear eL9 eQ9
    have hF : sgK WkX5_compared_3 f f_22 := sgK.tr hF hk_f_22 (by decide +kernel)
    refine lv_aload_n hx hb dX5_compared_43 rfl (lv_at hl 1 rfl) ?_
    refine lv_iload_n hx hb dX5_compared_44 rfl (lv_at hl 0 rfl) ?_
    refine sg_callv (va_runV (As := [.int r_14]) (rest := []) ⟨hx, hb, hml, hown, hts⟩ (kX5_write l D ca za h hh f_22 L Q hI r_14 H.size) (sl_c5_write_0_0_0_0_5 hts ⟨Nat.le_of_ble_eq_true rfl, Nat.le_of_ble_eq_true rfl⟩) (sl_vX_4 hA hK hP hS hZ) rfl rfl hl.1 rfl (lv_room (Nat.le_of_ble_eq_true rfl)) dX5_compared_45 ⟨Nat.le_refl _, Nat.le_refl _⟩) hA hS (fun f_26 L_27 Q_28 H locs hq hP hS => ?_)
    obtain ⟨⟨hI, hk_f_26, eL9, eQ9⟩, u_29⟩ := hq
    rw [eL9, eQ9] at hP; clear eL9 eQ9
    have hF : sgK WkX5_compared_3 f f_26 := sgK.tr hF hk_f_26 (by decide +kernel)
    exact hret _ _ _ _ f_26 L Q dX5_compared_48 hP hS ⟨⟨hI, hF, rfl, rfl⟩, (Eq.trans (Eq.symm (hs.trans ((if_pos c_17).trans (spl_e ev_19 (spl_e ef_21 (spl_e u_25 (spl_e u_29 rfl))))))) hsp)⟩
  · skip
    have c_18 : r_14.toInt ≠ 60 := (by first | exact (cm_ne1 ti_60 c) | (have z := bn_ne c; have k1 : (60 : Int32).toInt = 60 := ti_60; omega))
    replace hs := hs.trans ((if_neg c_18).trans rfl)
    refine lv_iload_n hx hb dX5_compared_16 rfl (lv_at hl 0 rfl) ?_
    refine lv_bipush (v := 61) hx hb dX5_compared_17 bp_61 ?_
    refine lv_icmp_eq (tgt := 28) hx hb dX5_compared_19 (by decide) (fun c => ?_) (fun c => ?_)
    · skip
      have c_30 : r_14.toInt = 61 := (by first | exact (cm_eq1 ti_61 c) | (have z := Int32.toInt_inj.mpr c; have k1 : (61 : Int32).toInt = 61 := ti_61; omega))
      refine lv_aload_n hx hb dX5_compared_28 rfl (lv_at hl 1 rfl) ?_
      refine lv_dup hx hb dX5_compared_29 rfl ?_
      refine sl_gX_4_6_5 (v := v_5) hx hb hts hown hK hP (show f_1 4 6 = v_5 from ev_5.symm) dX5_compared_30 ?_
      refine lv_iconst (v := 1) hx hb dX5_compared_33 ic_1 ?_
      refine lv_iadd hx hb dX5_compared_34 ?_
      refine lv_topi (fun v_32 ev_32 => ?_)
      have q_33 : v_32.toInt = v_5.toInt + 1 := by rw [ev_32]; first | exact cm_add ti_1 (by omega) (by omega) | (have k1 : (1 : Int32).toInt = 1 := ti_1; exact (bn_addI (by omega) (by omega)).trans (by omega))
      refine sl_pX_4_6_5 (x := v_32) hx hb hts hown hh hA hK hP hS dX5_compared_35 (fun f_34 H locs ef_34 hP hS => ?_)
      have hI : sgI loX hiX f_34 := by rw [ef_34]; exact sgI.put hI 4 6 (show 0 ≤ (v_32 : Int32).toInt ∧ (v_32 : Int32).toInt ≤ 120 from ⟨by omega, by omega⟩)
      have hF : sgK WkX5_compared_3 f f_34 := sgK.put hF ef_34 (by rfl)
      refine lv_aload_n hx hb dX5_compared_38 rfl (lv_at hl 1 rfl) ?_
      refine lv_iload_n hx hb dX5_compared_39 rfl (lv_at hl 2 rfl) ?_
      refine sg_callv (va_runV (As := [.int 3]) (rest := []) ⟨hx, hb, hml, hown, hts⟩ (kX5_sum_3 l D ca za h hh f_34 L Q hI H.size) (sl_c5_sum_25_0_0_556_5 hts ⟨Nat.le_of_ble_eq_true rfl, Nat.le_of_ble_eq_true rfl⟩) (sl_vX_4 hA hK hP hS hZ) rfl rfl hl.1 rfl (lv_room (Nat.le_of_ble_eq_true rfl)) dX5_compared_40 ⟨Nat.le_refl _, Nat.le_refl _⟩) hA hS (fun f_35 L_36 Q_37 H locs hq hP hS => ?_)
      obtain ⟨⟨hI, hk_f_35, eL9, eQ9⟩, u_38⟩ := hq
      rw [eL9, eQ9] at hP; clear eL9 eQ9
      have hF : sgK WkX5_compared_3 f f_35 := sgK.tr hF hk_f_35 (by decide +kernel)
      refine lv_aload_n hx hb dX5_compared_43 rfl (lv_at hl 1 rfl) ?_
      refine lv_iload_n hx hb dX5_compared_44 rfl (lv_at hl 0 rfl) ?_
      refine sg_callv (va_runV (As := [.int r_14]) (rest := []) ⟨hx, hb, hml, hown, hts⟩ (kX5_write l D ca za h hh f_35 L Q hI r_14 H.size) (sl_c5_write_0_0_0_0_5 hts ⟨Nat.le_of_ble_eq_true rfl, Nat.le_of_ble_eq_true rfl⟩) (sl_vX_4 hA hK hP hS hZ) rfl rfl hl.1 rfl (lv_room (Nat.le_of_ble_eq_true rfl)) dX5_compared_45 ⟨Nat.le_refl _, Nat.le_refl _⟩) hA hS (fun f_39 L_40 Q_41 H locs hq hP hS => ?_)
      obtain ⟨⟨hI, hk_f_39, eL9, eQ9⟩, u_42⟩ := hq
      rw [eL9, eQ9] at hP; clear eL9 eQ9
      have hF : sgK WkX5_compared_3 f f_39 := sgK.tr hF hk_f_39 (by decide +kernel)
      exact hret _ _ _ _ f_39 L Q dX5_compared_48 hP hS ⟨⟨hI, hF, rfl, rfl⟩, (Eq.trans (Eq.symm (hs.trans ((if_pos c_30).trans (spl_e ev_32 (spl_e ef_34 (spl_e u_38 (spl_e u_42 rfl))))))) hsp)⟩
    · skip
      have c_31 : r_14.toInt ≠ 61 := (by first | exact (cm_ne1 ti_61 c) | (have z := bn_ne c; have k1 : (61 : Int32).toInt = 61 := ti_61; omega))
      replace hs := hs.trans ((if_neg c_31).trans rfl)
      refine lv_iload_n hx hb dX5_compared_22 rfl (lv_at hl 0 rfl) ?_
      refine lv_bipush (v := 62) hx hb dX5_compared_23 bp_62 ?_
      refine lv_icmp_ne (tgt := 48) hx hb dX5_compared_25 (by decide) (fun c => ?_) (fun c => ?_)
      · skip
        have c_43 : r_14.toInt ≠ 62 := (by first | exact (cm_ne1 ti_62 c) | (have z := bn_ne c; have k1 : (62 : Int32).toInt = 62 := ti_62; omega))
        exact hret _ _ _ _ f_1 L Q dX5_compared_48 hP hS ⟨⟨hI, hF, rfl, rfl⟩, (Eq.trans (Eq.symm (hs.trans ((if_neg c_43).trans rfl))) hsp)⟩
      · skip
        have c_44 : r_14.toInt = 62 := (by first | exact (cm_eq1 ti_62 c) | (have z := Int32.toInt_inj.mpr c; have k1 : (62 : Int32).toInt = 62 := ti_62; omega))
        refine lv_aload_n hx hb dX5_compared_28 rfl (lv_at hl 1 rfl) ?_
        refine lv_dup hx hb dX5_compared_29 rfl ?_
        refine sl_gX_4_6_5 (v := v_5) hx hb hts hown hK hP (show f_1 4 6 = v_5 from ev_5.symm) dX5_compared_30 ?_
        refine lv_iconst (v := 1) hx hb dX5_compared_33 ic_1 ?_
        refine lv_iadd hx hb dX5_compared_34 ?_
        refine lv_topi (fun v_45 ev_45 => ?_)
        have q_46 : v_45.toInt = v_5.toInt + 1 := by rw [ev_45]; first | exact cm_add ti_1 (by omega) (by omega) | (have k1 : (1 : Int32).toInt = 1 := ti_1; exact (bn_addI (by omega) (by omega)).trans (by omega))
        refine sl_pX_4_6_5 (x := v_45) hx hb hts hown hh hA hK hP hS dX5_compared_35 (fun f_47 H locs ef_47 hP hS => ?_)
        have hI : sgI loX hiX f_47 := by rw [ef_47]; exact sgI.put hI 4 6 (show 0 ≤ (v_45 : Int32).toInt ∧ (v_45 : Int32).toInt ≤ 120 from ⟨by omega, by omega⟩)
        have hF : sgK WkX5_compared_3 f f_47 := sgK.put hF ef_47 (by rfl)
        refine lv_aload_n hx hb dX5_compared_38 rfl (lv_at hl 1 rfl) ?_
        refine lv_iload_n hx hb dX5_compared_39 rfl (lv_at hl 2 rfl) ?_
        refine sg_callv (va_runV (As := [.int 3]) (rest := []) ⟨hx, hb, hml, hown, hts⟩ (kX5_sum_3 l D ca za h hh f_47 L Q hI H.size) (sl_c5_sum_25_0_0_556_5 hts ⟨Nat.le_of_ble_eq_true rfl, Nat.le_of_ble_eq_true rfl⟩) (sl_vX_4 hA hK hP hS hZ) rfl rfl hl.1 rfl (lv_room (Nat.le_of_ble_eq_true rfl)) dX5_compared_40 ⟨Nat.le_refl _, Nat.le_refl _⟩) hA hS (fun f_48 L_49 Q_50 H locs hq hP hS => ?_)
        obtain ⟨⟨hI, hk_f_48, eL9, eQ9⟩, u_51⟩ := hq
        rw [eL9, eQ9] at hP; clear eL9 eQ9
        have hF : sgK WkX5_compared_3 f f_48 := sgK.tr hF hk_f_48 (by decide +kernel)
        refine lv_aload_n hx hb dX5_compared_43 rfl (lv_at hl 1 rfl) ?_
        refine lv_iload_n hx hb dX5_compared_44 rfl (lv_at hl 0 rfl) ?_
        refine sg_callv (va_runV (As := [.int r_14]) (rest := []) ⟨hx, hb, hml, hown, hts⟩ (kX5_write l D ca za h hh f_48 L Q hI r_14 H.size) (sl_c5_write_0_0_0_0_5 hts ⟨Nat.le_of_ble_eq_true rfl, Nat.le_of_ble_eq_true rfl⟩) (sl_vX_4 hA hK hP hS hZ) rfl rfl hl.1 rfl (lv_room (Nat.le_of_ble_eq_true rfl)) dX5_compared_45 ⟨Nat.le_refl _, Nat.le_refl _⟩) hA hS (fun f_52 L_53 Q_54 H locs hq hP hS => ?_)
        obtain ⟨⟨hI, hk_f_52, eL9, eQ9⟩, u_55⟩ := hq
        rw [eL9, eQ9] at hP; clear eL9 eQ9
        have hF : sgK WkX5_compared_3 f f_52 := sgK.tr hF hk_f_52 (by decide +kernel)
        exact hret _ _ _ _ f_52 L Q dX5_compared_48 hP hS ⟨⟨hI, hF, rfl, rfl⟩, (Eq.trans (Eq.symm (hs.trans ((if_pos c_44).trans (spl_e ev_45 (spl_e ef_47 (spl_e u_51 (spl_e u_55 rfl))))))) hsp)⟩

abbrev WkX5_both_3 : List (Nat × Nat × Option Nat) := [(4, 4, some 6), (4, 4, some 7), (4, 4, some 8), (6, 6, none)]
set_option maxHeartbeats 4000000 in
set_option maxRecDepth 100000 in
theorem kX5_both_3 (l : Launch) (D : va_G) (ca : Nat → ClassId) (za h : Nat → Nat) (hh : sgH 52 h) (f : sg_F) (L : sg_L) (Q : sg_Q) (hI : sgI loX hiX f) (sz : Nat) : Met l yX5_both gwX5_both { frames := 27, cells := 0, slots := 0, locals := 601 } (sgP D vwCl (tyX ca) 52 h (eX ca h) zcX za f L Q sz [.ref (h 4), .int 3]) (sgQv D vwCl 52 h (eX ca h) sz (fun f1 L1 Q1 => ((sgI loX hiX f1 ∧ sgK WkX5_both_3 f f1 ∧ L1 = L ∧ Q1 = Q) ∧ (f1) = sX5_both_3 f L))) 0 0 (sgA 52 h sz) := by
  refine sg_ofWv (cc := cX5_both) (maxL := 3) RX5 (by decide) rfl rfl (Nat.le_of_ble_eq_true rfl) ?_
  intro p e s m below meth cd Qz ls hx hb hml hown hts hK hZ hP hS hl hret
  have hA := sgY.self (n := 52) (h := h) (sz := s.heap.size)
  have hl : lv_has ls 3 [(0, .ref (h 4)), (1, .int 3)] := hl
  obtain ⟨H, hH⟩ : ∃ z : Heap, z = s.heap := ⟨_, rfl⟩
  obtain ⟨locs, hlo⟩ : ∃ z : List Loc, z = [] := ⟨_, rfl⟩
  have hP : va_P D vwCl (sgw 52 h (eX ca h) f L Q) H := by rw [hH]; exact hP
  have hS : va_S (sgA 52 h s.heap.size) s.heap H locs := by rw [hH, hlo]; exact hS
  suffices hgo : W p l e ({ frames := 27, cells := 0, slots := 0, locals := 601 }) s m ([.ref (h 4), .int 3] : List Value).toArray below meth cd H locs 0 0 Qz (F0 m 0 ls []) by rw [hH, hlo] at hgo; exact hgo
  clear hH hlo
  obtain ⟨sp, hsp⟩ : ∃ z : sg_F, z = sX5_both_3 f L := ⟨_, rfl⟩
  have hs : sp = sX5_both_3 f L := hsp
  have hF : sgK WkX5_both_3 f f := sgK.rf
  have loop_7 : ∀ (n_7 : Nat) (y2_7 : Int32) (fp_7 : sg_F) (H : Heap) (locs : List Loc) (ls : Array Slot), sp = sX5_both_3_l7 n_7 y2_7 fp_7 L → 120 - y2_7.toInt < (n_7 : Int) → 0 ≤ y2_7.toInt ∧ y2_7.toInt ≤ 120 → sgI loX hiX fp_7 → sgK WkX5_both_3 f fp_7 → va_P D vwCl (sgw 52 h (eX ca h) fp_7 L Q) H → va_S (sgA 52 h s.heap.size) s.heap H locs → lv_has ls 3 [(0, .ref (h 4)), (1, .int 3), (2, .int y2_7)] → W p l e ({ frames := 27, cells := 0, slots := 0, locals := 601 }) s m ([.ref (h 4), .int 3] : List Value).toArray below meth cd H locs 0 0 Qz (F0 m 7 ls []) := by
    intro n_7
    induction n_7 with
    | zero => intro y2_7 fp_7 H locs ls hs hm_7 hy0_7 hI hF hP hS hl; exact absurd hm_7 (by omega)
    | succ n_7 ih_7 =>
      intro y2_7 fp_7 H locs ls hs hm_7 hy0_7 hI hF hP hS hl
      have hs : sp = sX5_both_3_h7 (sX5_both_3_l7 n_7) y2_7 fp_7 L := hs
      refine lv_iload_n hx hb dX5_both_7 rfl (lv_at hl 2 rfl) ?_
      refine lv_bipush (v := 120) hx hb dX5_both_8 bp_120 ?_
      refine lv_icmp_ge (tgt := 49) hx hb dX5_both_10 (by decide) (fun c => ?_) (fun c => ?_)
      · skip
        have c_1 : 120 ≤ y2_7.toInt := (by first | exact (cm_le0 ti_120 c) | (have z := bn_le c; have k1 : (120 : Int32).toInt = 120 := ti_120; omega))
        exact hret _ _ _ _ fp_7 L Q dX5_both_49 hP hS ⟨⟨hI, hF, rfl, rfl⟩, (Eq.trans (Eq.symm (hs.trans (((if_neg (Int.not_lt.mpr c_1)).trans rfl)))) hsp)⟩
      · skip
        have c_2 : y2_7.toInt < 120 := (by first | exact (cm_nle0 ti_120 c) | (have z := bn_nle c; have k1 : (120 : Int32).toInt = 120 := ti_120; omega))
        refine lv_aload_n hx hb dX5_both_13 rfl (lv_at hl 0 rfl) ?_
        obtain ⟨v_3, ev_3⟩ : ∃ z : Int32, z = fp_7 4 6 := ⟨_, rfl⟩
        have q_4 : 0 ≤ v_3.toInt ∧ v_3.toInt ≤ 120 := by rw [ev_3]; exact hI 4 6
        have q_5 : (fp_7 4 6).toInt = v_3.toInt := (congrArg Int32.toInt (show fp_7 4 6 = v_3 from ev_3.symm))
        obtain ⟨v_6, ev_6⟩ : ∃ z : Int32, z = fp_7 4 1 := ⟨_, rfl⟩
        have q_7 : 0 ≤ v_6.toInt ∧ v_6.toInt ≤ 120 := by rw [ev_6]; exact hI 4 1
        have q_8 : (fp_7 4 1).toInt = v_6.toInt := (congrArg Int32.toInt (show fp_7 4 1 = v_6 from ev_6.symm))
        refine sg_calli (va_runV (As := []) (rest := []) ⟨hx, hb, hml, hown, hts⟩ (kX5_next l D ca za h hh fp_7 L Q hI H.size) (sl_c5_next_0_0_0_0_5 hts ⟨Nat.le_of_ble_eq_true rfl, Nat.le_of_ble_eq_true rfl⟩) (sl_vX_4 hA hK hP hS hZ) rfl rfl hl.1 rfl (lv_room (Nat.le_of_ble_eq_true rfl)) dX5_both_14 ⟨Nat.le_refl _, Nat.le_refl _⟩) hA hS (fun r_12 f_9 L_10 Q_11 H locs hq hP hS => ?_)
        obtain ⟨⟨ef9, eL9, eQ9⟩, hq, p_13, u_14⟩ := hq
        replace hs := hs.trans ((if_pos c_2).trans (spl_e ev_3 (spl_e ev_6 (spl_e u_14 rfl))))
        rw [ef9, eL9, eQ9] at hP; clear ef9 eL9 eQ9
        refine lv_bipush (v := 38) hx hb dX5_both_17 bp_38 ?_
        refine lv_icmp_ne (tgt := 49) hx hb dX5_both_19 (by decide) (fun c => ?_) (fun c => ?_)
        · skip
          have c_15 : r_12.toInt ≠ 38 := (by first | exact (cm_ne1 ti_38 c) | (have z := bn_ne c; have k1 : (38 : Int32).toInt = 38 := ti_38; omega))
          exact hret _ _ _ _ fp_7 L Q dX5_both_49 hP hS ⟨⟨hI, hF, rfl, rfl⟩, (Eq.trans (Eq.symm (hs.trans ((if_neg c_15).trans rfl))) hsp)⟩
        · skip
          have c_16 : r_12.toInt = 38 := (by first | exact (cm_eq1 ti_38 c) | (have z := Int32.toInt_inj.mpr c; have k1 : (38 : Int32).toInt = 38 := ti_38; omega))
          refine lv_aload_n hx hb dX5_both_22 rfl (lv_at hl 0 rfl) ?_
          refine lv_dup hx hb dX5_both_23 rfl ?_
          refine sl_gX_4_6_5 (v := v_3) hx hb hts hown hK hP (show fp_7 4 6 = v_3 from ev_3.symm) dX5_both_24 ?_
          refine lv_iconst (v := 1) hx hb dX5_both_27 ic_1 ?_
          refine lv_iadd hx hb dX5_both_28 ?_
          refine lv_topi (fun v_17 ev_17 => ?_)
          have q_18 : v_17.toInt = v_3.toInt + 1 := by rw [ev_17]; first | exact cm_add ti_1 (by omega) (by omega) | (have k1 : (1 : Int32).toInt = 1 := ti_1; exact (bn_addI (by omega) (by omega)).trans (by omega))
          refine sl_pX_4_6_5 (x := v_17) hx hb hts hown hh hA hK hP hS dX5_both_29 (fun f_19 H locs ef_19 hP hS => ?_)
          have hI : sgI loX hiX f_19 := by rw [ef_19]; exact sgI.put hI 4 6 (show 0 ≤ (v_17 : Int32).toInt ∧ (v_17 : Int32).toInt ≤ 120 from ⟨by omega, by omega⟩)
          have hF : sgK WkX5_both_3 f f_19 := sgK.put hF ef_19 (by rfl)
          refine lv_aload_n hx hb dX5_both_32 rfl (lv_at hl 0 rfl) ?_
          refine lv_iload_n hx hb dX5_both_33 rfl (lv_at hl 1 rfl) ?_
          refine sg_callv (va_runV (As := [.int 3]) (rest := []) ⟨hx, hb, hml, hown, hts⟩ (kX5_compared_3 l D ca za h hh f_19 L Q hI H.size) (sl_c5_compared_26_0_0_579_5 hts ⟨Nat.le_of_ble_eq_true rfl, Nat.le_of_ble_eq_true rfl⟩) (sl_vX_4 hA hK hP hS hZ) rfl rfl hl.1 rfl (lv_room (Nat.le_of_ble_eq_true rfl)) dX5_both_34 ⟨Nat.le_refl _, Nat.le_refl _⟩) hA hS (fun f_20 L_21 Q_22 H locs hq hP hS => ?_)
          obtain ⟨⟨hI, hk_f_20, eL9, eQ9⟩, u_23⟩ := hq
          rw [eL9, eQ9] at hP; clear eL9 eQ9
          have hF : sgK WkX5_both_3 f f_20 := sgK.tr hF hk_f_20 (by decide +kernel)
          refine lv_aload_n hx hb dX5_both_37 rfl (lv_at hl 0 rfl) ?_
          refine lv_bipush (v := 38) hx hb dX5_both_38 bp_38 ?_
          refine sg_callv (va_runV (As := [.int 38]) (rest := []) ⟨hx, hb, hml, hown, hts⟩ (kX5_write l D ca za h hh f_20 L Q hI 38 H.size) (sl_c5_write_0_0_0_0_5 hts ⟨Nat.le_of_ble_eq_true rfl, Nat.le_of_ble_eq_true rfl⟩) (sl_vX_4 hA hK hP hS hZ) rfl rfl hl.1 rfl (lv_room (Nat.le_of_ble_eq_true rfl)) dX5_both_40 ⟨Nat.le_refl _, Nat.le_refl _⟩) hA hS (fun f_24 L_25 Q_26 H locs hq hP hS => ?_)
          obtain ⟨⟨hI, hk_f_24, eL9, eQ9⟩, u_27⟩ := hq
          rw [eL9, eQ9] at hP; clear eL9 eQ9
          have hF : sgK WkX5_both_3 f f_24 := sgK.tr hF hk_f_24 (by decide +kernel)
          obtain ⟨v_28, ev_28⟩ : ∃ z : Int32, z = y2_7 + 1 := ⟨_, rfl⟩
          have q_29 : v_28.toInt = y2_7.toInt + 1 := by rw [ev_28]; exact (bn_addc y2_7 1 (by decide) (by omega) (by omega))
          refine lv_iinc (v := v_28) (lv' := [(2, .int v_28), (0, .ref (h 4)), (1, .int 3)]) hx hb dX5_both_43 hl (k := 2) rfl (by rw [ev_28]; rfl) (by decide) rfl (fun ls hl => ?_)
          refine lv_goto (tgt := 7) hx hb dX5_both_46 (by decide) ?_
          exact ih_7 v_28 f_24 _ _ _ (hs.trans ((if_pos c_16).trans (spl_e ev_17 (spl_e ef_19 (spl_e u_23 (spl_e u_27 (spl_e ev_28 rfl))))))) (by omega) ⟨by omega, by omega⟩ hI hF hP hS (lv_sub hl [1, 2, 0] rfl)
  refine lv_aload_n hx hb dX5_both_0 rfl (lv_at hl 0 rfl) ?_
  refine lv_iload_n hx hb dX5_both_1 rfl (lv_at hl 1 rfl) ?_
  refine sg_callv (va_runV (As := [.int 3]) (rest := []) ⟨hx, hb, hml, hown, hts⟩ (kX5_compared_3 l D ca za h hh f L Q hI H.size) (sl_c5_compared_26_0_0_579_5 hts ⟨Nat.le_of_ble_eq_true rfl, Nat.le_of_ble_eq_true rfl⟩) (sl_vX_4 hA hK hP hS hZ) rfl rfl hl.1 rfl (lv_room (Nat.le_of_ble_eq_true rfl)) dX5_both_2 ⟨Nat.le_refl _, Nat.le_refl _⟩) hA hS (fun f_30 L_31 Q_32 H locs hq hP hS => ?_)
  obtain ⟨⟨hI, hk_f_30, eL9, eQ9⟩, u_33⟩ := hq
  rw [eL9, eQ9] at hP; clear eL9 eQ9
  have hF : sgK WkX5_both_3 f f_30 := sgK.tr hF hk_f_30 (by decide +kernel)
  refine lv_iconst (v := 0) hx hb dX5_both_5 ic_0 ?_
  refine lv_istore_n (lv' := [(2, .int 0), (0, .ref (h 4)), (1, .int 3)]) hx hb dX5_both_6 rfl hl (by decide) rfl (fun ls hl => ?_)
  exact loop_7 121 0 f_30 _ _ _ (hs.trans ((spl_e u_33 rfl))) (by have kc0 : (0 : Int32).toInt = 0 := ti_0; omega) (by decide) hI hF hP hS (lv_sub hl [1, 2, 0] rfl)

abbrev WkX5_either_3 : List (Nat × Nat × Option Nat) := [(4, 4, some 6), (4, 4, some 7), (4, 4, some 8), (6, 6, none)]
set_option maxHeartbeats 4000000 in
set_option maxRecDepth 100000 in
theorem kX5_either_3 (l : Launch) (D : va_G) (ca : Nat → ClassId) (za h : Nat → Nat) (hh : sgH 52 h) (f : sg_F) (L : sg_L) (Q : sg_Q) (hI : sgI loX hiX f) (sz : Nat) : Met l yX5_either gwX5_either { frames := 28, cells := 0, slots := 0, locals := 623 } (sgP D vwCl (tyX ca) 52 h (eX ca h) zcX za f L Q sz [.ref (h 4), .int 3]) (sgQv D vwCl 52 h (eX ca h) sz (fun f1 L1 Q1 => ((sgI loX hiX f1 ∧ sgK WkX5_either_3 f f1 ∧ L1 = L ∧ Q1 = Q) ∧ (f1) = sX5_either_3 f L))) 0 0 (sgA 52 h sz) := by
  refine sg_ofWv (cc := cX5_either) (maxL := 3) RX5 (by decide) rfl rfl (Nat.le_of_ble_eq_true rfl) ?_
  intro p e s m below meth cd Qz ls hx hb hml hown hts hK hZ hP hS hl hret
  have hA := sgY.self (n := 52) (h := h) (sz := s.heap.size)
  have hl : lv_has ls 3 [(0, .ref (h 4)), (1, .int 3)] := hl
  obtain ⟨H, hH⟩ : ∃ z : Heap, z = s.heap := ⟨_, rfl⟩
  obtain ⟨locs, hlo⟩ : ∃ z : List Loc, z = [] := ⟨_, rfl⟩
  have hP : va_P D vwCl (sgw 52 h (eX ca h) f L Q) H := by rw [hH]; exact hP
  have hS : va_S (sgA 52 h s.heap.size) s.heap H locs := by rw [hH, hlo]; exact hS
  suffices hgo : W p l e ({ frames := 28, cells := 0, slots := 0, locals := 623 }) s m ([.ref (h 4), .int 3] : List Value).toArray below meth cd H locs 0 0 Qz (F0 m 0 ls []) by rw [hH, hlo] at hgo; exact hgo
  clear hH hlo
  obtain ⟨sp, hsp⟩ : ∃ z : sg_F, z = sX5_either_3 f L := ⟨_, rfl⟩
  have hs : sp = sX5_either_3 f L := hsp
  have hF : sgK WkX5_either_3 f f := sgK.rf
  have loop_7 : ∀ (n_7 : Nat) (y2_7 : Int32) (fp_7 : sg_F) (H : Heap) (locs : List Loc) (ls : Array Slot), sp = sX5_either_3_l7 n_7 y2_7 fp_7 L → 120 - y2_7.toInt < (n_7 : Int) → 0 ≤ y2_7.toInt ∧ y2_7.toInt ≤ 120 → sgI loX hiX fp_7 → sgK WkX5_either_3 f fp_7 → va_P D vwCl (sgw 52 h (eX ca h) fp_7 L Q) H → va_S (sgA 52 h s.heap.size) s.heap H locs → lv_has ls 3 [(0, .ref (h 4)), (1, .int 3), (2, .int y2_7)] → W p l e ({ frames := 28, cells := 0, slots := 0, locals := 623 }) s m ([.ref (h 4), .int 3] : List Value).toArray below meth cd H locs 0 0 Qz (F0 m 7 ls []) := by
    intro n_7
    induction n_7 with
    | zero => intro y2_7 fp_7 H locs ls hs hm_7 hy0_7 hI hF hP hS hl; exact absurd hm_7 (by omega)
    | succ n_7 ih_7 =>
      intro y2_7 fp_7 H locs ls hs hm_7 hy0_7 hI hF hP hS hl
      have hs : sp = sX5_either_3_h7 (sX5_either_3_l7 n_7) y2_7 fp_7 L := hs
      refine lv_iload_n hx hb dX5_either_7 rfl (lv_at hl 2 rfl) ?_
      refine lv_bipush (v := 120) hx hb dX5_either_8 bp_120 ?_
      refine lv_icmp_ge (tgt := 49) hx hb dX5_either_10 (by decide) (fun c => ?_) (fun c => ?_)
      · skip
        have c_1 : 120 ≤ y2_7.toInt := (by first | exact (cm_le0 ti_120 c) | (have z := bn_le c; have k1 : (120 : Int32).toInt = 120 := ti_120; omega))
        exact hret _ _ _ _ fp_7 L Q dX5_either_49 hP hS ⟨⟨hI, hF, rfl, rfl⟩, (Eq.trans (Eq.symm (hs.trans (((if_neg (Int.not_lt.mpr c_1)).trans rfl)))) hsp)⟩
      · skip
        have c_2 : y2_7.toInt < 120 := (by first | exact (cm_nle0 ti_120 c) | (have z := bn_nle c; have k1 : (120 : Int32).toInt = 120 := ti_120; omega))
        refine lv_aload_n hx hb dX5_either_13 rfl (lv_at hl 0 rfl) ?_
        obtain ⟨v_3, ev_3⟩ : ∃ z : Int32, z = fp_7 4 6 := ⟨_, rfl⟩
        have q_4 : 0 ≤ v_3.toInt ∧ v_3.toInt ≤ 120 := by rw [ev_3]; exact hI 4 6
        have q_5 : (fp_7 4 6).toInt = v_3.toInt := (congrArg Int32.toInt (show fp_7 4 6 = v_3 from ev_3.symm))
        obtain ⟨v_6, ev_6⟩ : ∃ z : Int32, z = fp_7 4 1 := ⟨_, rfl⟩
        have q_7 : 0 ≤ v_6.toInt ∧ v_6.toInt ≤ 120 := by rw [ev_6]; exact hI 4 1
        have q_8 : (fp_7 4 1).toInt = v_6.toInt := (congrArg Int32.toInt (show fp_7 4 1 = v_6 from ev_6.symm))
        refine sg_calli (va_runV (As := []) (rest := []) ⟨hx, hb, hml, hown, hts⟩ (kX5_next l D ca za h hh fp_7 L Q hI H.size) (sl_c5_next_0_0_0_0_5 hts ⟨Nat.le_of_ble_eq_true rfl, Nat.le_of_ble_eq_true rfl⟩) (sl_vX_4 hA hK hP hS hZ) rfl rfl hl.1 rfl (lv_room (Nat.le_of_ble_eq_true rfl)) dX5_either_14 ⟨Nat.le_refl _, Nat.le_refl _⟩) hA hS (fun r_12 f_9 L_10 Q_11 H locs hq hP hS => ?_)
        obtain ⟨⟨ef9, eL9, eQ9⟩, hq, p_13, u_14⟩ := hq
        replace hs := hs.trans ((if_pos c_2).trans (spl_e ev_3 (spl_e ev_6 (spl_e u_14 rfl))))
        rw [ef9, eL9, eQ9] at hP; clear ef9 eL9 eQ9
        refine lv_bipush (v := 124) hx hb dX5_either_17 bp_124 ?_
        refine lv_icmp_ne (tgt := 49) hx hb dX5_either_19 (by decide) (fun c => ?_) (fun c => ?_)
        · skip
          have c_15 : r_12.toInt ≠ 124 := (by first | exact (cm_ne1 ti_124 c) | (have z := bn_ne c; have k1 : (124 : Int32).toInt = 124 := ti_124; omega))
          exact hret _ _ _ _ fp_7 L Q dX5_either_49 hP hS ⟨⟨hI, hF, rfl, rfl⟩, (Eq.trans (Eq.symm (hs.trans ((if_neg c_15).trans rfl))) hsp)⟩
        · skip
          have c_16 : r_12.toInt = 124 := (by first | exact (cm_eq1 ti_124 c) | (have z := Int32.toInt_inj.mpr c; have k1 : (124 : Int32).toInt = 124 := ti_124; omega))
          refine lv_aload_n hx hb dX5_either_22 rfl (lv_at hl 0 rfl) ?_
          refine lv_dup hx hb dX5_either_23 rfl ?_
          refine sl_gX_4_6_5 (v := v_3) hx hb hts hown hK hP (show fp_7 4 6 = v_3 from ev_3.symm) dX5_either_24 ?_
          refine lv_iconst (v := 1) hx hb dX5_either_27 ic_1 ?_
          refine lv_iadd hx hb dX5_either_28 ?_
          refine lv_topi (fun v_17 ev_17 => ?_)
          have q_18 : v_17.toInt = v_3.toInt + 1 := by rw [ev_17]; first | exact cm_add ti_1 (by omega) (by omega) | (have k1 : (1 : Int32).toInt = 1 := ti_1; exact (bn_addI (by omega) (by omega)).trans (by omega))
          refine sl_pX_4_6_5 (x := v_17) hx hb hts hown hh hA hK hP hS dX5_either_29 (fun f_19 H locs ef_19 hP hS => ?_)
          have hI : sgI loX hiX f_19 := by rw [ef_19]; exact sgI.put hI 4 6 (show 0 ≤ (v_17 : Int32).toInt ∧ (v_17 : Int32).toInt ≤ 120 from ⟨by omega, by omega⟩)
          have hF : sgK WkX5_either_3 f f_19 := sgK.put hF ef_19 (by rfl)
          refine lv_aload_n hx hb dX5_either_32 rfl (lv_at hl 0 rfl) ?_
          refine lv_iload_n hx hb dX5_either_33 rfl (lv_at hl 1 rfl) ?_
          refine sg_callv (va_runV (As := [.int 3]) (rest := []) ⟨hx, hb, hml, hown, hts⟩ (kX5_both_3 l D ca za h hh f_19 L Q hI H.size) (sl_c5_both_27_0_0_601_5 hts ⟨Nat.le_of_ble_eq_true rfl, Nat.le_of_ble_eq_true rfl⟩) (sl_vX_4 hA hK hP hS hZ) rfl rfl hl.1 rfl (lv_room (Nat.le_of_ble_eq_true rfl)) dX5_either_34 ⟨Nat.le_refl _, Nat.le_refl _⟩) hA hS (fun f_20 L_21 Q_22 H locs hq hP hS => ?_)
          obtain ⟨⟨hI, hk_f_20, eL9, eQ9⟩, u_23⟩ := hq
          rw [eL9, eQ9] at hP; clear eL9 eQ9
          have hF : sgK WkX5_either_3 f f_20 := sgK.tr hF hk_f_20 (by decide +kernel)
          refine lv_aload_n hx hb dX5_either_37 rfl (lv_at hl 0 rfl) ?_
          refine lv_bipush (v := 124) hx hb dX5_either_38 bp_124 ?_
          refine sg_callv (va_runV (As := [.int 124]) (rest := []) ⟨hx, hb, hml, hown, hts⟩ (kX5_write l D ca za h hh f_20 L Q hI 124 H.size) (sl_c5_write_0_0_0_0_5 hts ⟨Nat.le_of_ble_eq_true rfl, Nat.le_of_ble_eq_true rfl⟩) (sl_vX_4 hA hK hP hS hZ) rfl rfl hl.1 rfl (lv_room (Nat.le_of_ble_eq_true rfl)) dX5_either_40 ⟨Nat.le_refl _, Nat.le_refl _⟩) hA hS (fun f_24 L_25 Q_26 H locs hq hP hS => ?_)
          obtain ⟨⟨hI, hk_f_24, eL9, eQ9⟩, u_27⟩ := hq
          rw [eL9, eQ9] at hP; clear eL9 eQ9
          have hF : sgK WkX5_either_3 f f_24 := sgK.tr hF hk_f_24 (by decide +kernel)
          obtain ⟨v_28, ev_28⟩ : ∃ z : Int32, z = y2_7 + 1 := ⟨_, rfl⟩
          have q_29 : v_28.toInt = y2_7.toInt + 1 := by rw [ev_28]; exact (bn_addc y2_7 1 (by decide) (by omega) (by omega))
          refine lv_iinc (v := v_28) (lv' := [(2, .int v_28), (0, .ref (h 4)), (1, .int 3)]) hx hb dX5_either_43 hl (k := 2) rfl (by rw [ev_28]; rfl) (by decide) rfl (fun ls hl => ?_)
          refine lv_goto (tgt := 7) hx hb dX5_either_46 (by decide) ?_
          exact ih_7 v_28 f_24 _ _ _ (hs.trans ((if_pos c_16).trans (spl_e ev_17 (spl_e ef_19 (spl_e u_23 (spl_e u_27 (spl_e ev_28 rfl))))))) (by omega) ⟨by omega, by omega⟩ hI hF hP hS (lv_sub hl [1, 2, 0] rfl)
  refine lv_aload_n hx hb dX5_either_0 rfl (lv_at hl 0 rfl) ?_
  refine lv_iload_n hx hb dX5_either_1 rfl (lv_at hl 1 rfl) ?_
  refine sg_callv (va_runV (As := [.int 3]) (rest := []) ⟨hx, hb, hml, hown, hts⟩ (kX5_both_3 l D ca za h hh f L Q hI H.size) (sl_c5_both_27_0_0_601_5 hts ⟨Nat.le_of_ble_eq_true rfl, Nat.le_of_ble_eq_true rfl⟩) (sl_vX_4 hA hK hP hS hZ) rfl rfl hl.1 rfl (lv_room (Nat.le_of_ble_eq_true rfl)) dX5_either_2 ⟨Nat.le_refl _, Nat.le_refl _⟩) hA hS (fun f_30 L_31 Q_32 H locs hq hP hS => ?_)
  obtain ⟨⟨hI, hk_f_30, eL9, eQ9⟩, u_33⟩ := hq
  rw [eL9, eQ9] at hP; clear eL9 eQ9
  have hF : sgK WkX5_either_3 f f_30 := sgK.tr hF hk_f_30 (by decide +kernel)
  refine lv_iconst (v := 0) hx hb dX5_either_5 ic_0 ?_
  refine lv_istore_n (lv' := [(2, .int 0), (0, .ref (h 4)), (1, .int 3)]) hx hb dX5_either_6 rfl hl (by decide) rfl (fun ls hl => ?_)
  exact loop_7 121 0 f_30 _ _ _ (hs.trans ((spl_e u_33 rfl))) (by have kc0 : (0 : Int32).toInt = 0 := ti_0; omega) (by decide) hI hF hP hS (lv_sub hl [1, 2, 0] rfl)

abbrev WkX5_opened_3 : List (Nat × Nat × Option Nat) := [(4, 4, some 6), (4, 4, some 7), (4, 4, some 8), (6, 6, none)]
set_option maxHeartbeats 4000000 in
set_option maxRecDepth 100000 in
theorem kX5_opened_3 (l : Launch) (D : va_G) (ca : Nat → ClassId) (za h : Nat → Nat) (hh : sgH 52 h) (f : sg_F) (L : sg_L) (Q : sg_Q) (hI : sgI loX hiX f) (x0 : Int32) (b0 : 33 ≤ x0.toInt ∧ x0.toInt ≤ 49) (sz : Nat) : Met l yX5_opened gwX5_opened { frames := 29, cells := 0, slots := 0, locals := 645 } (sgP D vwCl (tyX ca) 52 h (eX ca h) zcX za f L Q sz [.ref (h 4), .int x0, .int 3]) (sgQv D vwCl 52 h (eX ca h) sz (fun f1 L1 Q1 => ((sgI loX hiX f1 ∧ sgK WkX5_opened_3 f f1 ∧ L1 = L ∧ Q1 = Q) ∧ (f1) = sX5_opened_3 x0 f L))) 0 0 (sgA 52 h sz) := by
  refine sg_ofWv (cc := cX5_opened) (maxL := 3) RX5 (by decide) rfl rfl (Nat.le_of_ble_eq_true rfl) ?_
  intro p e s m below meth cd Qz ls hx hb hml hown hts hK hZ hP hS hl hret
  have hA := sgY.self (n := 52) (h := h) (sz := s.heap.size)
  have hl : lv_has ls 3 [(0, .ref (h 4)), (1, .int x0), (2, .int 3)] := hl
  obtain ⟨H, hH⟩ : ∃ z : Heap, z = s.heap := ⟨_, rfl⟩
  obtain ⟨locs, hlo⟩ : ∃ z : List Loc, z = [] := ⟨_, rfl⟩
  have hP : va_P D vwCl (sgw 52 h (eX ca h) f L Q) H := by rw [hH]; exact hP
  have hS : va_S (sgA 52 h s.heap.size) s.heap H locs := by rw [hH, hlo]; exact hS
  suffices hgo : W p l e ({ frames := 29, cells := 0, slots := 0, locals := 645 }) s m ([.ref (h 4), .int x0, .int 3] : List Value).toArray below meth cd H locs 0 0 Qz (F0 m 0 ls []) by rw [hH, hlo] at hgo; exact hgo
  clear hH hlo
  obtain ⟨sp, hsp⟩ : ∃ z : sg_F, z = sX5_opened_3 x0 f L := ⟨_, rfl⟩
  have hs : sp = sX5_opened_3 x0 f L := hsp
  have hF : sgK WkX5_opened_3 f f := sgK.rf
  refine lv_iload_n hx hb dX5_opened_0 rfl (lv_at hl 1 rfl) ?_
  refine lv_bipush (v := 40) hx hb dX5_opened_1 bp_40 ?_
  refine lv_icmp_eq (tgt := 29) hx hb dX5_opened_3 (by decide) (fun c => ?_) (fun c => ?_)
  · skip
    have c_1 : x0.toInt = 40 := (by first | exact (cm_eq1 ti_40 c) | (have z := Int32.toInt_inj.mpr c; have k1 : (40 : Int32).toInt = 40 := ti_40; omega))
    refine lv_aload_n hx hb dX5_opened_29 rfl (lv_at hl 0 rfl) ?_
    refine lv_iload_n hx hb dX5_opened_30 rfl (lv_at hl 2 rfl) ?_
    refine sg_callv (va_runV (As := [.int 3]) (rest := []) ⟨hx, hb, hml, hown, hts⟩ (kX5_either_3 l D ca za h hh f L Q hI H.size) (sl_c5_either_28_0_0_623_5 hts ⟨Nat.le_of_ble_eq_true rfl, Nat.le_of_ble_eq_true rfl⟩) (sl_vX_4 hA hK hP hS hZ) rfl rfl hl.1 rfl (lv_room (Nat.le_of_ble_eq_true rfl)) dX5_opened_31 ⟨Nat.le_refl _, Nat.le_refl _⟩) hA hS (fun f_3 L_4 Q_5 H locs hq hP hS => ?_)
    obtain ⟨⟨hI, hk_f_3, eL9, eQ9⟩, u_6⟩ := hq
    rw [eL9, eQ9] at hP; clear eL9 eQ9
    have hF : sgK WkX5_opened_3 f f_3 := sgK.tr hF hk_f_3 (by decide +kernel)
    refine lv_aload_n hx hb dX5_opened_34 rfl (lv_at hl 0 rfl) ?_
    obtain ⟨v_7, ev_7⟩ : ∃ z : Int32, z = f_3 4 6 := ⟨_, rfl⟩
    have q_8 : 0 ≤ v_7.toInt ∧ v_7.toInt ≤ 120 := by rw [ev_7]; exact hI 4 6
    have q_9 : (f_3 4 6).toInt = v_7.toInt := (congrArg Int32.toInt (show f_3 4 6 = v_7 from ev_7.symm))
    obtain ⟨v_10, ev_10⟩ : ∃ z : Int32, z = f_3 4 1 := ⟨_, rfl⟩
    have q_11 : 0 ≤ v_10.toInt ∧ v_10.toInt ≤ 120 := by rw [ev_10]; exact hI 4 1
    have q_12 : (f_3 4 1).toInt = v_10.toInt := (congrArg Int32.toInt (show f_3 4 1 = v_10 from ev_10.symm))
    refine sg_calli (va_runV (As := []) (rest := []) ⟨hx, hb, hml, hown, hts⟩ (kX5_next l D ca za h hh f_3 L Q hI H.size) (sl_c5_next_0_0_0_0_5 hts ⟨Nat.le_of_ble_eq_true rfl, Nat.le_of_ble_eq_true rfl⟩) (sl_vX_4 hA hK hP hS hZ) rfl rfl hl.1 rfl (lv_room (Nat.le_of_ble_eq_true rfl)) dX5_opened_35 ⟨Nat.le_refl _, Nat.le_refl _⟩) hA hS (fun r_16 f_13 L_14 Q_15 H locs hq hP hS => ?_)
    obtain ⟨⟨ef9, eL9, eQ9⟩, hq, p_17, u_18⟩ := hq
    replace hs := hs.trans ((if_pos c_1).trans (spl_e u_6 (spl_e ev_7 (spl_e ev_10 (spl_e u_18 rfl)))))
    rw [ef9, eL9, eQ9] at hP; clear ef9 eL9 eQ9
    refine lv_bipush (v := 41) hx hb dX5_opened_38 bp_41 ?_
    refine lv_icmp_ne (tgt := 56) hx hb dX5_opened_40 (by decide) (fun c => ?_) (fun c => ?_)
    · skip
      have c_19 : r_16.toInt ≠ 41 := (by first | exact (cm_ne1 ti_41 c) | (have z := bn_ne c; have k1 : (41 : Int32).toInt = 41 := ti_41; omega))
      refine lv_aload_n hx hb dX5_opened_56 rfl (lv_at hl 0 rfl) ?_
      refine sg_callv (va_runV (As := []) (rest := []) ⟨hx, hb, hml, hown, hts⟩ (kX5_fail l D ca za h hh f_3 L Q hI H.size) (sl_c5_fail_0_0_0_0_5 hts ⟨Nat.le_of_ble_eq_true rfl, Nat.le_of_ble_eq_true rfl⟩) (sl_vX_4 hA hK hP hS hZ) rfl rfl hl.1 rfl (lv_room (Nat.le_of_ble_eq_true rfl)) dX5_opened_57 ⟨Nat.le_refl _, Nat.le_refl _⟩) hA hS (fun f_21 L_22 Q_23 H locs hq hP hS => ?_)
      obtain ⟨⟨hI, hk_f_21, eL9, eQ9⟩, u_24⟩ := hq
      rw [eL9, eQ9] at hP; clear eL9 eQ9
      have hF : sgK WkX5_opened_3 f f_21 := sgK.tr hF hk_f_21 (by decide +kernel)
      exact hret _ _ _ _ f_21 L Q dX5_opened_60 hP hS ⟨⟨hI, hF, rfl, rfl⟩, (Eq.trans (Eq.symm (hs.trans ((if_neg c_19).trans (spl_e u_24 rfl)))) hsp)⟩
    · skip
      have c_20 : r_16.toInt = 41 := (by first | exact (cm_eq1 ti_41 c) | (have z := Int32.toInt_inj.mpr c; have k1 : (41 : Int32).toInt = 41 := ti_41; omega))
      refine lv_aload_n hx hb dX5_opened_43 rfl (lv_at hl 0 rfl) ?_
      refine lv_dup hx hb dX5_opened_44 rfl ?_
      refine sl_gX_4_6_5 (v := v_7) hx hb hts hown hK hP (show f_3 4 6 = v_7 from ev_7.symm) dX5_opened_45 ?_
      refine lv_iconst (v := 1) hx hb dX5_opened_48 ic_1 ?_
      refine lv_iadd hx hb dX5_opened_49 ?_
      refine lv_topi (fun v_25 ev_25 => ?_)
      have q_26 : v_25.toInt = v_7.toInt + 1 := by rw [ev_25]; first | exact cm_add ti_1 (by omega) (by omega) | (have k1 : (1 : Int32).toInt = 1 := ti_1; exact (bn_addI (by omega) (by omega)).trans (by omega))
      refine sl_pX_4_6_5 (x := v_25) hx hb hts hown hh hA hK hP hS dX5_opened_50 (fun f_27 H locs ef_27 hP hS => ?_)
      have hI : sgI loX hiX f_27 := by rw [ef_27]; exact sgI.put hI 4 6 (show 0 ≤ (v_25 : Int32).toInt ∧ (v_25 : Int32).toInt ≤ 120 from ⟨by omega, by omega⟩)
      have hF : sgK WkX5_opened_3 f f_27 := sgK.put hF ef_27 (by rfl)
      refine lv_goto (tgt := 60) hx hb dX5_opened_53 (by decide) ?_
      exact hret _ _ _ _ f_27 L Q dX5_opened_60 hP hS ⟨⟨hI, hF, rfl, rfl⟩, (Eq.trans (Eq.symm (hs.trans ((if_pos c_20).trans (spl_e ev_25 (spl_e ef_27 rfl))))) hsp)⟩
  · skip
    have c_2 : x0.toInt ≠ 40 := (by first | exact (cm_ne1 ti_40 c) | (have z := bn_ne c; have k1 : (40 : Int32).toInt = 40 := ti_40; omega))
    refine lv_aload_n hx hb dX5_opened_6 rfl (lv_at hl 0 rfl) ?_
    refine lv_iload_n hx hb dX5_opened_7 rfl (lv_at hl 2 rfl) ?_
    refine sg_callv (va_runV (As := [.int 3]) (rest := []) ⟨hx, hb, hml, hown, hts⟩ (kX5_operand_3 l D ca za h hh f L Q hI H.size) (sl_c5_operand_23_0_0_511_5 hts ⟨Nat.le_of_ble_eq_true rfl, Nat.le_of_ble_eq_true rfl⟩) (sl_vX_4 hA hK hP hS hZ) rfl rfl hl.1 rfl (lv_room (Nat.le_of_ble_eq_true rfl)) dX5_opened_8 ⟨Nat.le_refl _, Nat.le_refl _⟩) hA hS (fun f_28 L_29 Q_30 H locs hq hP hS => ?_)
    obtain ⟨⟨hI, hk_f_28, eL9, eQ9⟩, u_31⟩ := hq
    replace hs := hs.trans ((if_neg c_2).trans (spl_e u_31 rfl))
    rw [eL9, eQ9] at hP; clear eL9 eQ9
    have hF : sgK WkX5_opened_3 f f_28 := sgK.tr hF hk_f_28 (by decide +kernel)
    refine lv_aload_n hx hb dX5_opened_11 rfl (lv_at hl 0 rfl) ?_
    refine lv_iload_n hx hb dX5_opened_12 rfl (lv_at hl 1 rfl) ?_
    refine lv_bipush (v := 33) hx hb dX5_opened_13 bp_33 ?_
    refine lv_icmp_ne (tgt := 23) hx hb dX5_opened_15 (by decide) (fun c => ?_) (fun c => ?_)
    · skip
      have c_32 : x0.toInt ≠ 33 := (by first | exact (cm_ne1 ti_33 c) | (have z := bn_ne c; have k1 : (33 : Int32).toInt = 33 := ti_33; omega))
      refine lv_bipush (v := 126) hx hb dX5_opened_23 bp_126 ?_
      refine sg_callv (va_runV (As := [.int 126]) (rest := []) ⟨hx, hb, hml, hown, hts⟩ (kX5_write l D ca za h hh f_28 L Q hI 126 H.size) (sl_c5_write_0_0_0_0_5 hts ⟨Nat.le_of_ble_eq_true rfl, Nat.le_of_ble_eq_true rfl⟩) (sl_vX_4 hA hK hP hS hZ) rfl rfl hl.1 rfl (lv_room (Nat.le_of_ble_eq_true rfl)) dX5_opened_25 ⟨Nat.le_refl _, Nat.le_refl _⟩) hA hS (fun f_34 L_35 Q_36 H locs hq hP hS => ?_)
      obtain ⟨⟨hI, hk_f_34, eL9, eQ9⟩, u_37⟩ := hq
      rw [eL9, eQ9] at hP; clear eL9 eQ9
      have hF : sgK WkX5_opened_3 f f_34 := sgK.tr hF hk_f_34 (by decide +kernel)
      exact hret _ _ _ _ f_34 L Q dX5_opened_28 hP hS ⟨⟨hI, hF, rfl, rfl⟩, (Eq.trans (Eq.symm (hs.trans ((if_neg c_32).trans (spl_e u_37 rfl)))) hsp)⟩
    · skip
      have c_33 : x0.toInt = 33 := (by first | exact (cm_eq1 ti_33 c) | (have z := Int32.toInt_inj.mpr c; have k1 : (33 : Int32).toInt = 33 := ti_33; omega))
      refine lv_bipush (v := 33) hx hb dX5_opened_18 bp_33 ?_
      refine lv_goto (tgt := 25) hx hb dX5_opened_20 (by decide) ?_
      refine sg_callv (va_runV (As := [.int 33]) (rest := []) ⟨hx, hb, hml, hown, hts⟩ (kX5_write l D ca za h hh f_28 L Q hI 33 H.size) (sl_c5_write_0_0_0_0_5 hts ⟨Nat.le_of_ble_eq_true rfl, Nat.le_of_ble_eq_true rfl⟩) (sl_vX_4 hA hK hP hS hZ) rfl rfl hl.1 rfl (lv_room (Nat.le_of_ble_eq_true rfl)) dX5_opened_25 ⟨Nat.le_refl _, Nat.le_refl _⟩) hA hS (fun f_38 L_39 Q_40 H locs hq hP hS => ?_)
      obtain ⟨⟨hI, hk_f_38, eL9, eQ9⟩, u_41⟩ := hq
      rw [eL9, eQ9] at hP; clear eL9 eQ9
      have hF : sgK WkX5_opened_3 f f_38 := sgK.tr hF hk_f_38 (by decide +kernel)
      exact hret _ _ _ _ f_38 L Q dX5_opened_28 hP hS ⟨⟨hI, hF, rfl, rfl⟩, (Eq.trans (Eq.symm (hs.trans ((if_pos c_33).trans (spl_e u_41 rfl)))) hsp)⟩

abbrev WkX5_operand_2 : List (Nat × Nat × Option Nat) := [(4, 4, some 6), (4, 4, some 7), (4, 4, some 8), (6, 6, none)]
set_option maxHeartbeats 4000000 in
set_option maxRecDepth 100000 in
theorem kX5_operand_2 (l : Launch) (D : va_G) (ca : Nat → ClassId) (za h : Nat → Nat) (hh : sgH 52 h) (f : sg_F) (L : sg_L) (Q : sg_Q) (hI : sgI loX hiX f) (sz : Nat) : Met l yX5_operand gwX5_operand { frames := 30, cells := 0, slots := 0, locals := 667 } (sgP D vwCl (tyX ca) 52 h (eX ca h) zcX za f L Q sz [.ref (h 4), .int 2]) (sgQv D vwCl 52 h (eX ca h) sz (fun f1 L1 Q1 => ((sgI loX hiX f1 ∧ sgK WkX5_operand_2 f f1 ∧ L1 = L ∧ Q1 = Q) ∧ (f1) = sX5_operand_2 f L))) 0 0 (sgA 52 h sz) := by
  refine sg_ofWv (cc := cX5_operand) (maxL := 3) RX5 (by decide) rfl rfl (Nat.le_of_ble_eq_true rfl) ?_
  intro p e s m below meth cd Qz ls hx hb hml hown hts hK hZ hP hS hl hret
  have hA := sgY.self (n := 52) (h := h) (sz := s.heap.size)
  have hl : lv_has ls 3 [(0, .ref (h 4)), (1, .int 2)] := hl
  obtain ⟨H, hH⟩ : ∃ z : Heap, z = s.heap := ⟨_, rfl⟩
  obtain ⟨locs, hlo⟩ : ∃ z : List Loc, z = [] := ⟨_, rfl⟩
  have hP : va_P D vwCl (sgw 52 h (eX ca h) f L Q) H := by rw [hH]; exact hP
  have hS : va_S (sgA 52 h s.heap.size) s.heap H locs := by rw [hH, hlo]; exact hS
  suffices hgo : W p l e ({ frames := 30, cells := 0, slots := 0, locals := 667 }) s m ([.ref (h 4), .int 2] : List Value).toArray below meth cd H locs 0 0 Qz (F0 m 0 ls []) by rw [hH, hlo] at hgo; exact hgo
  clear hH hlo
  obtain ⟨sp, hsp⟩ : ∃ z : sg_F, z = sX5_operand_2 f L := ⟨_, rfl⟩
  have hs : sp = sX5_operand_2 f L := hsp
  have hF : sgK WkX5_operand_2 f f := sgK.rf
  refine lv_aload_n hx hb dX5_operand_0 rfl (lv_at hl 0 rfl) ?_
  obtain ⟨v_1, ev_1⟩ : ∃ z : Int32, z = f 4 6 := ⟨_, rfl⟩
  have q_2 : 0 ≤ v_1.toInt ∧ v_1.toInt ≤ 120 := by rw [ev_1]; exact hI 4 6
  have q_3 : (f 4 6).toInt = v_1.toInt := (congrArg Int32.toInt (show f 4 6 = v_1 from ev_1.symm))
  obtain ⟨v_4, ev_4⟩ : ∃ z : Int32, z = f 4 1 := ⟨_, rfl⟩
  have q_5 : 0 ≤ v_4.toInt ∧ v_4.toInt ≤ 120 := by rw [ev_4]; exact hI 4 1
  have q_6 : (f 4 1).toInt = v_4.toInt := (congrArg Int32.toInt (show f 4 1 = v_4 from ev_4.symm))
  refine sg_calli (va_runV (As := []) (rest := []) ⟨hx, hb, hml, hown, hts⟩ (kX5_next l D ca za h hh f L Q hI H.size) (sl_c5_next_0_0_0_0_5 hts ⟨Nat.le_of_ble_eq_true rfl, Nat.le_of_ble_eq_true rfl⟩) (sl_vX_4 hA hK hP hS hZ) rfl rfl hl.1 rfl (lv_room (Nat.le_of_ble_eq_true rfl)) dX5_operand_1 ⟨Nat.le_refl _, Nat.le_refl _⟩) hA hS (fun r_10 f_7 L_8 Q_9 H locs hq hP hS => ?_)
  obtain ⟨⟨ef9, eL9, eQ9⟩, hq, p_11, u_12⟩ := hq
  rw [ef9, eL9, eQ9] at hP; clear ef9 eL9 eQ9
  refine lv_istore_n (lv' := [(2, .int r_10), (0, .ref (h 4)), (1, .int 2)]) hx hb dX5_operand_4 rfl hl (by decide) rfl (fun ls hl => ?_)
  refine lv_iload_n hx hb dX5_operand_5 rfl (lv_at hl 0 rfl) ?_
  refine sg_calli (va_runS (As := [.int r_10]) (rest := []) ⟨hx, hb, hml, hown, hts⟩ (kX5_isDigit l D ca za h hh f L Q hI r_10 ⟨by omega, by omega⟩ H.size) (va_cwS 1 hts (gw_S (fun _ h => List.mem_cons_of_mem _ h) mw_505 mw_506 mw_73 mw_504) rfl rfl rfl hd_yX5_isDigit.2 ⟨Nat.le_of_ble_eq_true rfl, Nat.le_of_ble_eq_true rfl⟩) (sg_preS hA hK hP hS hZ) rfl rfl hl.1 rfl (lv_room (Nat.le_of_ble_eq_true rfl)) dX5_operand_6 ⟨Nat.le_refl _, Nat.le_refl _⟩) hA hS (fun r_16 f_13 L_14 Q_15 H locs hq hP hS => ?_)
  obtain ⟨⟨ef9, eL9, eQ9⟩, hq, u_17⟩ := hq
  replace hs := hs.trans (spl_e ev_1 (spl_e ev_4 (spl_e u_12 (spl_e u_17 rfl))))
  rw [ef9, eL9, eQ9] at hP; clear ef9 eL9 eQ9
  rcases hq with ⟨rfl, hq⟩ | ⟨rfl, hq⟩
  · skip
    have hc_18 := hq
    refine lv_if_eq (tgt := 19) hx hb dX5_operand_9 (by decide) (fun c => absurd c (by decide)) (fun c => ?_)
    refine lv_aload_n hx hb dX5_operand_12 rfl (lv_at hl 1 rfl) ?_
    refine sg_callv (va_runV (As := []) (rest := []) ⟨hx, hb, hml, hown, hts⟩ (kX5_number l D ca za h hh f L Q hI H.size) (sl_c5_number_1_0_0_21_5 hts ⟨Nat.le_of_ble_eq_true rfl, Nat.le_of_ble_eq_true rfl⟩) (sl_vX_4 hA hK hP hS hZ) rfl rfl hl.1 rfl (lv_room (Nat.le_of_ble_eq_true rfl)) dX5_operand_13 ⟨Nat.le_refl _, Nat.le_refl _⟩) hA hS (fun f_19 L_20 Q_21 H locs hq hP hS => ?_)
    obtain ⟨⟨hI, hk_f_19, eL9, eQ9⟩, u_22⟩ := hq
    rw [eL9, eQ9] at hP; clear eL9 eQ9
    have hF : sgK WkX5_operand_2 f f_19 := sgK.tr hF hk_f_19 (by decide +kernel)
    refine lv_goto (tgt := 93) hx hb dX5_operand_16 (by decide) ?_
    exact hret _ _ _ _ f_19 L Q dX5_operand_93 hP hS ⟨⟨hI, hF, rfl, rfl⟩, (Eq.trans (Eq.symm (hs.trans ((if_pos rfl).trans (spl_e u_22 rfl)))) hsp)⟩
  · skip
    have hc_18 := hq
    refine lv_if_eq (tgt := 19) hx hb dX5_operand_9 (by decide) (fun c => ?_) (fun c => absurd c (by decide))
    refine lv_iload_n hx hb dX5_operand_19 rfl (lv_at hl 0 rfl) ?_
    refine sg_calli (va_runS (As := [.int r_10]) (rest := []) ⟨hx, hb, hml, hown, hts⟩ (kX5_isName l D ca za h hh f L Q hI r_10 ⟨by omega, by omega⟩ H.size) (va_cwS 1 hts (gw_S (fun _ h => List.mem_cons_of_mem _ h) mw_525 mw_526 mw_73 mw_524) rfl rfl rfl hd_yX5_isName.2 ⟨Nat.le_of_ble_eq_true rfl, Nat.le_of_ble_eq_true rfl⟩) (sg_preS hA hK hP hS hZ) rfl rfl hl.1 rfl (lv_room (Nat.le_of_ble_eq_true rfl)) dX5_operand_20 ⟨Nat.le_refl _, Nat.le_refl _⟩) hA hS (fun r_26 f_23 L_24 Q_25 H locs hq hP hS => ?_)
    obtain ⟨⟨ef9, eL9, eQ9⟩, hq, u_27⟩ := hq
    replace hs := hs.trans ((if_neg (by decide)).trans (spl_e u_27 rfl))
    rw [ef9, eL9, eQ9] at hP; clear ef9 eL9 eQ9
    rcases hq with ⟨rfl, hq⟩ | ⟨rfl, hq⟩
    · skip
      have hc_28 := hq
      refine lv_if_eq (tgt := 44) hx hb dX5_operand_23 (by decide) (fun c => absurd c (by decide)) (fun c => ?_)
      refine lv_aload_n hx hb dX5_operand_26 rfl (lv_at hl 1 rfl) ?_
      refine lv_dup hx hb dX5_operand_27 rfl ?_
      refine sl_gX_4_6_5 (v := v_1) hx hb hts hown hK hP (show f 4 6 = v_1 from ev_1.symm) dX5_operand_28 ?_
      refine lv_iconst (v := 1) hx hb dX5_operand_31 ic_1 ?_
      refine lv_iadd hx hb dX5_operand_32 ?_
      refine lv_topi (fun v_29 ev_29 => ?_)
      have q_30 : v_29.toInt = v_1.toInt + 1 := by rw [ev_29]; first | exact cm_add ti_1 (by omega) (by omega) | (have k1 : (1 : Int32).toInt = 1 := ti_1; exact (bn_addI (by omega) (by omega)).trans (by omega))
      refine sl_pX_4_6_5 (x := v_29) hx hb hts hown hh hA hK hP hS dX5_operand_33 (fun f_31 H locs ef_31 hP hS => ?_)
      have hI : sgI loX hiX f_31 := by rw [ef_31]; exact sgI.put hI 4 6 (show 0 ≤ (v_29 : Int32).toInt ∧ (v_29 : Int32).toInt ≤ 120 from ⟨by omega, by omega⟩)
      have hF : sgK WkX5_operand_2 f f_31 := sgK.put hF ef_31 (by rfl)
      refine lv_aload_n hx hb dX5_operand_36 rfl (lv_at hl 1 rfl) ?_
      refine lv_iload_n hx hb dX5_operand_37 rfl (lv_at hl 0 rfl) ?_
      refine sg_callv (va_runV (As := [.int r_10]) (rest := []) ⟨hx, hb, hml, hown, hts⟩ (kX5_write l D ca za h hh f_31 L Q hI r_10 H.size) (sl_c5_write_0_0_0_0_5 hts ⟨Nat.le_of_ble_eq_true rfl, Nat.le_of_ble_eq_true rfl⟩) (sl_vX_4 hA hK hP hS hZ) rfl rfl hl.1 rfl (lv_room (Nat.le_of_ble_eq_true rfl)) dX5_operand_38 ⟨Nat.le_refl _, Nat.le_refl _⟩) hA hS (fun f_32 L_33 Q_34 H locs hq hP hS => ?_)
      obtain ⟨⟨hI, hk_f_32, eL9, eQ9⟩, u_35⟩ := hq
      rw [eL9, eQ9] at hP; clear eL9 eQ9
      have hF : sgK WkX5_operand_2 f f_32 := sgK.tr hF hk_f_32 (by decide +kernel)
      refine lv_goto (tgt := 93) hx hb dX5_operand_41 (by decide) ?_
      exact hret _ _ _ _ f_32 L Q dX5_operand_93 hP hS ⟨⟨hI, hF, rfl, rfl⟩, (Eq.trans (Eq.symm (hs.trans ((if_pos rfl).trans (spl_e ev_29 (spl_e ef_31 (spl_e u_35 rfl)))))) hsp)⟩
    · skip
      have hc_28 := hq
      refine lv_if_eq (tgt := 44) hx hb dX5_operand_23 (by decide) (fun c => ?_) (fun c => absurd c (by decide))
      refine lv_iload_n hx hb dX5_operand_44 rfl (lv_at hl 0 rfl) ?_
      refine lv_bipush (v := 40) hx hb dX5_operand_45 bp_40 ?_
      refine lv_icmp_eq (tgt := 62) hx hb dX5_operand_47 (by decide) (fun c => ?_) (fun c => ?_)
      · skip
        have c_36 : r_10.toInt = 40 := (by first | exact (cm_eq1 ti_40 c) | (have z := Int32.toInt_inj.mpr c; have k1 : (40 : Int32).toInt = 40 := ti_40; omega))
        refine lv_iload_n hx hb dX5_operand_62 rfl (lv_at hl 2 rfl) ?_
        refine lv_bipush (v := 6) hx hb dX5_operand_63 bp_6 ?_
        refine lv_icmp_lt (tgt := 75) hx hb dX5_operand_65 (by decide) (fun c => ?_) (fun c => absurd c (by decide))
        refine lv_aload_n hx hb dX5_operand_75 rfl (lv_at hl 1 rfl) ?_
        refine lv_dup hx hb dX5_operand_76 rfl ?_
        refine sl_gX_4_6_5 (v := v_1) hx hb hts hown hK hP (show f 4 6 = v_1 from ev_1.symm) dX5_operand_77 ?_
        refine lv_iconst (v := 1) hx hb dX5_operand_80 ic_1 ?_
        refine lv_iadd hx hb dX5_operand_81 ?_
        refine lv_topi (fun v_38 ev_38 => ?_)
        have q_39 : v_38.toInt = v_1.toInt + 1 := by rw [ev_38]; first | exact cm_add ti_1 (by omega) (by omega) | (have k1 : (1 : Int32).toInt = 1 := ti_1; exact (bn_addI (by omega) (by omega)).trans (by omega))
        refine sl_pX_4_6_5 (x := v_38) hx hb hts hown hh hA hK hP hS dX5_operand_82 (fun f_40 H locs ef_40 hP hS => ?_)
        have hI : sgI loX hiX f_40 := by rw [ef_40]; exact sgI.put hI 4 6 (show 0 ≤ (v_38 : Int32).toInt ∧ (v_38 : Int32).toInt ≤ 120 from ⟨by omega, by omega⟩)
        have hF : sgK WkX5_operand_2 f f_40 := sgK.put hF ef_40 (by rfl)
        refine lv_aload_n hx hb dX5_operand_85 rfl (lv_at hl 1 rfl) ?_
        refine lv_iload_n hx hb dX5_operand_86 rfl (lv_at hl 0 rfl) ?_
        refine lv_iload_n hx hb dX5_operand_87 rfl (lv_at hl 2 rfl) ?_
        refine lv_iconst (v := 1) hx hb dX5_operand_88 ic_1 ?_
        refine lv_iadd hx hb dX5_operand_89 ?_
        refine W.eq (g2 := F0 m 90 ls [.int 3, .int r_10, .ref (h 4)]) (by rw [show (2 + 1 : Int32) = 3 from by decide]) ?_
        refine sg_callv (va_runV (As := [.int r_10, .int 3]) (rest := []) ⟨hx, hb, hml, hown, hts⟩ (kX5_opened_3 l D ca za h hh f_40 L Q hI r_10 ⟨by omega, by omega⟩ H.size) (sl_c5_opened_29_0_0_645_5 hts ⟨Nat.le_of_ble_eq_true rfl, Nat.le_of_ble_eq_true rfl⟩) (sl_vX_4 hA hK hP hS hZ) rfl rfl hl.1 rfl (lv_room (Nat.le_of_ble_eq_true rfl)) dX5_operand_90 ⟨Nat.le_refl _, Nat.le_refl _⟩) hA hS (fun f_41 L_42 Q_43 H locs hq hP hS => ?_)
        obtain ⟨⟨hI, hk_f_41, eL9, eQ9⟩, u_44⟩ := hq
        rw [eL9, eQ9] at hP; clear eL9 eQ9
        have hF : sgK WkX5_operand_2 f f_41 := sgK.tr hF hk_f_41 (by decide +kernel)
        exact hret _ _ _ _ f_41 L Q dX5_operand_93 hP hS ⟨⟨hI, hF, rfl, rfl⟩, (Eq.trans (Eq.symm (hs.trans ((if_neg (by decide)).trans ((if_pos c_36).trans (spl_e ev_38 (spl_e ef_40 (spl_e u_44 rfl))))))) hsp)⟩
      · skip
        have c_37 : r_10.toInt ≠ 40 := (by first | exact (cm_ne1 ti_40 c) | (have z := bn_ne c; have k1 : (40 : Int32).toInt = 40 := ti_40; omega))
        replace hs := hs.trans ((if_neg (by decide)).trans ((if_neg c_37).trans rfl))
        refine lv_iload_n hx hb dX5_operand_50 rfl (lv_at hl 0 rfl) ?_
        refine lv_bipush (v := 33) hx hb dX5_operand_51 bp_33 ?_
        refine lv_icmp_eq (tgt := 62) hx hb dX5_operand_53 (by decide) (fun c => ?_) (fun c => ?_)
        · skip
          have c_45 : r_10.toInt = 33 := (by first | exact (cm_eq1 ti_33 c) | (have z := Int32.toInt_inj.mpr c; have k1 : (33 : Int32).toInt = 33 := ti_33; omega))
          refine lv_iload_n hx hb dX5_operand_62 rfl (lv_at hl 2 rfl) ?_
          refine lv_bipush (v := 6) hx hb dX5_operand_63 bp_6 ?_
          refine lv_icmp_lt (tgt := 75) hx hb dX5_operand_65 (by decide) (fun c => ?_) (fun c => absurd c (by decide))
          refine lv_aload_n hx hb dX5_operand_75 rfl (lv_at hl 1 rfl) ?_
          refine lv_dup hx hb dX5_operand_76 rfl ?_
          refine sl_gX_4_6_5 (v := v_1) hx hb hts hown hK hP (show f 4 6 = v_1 from ev_1.symm) dX5_operand_77 ?_
          refine lv_iconst (v := 1) hx hb dX5_operand_80 ic_1 ?_
          refine lv_iadd hx hb dX5_operand_81 ?_
          refine lv_topi (fun v_47 ev_47 => ?_)
          have q_48 : v_47.toInt = v_1.toInt + 1 := by rw [ev_47]; first | exact cm_add ti_1 (by omega) (by omega) | (have k1 : (1 : Int32).toInt = 1 := ti_1; exact (bn_addI (by omega) (by omega)).trans (by omega))
          refine sl_pX_4_6_5 (x := v_47) hx hb hts hown hh hA hK hP hS dX5_operand_82 (fun f_49 H locs ef_49 hP hS => ?_)
          have hI : sgI loX hiX f_49 := by rw [ef_49]; exact sgI.put hI 4 6 (show 0 ≤ (v_47 : Int32).toInt ∧ (v_47 : Int32).toInt ≤ 120 from ⟨by omega, by omega⟩)
          have hF : sgK WkX5_operand_2 f f_49 := sgK.put hF ef_49 (by rfl)
          refine lv_aload_n hx hb dX5_operand_85 rfl (lv_at hl 1 rfl) ?_
          refine lv_iload_n hx hb dX5_operand_86 rfl (lv_at hl 0 rfl) ?_
          refine lv_iload_n hx hb dX5_operand_87 rfl (lv_at hl 2 rfl) ?_
          refine lv_iconst (v := 1) hx hb dX5_operand_88 ic_1 ?_
          refine lv_iadd hx hb dX5_operand_89 ?_
          refine W.eq (g2 := F0 m 90 ls [.int 3, .int r_10, .ref (h 4)]) (by rw [show (2 + 1 : Int32) = 3 from by decide]) ?_
          refine sg_callv (va_runV (As := [.int r_10, .int 3]) (rest := []) ⟨hx, hb, hml, hown, hts⟩ (kX5_opened_3 l D ca za h hh f_49 L Q hI r_10 ⟨by omega, by omega⟩ H.size) (sl_c5_opened_29_0_0_645_5 hts ⟨Nat.le_of_ble_eq_true rfl, Nat.le_of_ble_eq_true rfl⟩) (sl_vX_4 hA hK hP hS hZ) rfl rfl hl.1 rfl (lv_room (Nat.le_of_ble_eq_true rfl)) dX5_operand_90 ⟨Nat.le_refl _, Nat.le_refl _⟩) hA hS (fun f_50 L_51 Q_52 H locs hq hP hS => ?_)
          obtain ⟨⟨hI, hk_f_50, eL9, eQ9⟩, u_53⟩ := hq
          rw [eL9, eQ9] at hP; clear eL9 eQ9
          have hF : sgK WkX5_operand_2 f f_50 := sgK.tr hF hk_f_50 (by decide +kernel)
          exact hret _ _ _ _ f_50 L Q dX5_operand_93 hP hS ⟨⟨hI, hF, rfl, rfl⟩, (Eq.trans (Eq.symm (hs.trans ((if_pos c_45).trans (spl_e ev_47 (spl_e ef_49 (spl_e u_53 rfl)))))) hsp)⟩
        · skip
          have c_46 : r_10.toInt ≠ 33 := (by first | exact (cm_ne1 ti_33 c) | (have z := bn_ne c; have k1 : (33 : Int32).toInt = 33 := ti_33; omega))
          replace hs := hs.trans ((if_neg c_46).trans rfl)
          refine lv_iload_n hx hb dX5_operand_56 rfl (lv_at hl 0 rfl) ?_
          refine lv_bipush (v := 45) hx hb dX5_operand_57 bp_45 ?_
          refine lv_icmp_ne (tgt := 68) hx hb dX5_operand_59 (by decide) (fun c => ?_) (fun c => ?_)
          · skip
            have c_54 : r_10.toInt ≠ 45 := (by first | exact (cm_ne1 ti_45 c) | (have z := bn_ne c; have k1 : (45 : Int32).toInt = 45 := ti_45; omega))
            refine lv_aload_n hx hb dX5_operand_68 rfl (lv_at hl 1 rfl) ?_
            refine sg_callv (va_runV (As := []) (rest := []) ⟨hx, hb, hml, hown, hts⟩ (kX5_fail l D ca za h hh f L Q hI H.size) (sl_c5_fail_0_0_0_0_5 hts ⟨Nat.le_of_ble_eq_true rfl, Nat.le_of_ble_eq_true rfl⟩) (sl_vX_4 hA hK hP hS hZ) rfl rfl hl.1 rfl (lv_room (Nat.le_of_ble_eq_true rfl)) dX5_operand_69 ⟨Nat.le_refl _, Nat.le_refl _⟩) hA hS (fun f_56 L_57 Q_58 H locs hq hP hS => ?_)
            obtain ⟨⟨hI, hk_f_56, eL9, eQ9⟩, u_59⟩ := hq
            rw [eL9, eQ9] at hP; clear eL9 eQ9
            have hF : sgK WkX5_operand_2 f f_56 := sgK.tr hF hk_f_56 (by decide +kernel)
            refine lv_goto (tgt := 93) hx hb dX5_operand_72 (by decide) ?_
            exact hret _ _ _ _ f_56 L Q dX5_operand_93 hP hS ⟨⟨hI, hF, rfl, rfl⟩, (Eq.trans (Eq.symm (hs.trans ((if_neg c_54).trans (spl_e u_59 rfl)))) hsp)⟩
          · skip
            have c_55 : r_10.toInt = 45 := (by first | exact (cm_eq1 ti_45 c) | (have z := Int32.toInt_inj.mpr c; have k1 : (45 : Int32).toInt = 45 := ti_45; omega))
            refine lv_iload_n hx hb dX5_operand_62 rfl (lv_at hl 2 rfl) ?_
            refine lv_bipush (v := 6) hx hb dX5_operand_63 bp_6 ?_
            refine lv_icmp_lt (tgt := 75) hx hb dX5_operand_65 (by decide) (fun c => ?_) (fun c => absurd c (by decide))
            refine lv_aload_n hx hb dX5_operand_75 rfl (lv_at hl 1 rfl) ?_
            refine lv_dup hx hb dX5_operand_76 rfl ?_
            refine sl_gX_4_6_5 (v := v_1) hx hb hts hown hK hP (show f 4 6 = v_1 from ev_1.symm) dX5_operand_77 ?_
            refine lv_iconst (v := 1) hx hb dX5_operand_80 ic_1 ?_
            refine lv_iadd hx hb dX5_operand_81 ?_
            refine lv_topi (fun v_60 ev_60 => ?_)
            have q_61 : v_60.toInt = v_1.toInt + 1 := by rw [ev_60]; first | exact cm_add ti_1 (by omega) (by omega) | (have k1 : (1 : Int32).toInt = 1 := ti_1; exact (bn_addI (by omega) (by omega)).trans (by omega))
            refine sl_pX_4_6_5 (x := v_60) hx hb hts hown hh hA hK hP hS dX5_operand_82 (fun f_62 H locs ef_62 hP hS => ?_)
            have hI : sgI loX hiX f_62 := by rw [ef_62]; exact sgI.put hI 4 6 (show 0 ≤ (v_60 : Int32).toInt ∧ (v_60 : Int32).toInt ≤ 120 from ⟨by omega, by omega⟩)
            have hF : sgK WkX5_operand_2 f f_62 := sgK.put hF ef_62 (by rfl)
            refine lv_aload_n hx hb dX5_operand_85 rfl (lv_at hl 1 rfl) ?_
            refine lv_iload_n hx hb dX5_operand_86 rfl (lv_at hl 0 rfl) ?_
            refine lv_iload_n hx hb dX5_operand_87 rfl (lv_at hl 2 rfl) ?_
            refine lv_iconst (v := 1) hx hb dX5_operand_88 ic_1 ?_
            refine lv_iadd hx hb dX5_operand_89 ?_
            refine W.eq (g2 := F0 m 90 ls [.int 3, .int r_10, .ref (h 4)]) (by rw [show (2 + 1 : Int32) = 3 from by decide]) ?_
            refine sg_callv (va_runV (As := [.int r_10, .int 3]) (rest := []) ⟨hx, hb, hml, hown, hts⟩ (kX5_opened_3 l D ca za h hh f_62 L Q hI r_10 ⟨by omega, by omega⟩ H.size) (sl_c5_opened_29_0_0_645_5 hts ⟨Nat.le_of_ble_eq_true rfl, Nat.le_of_ble_eq_true rfl⟩) (sl_vX_4 hA hK hP hS hZ) rfl rfl hl.1 rfl (lv_room (Nat.le_of_ble_eq_true rfl)) dX5_operand_90 ⟨Nat.le_refl _, Nat.le_refl _⟩) hA hS (fun f_63 L_64 Q_65 H locs hq hP hS => ?_)
            obtain ⟨⟨hI, hk_f_63, eL9, eQ9⟩, u_66⟩ := hq
            rw [eL9, eQ9] at hP; clear eL9 eQ9
            have hF : sgK WkX5_operand_2 f f_63 := sgK.tr hF hk_f_63 (by decide +kernel)
            exact hret _ _ _ _ f_63 L Q dX5_operand_93 hP hS ⟨⟨hI, hF, rfl, rfl⟩, (Eq.trans (Eq.symm (hs.trans ((if_pos c_55).trans (spl_e ev_60 (spl_e ef_62 (spl_e u_66 rfl)))))) hsp)⟩

abbrev WkX5_product_2 : List (Nat × Nat × Option Nat) := [(4, 4, some 6), (4, 4, some 7), (4, 4, some 8), (6, 6, none)]
set_option maxHeartbeats 4000000 in
set_option maxRecDepth 100000 in
theorem kX5_product_2 (l : Launch) (D : va_G) (ca : Nat → ClassId) (za h : Nat → Nat) (hh : sgH 52 h) (f : sg_F) (L : sg_L) (Q : sg_Q) (hI : sgI loX hiX f) (sz : Nat) : Met l yX5_product gwX5_product { frames := 31, cells := 0, slots := 0, locals := 689 } (sgP D vwCl (tyX ca) 52 h (eX ca h) zcX za f L Q sz [.ref (h 4), .int 2]) (sgQv D vwCl 52 h (eX ca h) sz (fun f1 L1 Q1 => ((sgI loX hiX f1 ∧ sgK WkX5_product_2 f f1 ∧ L1 = L ∧ Q1 = Q) ∧ (f1) = sX5_product_2 f L))) 0 0 (sgA 52 h sz) := by
  refine sg_ofWv (cc := cX5_product) (maxL := 4) RX5 (by decide) rfl rfl (Nat.le_of_ble_eq_true rfl) ?_
  intro p e s m below meth cd Qz ls hx hb hml hown hts hK hZ hP hS hl hret
  have hA := sgY.self (n := 52) (h := h) (sz := s.heap.size)
  have hl : lv_has ls 4 [(0, .ref (h 4)), (1, .int 2)] := hl
  obtain ⟨H, hH⟩ : ∃ z : Heap, z = s.heap := ⟨_, rfl⟩
  obtain ⟨locs, hlo⟩ : ∃ z : List Loc, z = [] := ⟨_, rfl⟩
  have hP : va_P D vwCl (sgw 52 h (eX ca h) f L Q) H := by rw [hH]; exact hP
  have hS : va_S (sgA 52 h s.heap.size) s.heap H locs := by rw [hH, hlo]; exact hS
  suffices hgo : W p l e ({ frames := 31, cells := 0, slots := 0, locals := 689 }) s m ([.ref (h 4), .int 2] : List Value).toArray below meth cd H locs 0 0 Qz (F0 m 0 ls []) by rw [hH, hlo] at hgo; exact hgo
  clear hH hlo
  obtain ⟨sp, hsp⟩ : ∃ z : sg_F, z = sX5_product_2 f L := ⟨_, rfl⟩
  have hs : sp = sX5_product_2 f L := hsp
  obtain ⟨v_1, ev_1⟩ : ∃ z : Int32, z = f 4 6 := ⟨_, rfl⟩
  have q_2 : 0 ≤ v_1.toInt ∧ v_1.toInt ≤ 120 := by rw [ev_1]; exact hI 4 6
  obtain ⟨v_3, ev_3⟩ : ∃ z : Int32, z = f 4 1 := ⟨_, rfl⟩
  have q_4 : 0 ≤ v_3.toInt ∧ v_3.toInt ≤ 120 := by rw [ev_3]; exact hI 4 1
  have o_5 : (f 4 6).toInt = v_1.toInt := (congrArg Int32.toInt (show f 4 6 = v_1 from ev_1.symm))
  have o_6 : (f 4 1).toInt = v_3.toInt := (congrArg Int32.toInt (show f 4 1 = v_3 from ev_3.symm))
  have hF : sgK WkX5_product_2 f f := sgK.rf
  have loop_12 : ∀ (n_12 : Nat) (y2_12 : Int32) (y3_12 : Int32) (fp_12 : sg_F) (H : Heap) (locs : List Loc) (ls : Array Slot), sp = sX5_product_2_l12 n_12 y2_12 y3_12 fp_12 L → 120 - y3_12.toInt < (n_12 : Int) → (-1) ≤ y2_12.toInt ∧ y2_12.toInt ≤ 255 → 0 ≤ y3_12.toInt ∧ y3_12.toInt ≤ 120 → y2_12.toInt < 0 ∨ (fp_12 4 6).toInt < (fp_12 4 1).toInt → sgI loX hiX fp_12 → sgK WkX5_product_2 f fp_12 → va_P D vwCl (sgw 52 h (eX ca h) fp_12 L Q) H → va_S (sgA 52 h s.heap.size) s.heap H locs → lv_has ls 4 [(0, .ref (h 4)), (1, .int 2), (2, .int y2_12), (3, .int y3_12)] → W p l e ({ frames := 31, cells := 0, slots := 0, locals := 689 }) s m ([.ref (h 4), .int 2] : List Value).toArray below meth cd H locs 0 0 Qz (F0 m 12 ls []) := by
    intro n_12
    induction n_12 with
    | zero => intro y2_12 y3_12 fp_12 H locs ls hs hm_12 hy0_12 hy1_12 hg0_12 hI hF hP hS hl; exact absurd hm_12 (by omega)
    | succ n_12 ih_12 =>
      intro y2_12 y3_12 fp_12 H locs ls hs hm_12 hy0_12 hy1_12 hg0_12 hI hF hP hS hl
      have hs : sp = sX5_product_2_h12 (sX5_product_2_l12 n_12) y2_12 y3_12 fp_12 L := hs
      obtain ⟨v_7, ev_7⟩ : ∃ z : Int32, z = fp_12 4 6 := ⟨_, rfl⟩
      have q_8 : 0 ≤ v_7.toInt ∧ v_7.toInt ≤ 120 := by rw [ev_7]; exact hI 4 6
      have q_9 : (fp_12 4 6).toInt = v_7.toInt := by rw [ev_7]
      obtain ⟨v_10, ev_10⟩ : ∃ z : Int32, z = fp_12 4 1 := ⟨_, rfl⟩
      replace hs := hs.trans (spl_e ev_7 (spl_e ev_10 rfl))
      have q_11 : 0 ≤ v_10.toInt ∧ v_10.toInt ≤ 120 := by rw [ev_10]; exact hI 4 1
      have q_12 : (fp_12 4 1).toInt = v_10.toInt := by rw [ev_10]
      refine lv_iload_n hx hb dX5_product_12 rfl (lv_at hl 3 rfl) ?_
      refine lv_bipush (v := 120) hx hb dX5_product_13 bp_120 ?_
      refine lv_icmp_ge (tgt := 67) hx hb dX5_product_15 (by decide) (fun c => ?_) (fun c => ?_)
      · skip
        have c_13 : 120 ≤ y3_12.toInt := (by first | exact (cm_le0 ti_120 c) | (have z := bn_le c; have k1 : (120 : Int32).toInt = 120 := ti_120; omega))
        exact hret _ _ _ _ fp_12 L Q dX5_product_67 hP hS ⟨⟨hI, hF, rfl, rfl⟩, (Eq.trans (Eq.symm (hs.trans ((if_neg (Int.not_lt.mpr c_13)).trans rfl))) hsp)⟩
      · skip
        have c_14 : y3_12.toInt < 120 := (by first | exact (cm_nle0 ti_120 c) | (have z := bn_nle c; have k1 : (120 : Int32).toInt = 120 := ti_120; omega))
        replace hs := hs.trans ((if_pos c_14).trans rfl)
        refine lv_iload_n hx hb dX5_product_18 rfl (lv_at hl 2 rfl) ?_
        refine lv_bipush (v := 42) hx hb dX5_product_19 bp_42 ?_
        refine lv_icmp_eq (tgt := 36) hx hb dX5_product_21 (by decide) (fun c => ?_) (fun c => ?_)
        · skip
          have c_15 : y2_12.toInt = 42 := (by first | exact (cm_eq1 ti_42 c) | (have z := Int32.toInt_inj.mpr c; have k1 : (42 : Int32).toInt = 42 := ti_42; omega))
          refine lv_aload_n hx hb dX5_product_36 rfl (lv_at hl 0 rfl) ?_
          refine lv_dup hx hb dX5_product_37 rfl ?_
          refine sl_gX_4_6_5 (v := v_7) hx hb hts hown hK hP (show fp_12 4 6 = v_7 from ev_7.symm) dX5_product_38 ?_
          refine lv_iconst (v := 1) hx hb dX5_product_41 ic_1 ?_
          refine lv_iadd hx hb dX5_product_42 ?_
          refine lv_topi (fun v_17 ev_17 => ?_)
          have q_18 : v_17.toInt = v_7.toInt + 1 := by rw [ev_17]; first | exact cm_add ti_1 (by omega) (by omega) | (have k1 : (1 : Int32).toInt = 1 := ti_1; exact (bn_addI (by omega) (by omega)).trans (by omega))
          refine sl_pX_4_6_5 (x := v_17) hx hb hts hown hh hA hK hP hS dX5_product_43 (fun f_19 H locs ef_19 hP hS => ?_)
          have hI : sgI loX hiX f_19 := by rw [ef_19]; exact sgI.put hI 4 6 (show 0 ≤ (v_17 : Int32).toInt ∧ (v_17 : Int32).toInt ≤ 120 from ⟨by omega, by omega⟩)
          have hF : sgK WkX5_product_2 f f_19 := sgK.put hF ef_19 (by rfl)
          refine lv_aload_n hx hb dX5_product_46 rfl (lv_at hl 0 rfl) ?_
          refine lv_iload_n hx hb dX5_product_47 rfl (lv_at hl 1 rfl) ?_
          refine sg_callv (va_runV (As := [.int 2]) (rest := []) ⟨hx, hb, hml, hown, hts⟩ (kX5_operand_2 l D ca za h hh f_19 L Q hI H.size) (sl_c5_operand_30_0_0_667_5 hts ⟨Nat.le_of_ble_eq_true rfl, Nat.le_of_ble_eq_true rfl⟩) (sl_vX_4 hA hK hP hS hZ) rfl rfl hl.1 rfl (lv_room (Nat.le_of_ble_eq_true rfl)) dX5_product_48 ⟨Nat.le_refl _, Nat.le_refl _⟩) hA hS (fun f_20 L_21 Q_22 H locs hq hP hS => ?_)
          obtain ⟨⟨hI, hk_f_20, eL9, eQ9⟩, u_23⟩ := hq
          rw [eL9, eQ9] at hP; clear eL9 eQ9
          have hF : sgK WkX5_product_2 f f_20 := sgK.tr hF hk_f_20 (by decide +kernel)
          refine lv_aload_n hx hb dX5_product_51 rfl (lv_at hl 0 rfl) ?_
          refine lv_iload_n hx hb dX5_product_52 rfl (lv_at hl 2 rfl) ?_
          refine sg_callv (va_runV (As := [.int y2_12]) (rest := []) ⟨hx, hb, hml, hown, hts⟩ (kX5_write l D ca za h hh f_20 L Q hI y2_12 H.size) (sl_c5_write_0_0_0_0_5 hts ⟨Nat.le_of_ble_eq_true rfl, Nat.le_of_ble_eq_true rfl⟩) (sl_vX_4 hA hK hP hS hZ) rfl rfl hl.1 rfl (lv_room (Nat.le_of_ble_eq_true rfl)) dX5_product_53 ⟨Nat.le_refl _, Nat.le_refl _⟩) hA hS (fun f_24 L_25 Q_26 H locs hq hP hS => ?_)
          obtain ⟨⟨hI, hk_f_24, eL9, eQ9⟩, u_27⟩ := hq
          rw [eL9, eQ9] at hP; clear eL9 eQ9
          have hF : sgK WkX5_product_2 f f_24 := sgK.tr hF hk_f_24 (by decide +kernel)
          refine lv_aload_n hx hb dX5_product_56 rfl (lv_at hl 0 rfl) ?_
          obtain ⟨v_28, ev_28⟩ : ∃ z : Int32, z = f_24 4 6 := ⟨_, rfl⟩
          have q_29 : 0 ≤ v_28.toInt ∧ v_28.toInt ≤ 120 := by rw [ev_28]; exact hI 4 6
          have q_30 : (f_24 4 6).toInt = v_28.toInt := (congrArg Int32.toInt (show f_24 4 6 = v_28 from ev_28.symm))
          have q_31 : (f_24 4 1).toInt = v_10.toInt := (congrArg Int32.toInt (show f_24 4 1 = v_10 from ((hk_f_24 4 1 (by decide)).trans ((hk_f_20 4 1 (by decide)).trans (by rw [ef_19, sg_up_s, sgu_n (by decide)]; exact ev_10.symm)))))
          refine sg_calli (va_runV (As := []) (rest := []) ⟨hx, hb, hml, hown, hts⟩ (kX5_next l D ca za h hh f_24 L Q hI H.size) (sl_c5_next_0_0_0_0_5 hts ⟨Nat.le_of_ble_eq_true rfl, Nat.le_of_ble_eq_true rfl⟩) (sl_vX_4 hA hK hP hS hZ) rfl rfl hl.1 rfl (lv_room (Nat.le_of_ble_eq_true rfl)) dX5_product_57 ⟨Nat.le_refl _, Nat.le_refl _⟩) hA hS (fun r_35 f_32 L_33 Q_34 H locs hq hP hS => ?_)
          obtain ⟨⟨ef9, eL9, eQ9⟩, hq, p_36, u_37⟩ := hq
          rw [ef9, eL9, eQ9] at hP; clear ef9 eL9 eQ9
          refine lv_istore_n (lv' := [(2, .int r_35), (0, .ref (h 4)), (1, .int 2), (3, .int y3_12)]) hx hb dX5_product_60 rfl hl (by decide) rfl (fun ls hl => ?_)
          obtain ⟨v_38, ev_38⟩ : ∃ z : Int32, z = y3_12 + 1 := ⟨_, rfl⟩
          have q_39 : v_38.toInt = y3_12.toInt + 1 := by rw [ev_38]; exact (bn_addc y3_12 1 (by decide) (by omega) (by omega))
          refine lv_iinc (v := v_38) (lv' := [(3, .int v_38), (2, .int r_35), (0, .ref (h 4)), (1, .int 2)]) hx hb dX5_product_61 hl (k := 3) rfl (by rw [ev_38]; rfl) (by decide) rfl (fun ls hl => ?_)
          refine lv_goto (tgt := 12) hx hb dX5_product_64 (by decide) ?_
          exact ih_12 r_35 v_38 f_24 _ _ _ (hs.trans ((if_pos c_15).trans (spl_e ev_17 (spl_e ef_19 (spl_e u_23 (spl_e u_27 (spl_e ev_28 (spl_e u_37 (spl_e ev_38 rfl))))))))) (by omega) ⟨by omega, by omega⟩ ⟨by omega, by omega⟩ (by have zz4_6 : (f_24 4 6).toInt = v_28.toInt := (congrArg Int32.toInt (show f_24 4 6 = v_28 from ev_28.symm)); have zz4_1 : (f_24 4 1).toInt = v_10.toInt := (congrArg Int32.toInt (show f_24 4 1 = v_10 from ((hk_f_24 4 1 (by decide)).trans ((hk_f_20 4 1 (by decide)).trans (by rw [ef_19, sg_up_s, sgu_n (by decide)]; exact ev_10.symm))))); omega) hI hF hP hS (lv_sub hl [2, 3, 1, 0] rfl)
        · skip
          have c_16 : y2_12.toInt ≠ 42 := (by first | exact (cm_ne1 ti_42 c) | (have z := bn_ne c; have k1 : (42 : Int32).toInt = 42 := ti_42; omega))
          replace hs := hs.trans ((if_neg c_16).trans rfl)
          refine lv_iload_n hx hb dX5_product_24 rfl (lv_at hl 2 rfl) ?_
          refine lv_bipush (v := 47) hx hb dX5_product_25 bp_47 ?_
          refine lv_icmp_eq (tgt := 36) hx hb dX5_product_27 (by decide) (fun c => ?_) (fun c => ?_)
          · skip
            have c_40 : y2_12.toInt = 47 := (by first | exact (cm_eq1 ti_47 c) | (have z := Int32.toInt_inj.mpr c; have k1 : (47 : Int32).toInt = 47 := ti_47; omega))
            refine lv_aload_n hx hb dX5_product_36 rfl (lv_at hl 0 rfl) ?_
            refine lv_dup hx hb dX5_product_37 rfl ?_
            refine sl_gX_4_6_5 (v := v_7) hx hb hts hown hK hP (show fp_12 4 6 = v_7 from ev_7.symm) dX5_product_38 ?_
            refine lv_iconst (v := 1) hx hb dX5_product_41 ic_1 ?_
            refine lv_iadd hx hb dX5_product_42 ?_
            refine lv_topi (fun v_42 ev_42 => ?_)
            have q_43 : v_42.toInt = v_7.toInt + 1 := by rw [ev_42]; first | exact cm_add ti_1 (by omega) (by omega) | (have k1 : (1 : Int32).toInt = 1 := ti_1; exact (bn_addI (by omega) (by omega)).trans (by omega))
            refine sl_pX_4_6_5 (x := v_42) hx hb hts hown hh hA hK hP hS dX5_product_43 (fun f_44 H locs ef_44 hP hS => ?_)
            have hI : sgI loX hiX f_44 := by rw [ef_44]; exact sgI.put hI 4 6 (show 0 ≤ (v_42 : Int32).toInt ∧ (v_42 : Int32).toInt ≤ 120 from ⟨by omega, by omega⟩)
            have hF : sgK WkX5_product_2 f f_44 := sgK.put hF ef_44 (by rfl)
            refine lv_aload_n hx hb dX5_product_46 rfl (lv_at hl 0 rfl) ?_
            refine lv_iload_n hx hb dX5_product_47 rfl (lv_at hl 1 rfl) ?_
            refine sg_callv (va_runV (As := [.int 2]) (rest := []) ⟨hx, hb, hml, hown, hts⟩ (kX5_operand_2 l D ca za h hh f_44 L Q hI H.size) (sl_c5_operand_30_0_0_667_5 hts ⟨Nat.le_of_ble_eq_true rfl, Nat.le_of_ble_eq_true rfl⟩) (sl_vX_4 hA hK hP hS hZ) rfl rfl hl.1 rfl (lv_room (Nat.le_of_ble_eq_true rfl)) dX5_product_48 ⟨Nat.le_refl _, Nat.le_refl _⟩) hA hS (fun f_45 L_46 Q_47 H locs hq hP hS => ?_)
            obtain ⟨⟨hI, hk_f_45, eL9, eQ9⟩, u_48⟩ := hq
            rw [eL9, eQ9] at hP; clear eL9 eQ9
            have hF : sgK WkX5_product_2 f f_45 := sgK.tr hF hk_f_45 (by decide +kernel)
            refine lv_aload_n hx hb dX5_product_51 rfl (lv_at hl 0 rfl) ?_
            refine lv_iload_n hx hb dX5_product_52 rfl (lv_at hl 2 rfl) ?_
            refine sg_callv (va_runV (As := [.int y2_12]) (rest := []) ⟨hx, hb, hml, hown, hts⟩ (kX5_write l D ca za h hh f_45 L Q hI y2_12 H.size) (sl_c5_write_0_0_0_0_5 hts ⟨Nat.le_of_ble_eq_true rfl, Nat.le_of_ble_eq_true rfl⟩) (sl_vX_4 hA hK hP hS hZ) rfl rfl hl.1 rfl (lv_room (Nat.le_of_ble_eq_true rfl)) dX5_product_53 ⟨Nat.le_refl _, Nat.le_refl _⟩) hA hS (fun f_49 L_50 Q_51 H locs hq hP hS => ?_)
            obtain ⟨⟨hI, hk_f_49, eL9, eQ9⟩, u_52⟩ := hq
            rw [eL9, eQ9] at hP; clear eL9 eQ9
            have hF : sgK WkX5_product_2 f f_49 := sgK.tr hF hk_f_49 (by decide +kernel)
            refine lv_aload_n hx hb dX5_product_56 rfl (lv_at hl 0 rfl) ?_
            obtain ⟨v_53, ev_53⟩ : ∃ z : Int32, z = f_49 4 6 := ⟨_, rfl⟩
            have q_54 : 0 ≤ v_53.toInt ∧ v_53.toInt ≤ 120 := by rw [ev_53]; exact hI 4 6
            have q_55 : (f_49 4 6).toInt = v_53.toInt := (congrArg Int32.toInt (show f_49 4 6 = v_53 from ev_53.symm))
            have q_56 : (f_49 4 1).toInt = v_10.toInt := (congrArg Int32.toInt (show f_49 4 1 = v_10 from ((hk_f_49 4 1 (by decide)).trans ((hk_f_45 4 1 (by decide)).trans (by rw [ef_44, sg_up_s, sgu_n (by decide)]; exact ev_10.symm)))))
            refine sg_calli (va_runV (As := []) (rest := []) ⟨hx, hb, hml, hown, hts⟩ (kX5_next l D ca za h hh f_49 L Q hI H.size) (sl_c5_next_0_0_0_0_5 hts ⟨Nat.le_of_ble_eq_true rfl, Nat.le_of_ble_eq_true rfl⟩) (sl_vX_4 hA hK hP hS hZ) rfl rfl hl.1 rfl (lv_room (Nat.le_of_ble_eq_true rfl)) dX5_product_57 ⟨Nat.le_refl _, Nat.le_refl _⟩) hA hS (fun r_60 f_57 L_58 Q_59 H locs hq hP hS => ?_)
            obtain ⟨⟨ef9, eL9, eQ9⟩, hq, p_61, u_62⟩ := hq
            rw [ef9, eL9, eQ9] at hP; clear ef9 eL9 eQ9
            refine lv_istore_n (lv' := [(2, .int r_60), (0, .ref (h 4)), (1, .int 2), (3, .int y3_12)]) hx hb dX5_product_60 rfl hl (by decide) rfl (fun ls hl => ?_)
            obtain ⟨v_63, ev_63⟩ : ∃ z : Int32, z = y3_12 + 1 := ⟨_, rfl⟩
            have q_64 : v_63.toInt = y3_12.toInt + 1 := by rw [ev_63]; exact (bn_addc y3_12 1 (by decide) (by omega) (by omega))
            refine lv_iinc (v := v_63) (lv' := [(3, .int v_63), (2, .int r_60), (0, .ref (h 4)), (1, .int 2)]) hx hb dX5_product_61 hl (k := 3) rfl (by rw [ev_63]; rfl) (by decide) rfl (fun ls hl => ?_)
            refine lv_goto (tgt := 12) hx hb dX5_product_64 (by decide) ?_
            exact ih_12 r_60 v_63 f_49 _ _ _ (hs.trans ((if_pos c_40).trans (spl_e ev_42 (spl_e ef_44 (spl_e u_48 (spl_e u_52 (spl_e ev_53 (spl_e u_62 (spl_e ev_63 rfl))))))))) (by omega) ⟨by omega, by omega⟩ ⟨by omega, by omega⟩ (by have zz4_6 : (f_49 4 6).toInt = v_53.toInt := (congrArg Int32.toInt (show f_49 4 6 = v_53 from ev_53.symm)); have zz4_1 : (f_49 4 1).toInt = v_10.toInt := (congrArg Int32.toInt (show f_49 4 1 = v_10 from ((hk_f_49 4 1 (by decide)).trans ((hk_f_45 4 1 (by decide)).trans (by rw [ef_44, sg_up_s, sgu_n (by decide)]; exact ev_10.symm))))); omega) hI hF hP hS (lv_sub hl [2, 3, 1, 0] rfl)
          · skip
            have c_41 : y2_12.toInt ≠ 47 := (by first | exact (cm_ne1 ti_47 c) | (have z := bn_ne c; have k1 : (47 : Int32).toInt = 47 := ti_47; omega))
            replace hs := hs.trans ((if_neg c_41).trans rfl)
            refine lv_iload_n hx hb dX5_product_30 rfl (lv_at hl 2 rfl) ?_
            refine lv_bipush (v := 37) hx hb dX5_product_31 bp_37 ?_
            refine lv_icmp_ne (tgt := 67) hx hb dX5_product_33 (by decide) (fun c => ?_) (fun c => ?_)
            · skip
              have c_65 : y2_12.toInt ≠ 37 := (by first | exact (cm_ne1 ti_37 c) | (have z := bn_ne c; have k1 : (37 : Int32).toInt = 37 := ti_37; omega))
              exact hret _ _ _ _ fp_12 L Q dX5_product_67 hP hS ⟨⟨hI, hF, rfl, rfl⟩, (Eq.trans (Eq.symm (hs.trans ((if_neg c_65).trans rfl))) hsp)⟩
            · skip
              have c_66 : y2_12.toInt = 37 := (by first | exact (cm_eq1 ti_37 c) | (have z := Int32.toInt_inj.mpr c; have k1 : (37 : Int32).toInt = 37 := ti_37; omega))
              refine lv_aload_n hx hb dX5_product_36 rfl (lv_at hl 0 rfl) ?_
              refine lv_dup hx hb dX5_product_37 rfl ?_
              refine sl_gX_4_6_5 (v := v_7) hx hb hts hown hK hP (show fp_12 4 6 = v_7 from ev_7.symm) dX5_product_38 ?_
              refine lv_iconst (v := 1) hx hb dX5_product_41 ic_1 ?_
              refine lv_iadd hx hb dX5_product_42 ?_
              refine lv_topi (fun v_67 ev_67 => ?_)
              have q_68 : v_67.toInt = v_7.toInt + 1 := by rw [ev_67]; first | exact cm_add ti_1 (by omega) (by omega) | (have k1 : (1 : Int32).toInt = 1 := ti_1; exact (bn_addI (by omega) (by omega)).trans (by omega))
              refine sl_pX_4_6_5 (x := v_67) hx hb hts hown hh hA hK hP hS dX5_product_43 (fun f_69 H locs ef_69 hP hS => ?_)
              have hI : sgI loX hiX f_69 := by rw [ef_69]; exact sgI.put hI 4 6 (show 0 ≤ (v_67 : Int32).toInt ∧ (v_67 : Int32).toInt ≤ 120 from ⟨by omega, by omega⟩)
              have hF : sgK WkX5_product_2 f f_69 := sgK.put hF ef_69 (by rfl)
              refine lv_aload_n hx hb dX5_product_46 rfl (lv_at hl 0 rfl) ?_
              refine lv_iload_n hx hb dX5_product_47 rfl (lv_at hl 1 rfl) ?_
              refine sg_callv (va_runV (As := [.int 2]) (rest := []) ⟨hx, hb, hml, hown, hts⟩ (kX5_operand_2 l D ca za h hh f_69 L Q hI H.size) (sl_c5_operand_30_0_0_667_5 hts ⟨Nat.le_of_ble_eq_true rfl, Nat.le_of_ble_eq_true rfl⟩) (sl_vX_4 hA hK hP hS hZ) rfl rfl hl.1 rfl (lv_room (Nat.le_of_ble_eq_true rfl)) dX5_product_48 ⟨Nat.le_refl _, Nat.le_refl _⟩) hA hS (fun f_70 L_71 Q_72 H locs hq hP hS => ?_)
              obtain ⟨⟨hI, hk_f_70, eL9, eQ9⟩, u_73⟩ := hq
              rw [eL9, eQ9] at hP; clear eL9 eQ9
              have hF : sgK WkX5_product_2 f f_70 := sgK.tr hF hk_f_70 (by decide +kernel)
              refine lv_aload_n hx hb dX5_product_51 rfl (lv_at hl 0 rfl) ?_
              refine lv_iload_n hx hb dX5_product_52 rfl (lv_at hl 2 rfl) ?_
              refine sg_callv (va_runV (As := [.int y2_12]) (rest := []) ⟨hx, hb, hml, hown, hts⟩ (kX5_write l D ca za h hh f_70 L Q hI y2_12 H.size) (sl_c5_write_0_0_0_0_5 hts ⟨Nat.le_of_ble_eq_true rfl, Nat.le_of_ble_eq_true rfl⟩) (sl_vX_4 hA hK hP hS hZ) rfl rfl hl.1 rfl (lv_room (Nat.le_of_ble_eq_true rfl)) dX5_product_53 ⟨Nat.le_refl _, Nat.le_refl _⟩) hA hS (fun f_74 L_75 Q_76 H locs hq hP hS => ?_)
              obtain ⟨⟨hI, hk_f_74, eL9, eQ9⟩, u_77⟩ := hq
              rw [eL9, eQ9] at hP; clear eL9 eQ9
              have hF : sgK WkX5_product_2 f f_74 := sgK.tr hF hk_f_74 (by decide +kernel)
              refine lv_aload_n hx hb dX5_product_56 rfl (lv_at hl 0 rfl) ?_
              obtain ⟨v_78, ev_78⟩ : ∃ z : Int32, z = f_74 4 6 := ⟨_, rfl⟩
              have q_79 : 0 ≤ v_78.toInt ∧ v_78.toInt ≤ 120 := by rw [ev_78]; exact hI 4 6
              have q_80 : (f_74 4 6).toInt = v_78.toInt := (congrArg Int32.toInt (show f_74 4 6 = v_78 from ev_78.symm))
              have q_81 : (f_74 4 1).toInt = v_10.toInt := (congrArg Int32.toInt (show f_74 4 1 = v_10 from ((hk_f_74 4 1 (by decide)).trans ((hk_f_70 4 1 (by decide)).trans (by rw [ef_69, sg_up_s, sgu_n (by decide)]; exact ev_10.symm)))))
              refine sg_calli (va_runV (As := []) (rest := []) ⟨hx, hb, hml, hown, hts⟩ (kX5_next l D ca za h hh f_74 L Q hI H.size) (sl_c5_next_0_0_0_0_5 hts ⟨Nat.le_of_ble_eq_true rfl, Nat.le_of_ble_eq_true rfl⟩) (sl_vX_4 hA hK hP hS hZ) rfl rfl hl.1 rfl (lv_room (Nat.le_of_ble_eq_true rfl)) dX5_product_57 ⟨Nat.le_refl _, Nat.le_refl _⟩) hA hS (fun r_85 f_82 L_83 Q_84 H locs hq hP hS => ?_)
              obtain ⟨⟨ef9, eL9, eQ9⟩, hq, p_86, u_87⟩ := hq
              rw [ef9, eL9, eQ9] at hP; clear ef9 eL9 eQ9
              refine lv_istore_n (lv' := [(2, .int r_85), (0, .ref (h 4)), (1, .int 2), (3, .int y3_12)]) hx hb dX5_product_60 rfl hl (by decide) rfl (fun ls hl => ?_)
              obtain ⟨v_88, ev_88⟩ : ∃ z : Int32, z = y3_12 + 1 := ⟨_, rfl⟩
              have q_89 : v_88.toInt = y3_12.toInt + 1 := by rw [ev_88]; exact (bn_addc y3_12 1 (by decide) (by omega) (by omega))
              refine lv_iinc (v := v_88) (lv' := [(3, .int v_88), (2, .int r_85), (0, .ref (h 4)), (1, .int 2)]) hx hb dX5_product_61 hl (k := 3) rfl (by rw [ev_88]; rfl) (by decide) rfl (fun ls hl => ?_)
              refine lv_goto (tgt := 12) hx hb dX5_product_64 (by decide) ?_
              exact ih_12 r_85 v_88 f_74 _ _ _ (hs.trans ((if_pos c_66).trans (spl_e ev_67 (spl_e ef_69 (spl_e u_73 (spl_e u_77 (spl_e ev_78 (spl_e u_87 (spl_e ev_88 rfl))))))))) (by omega) ⟨by omega, by omega⟩ ⟨by omega, by omega⟩ (by have zz4_6 : (f_74 4 6).toInt = v_78.toInt := (congrArg Int32.toInt (show f_74 4 6 = v_78 from ev_78.symm)); have zz4_1 : (f_74 4 1).toInt = v_10.toInt := (congrArg Int32.toInt (show f_74 4 1 = v_10 from ((hk_f_74 4 1 (by decide)).trans ((hk_f_70 4 1 (by decide)).trans (by rw [ef_69, sg_up_s, sgu_n (by decide)]; exact ev_10.symm))))); omega) hI hF hP hS (lv_sub hl [2, 3, 1, 0] rfl)
  refine lv_aload_n hx hb dX5_product_0 rfl (lv_at hl 0 rfl) ?_
  refine lv_iload_n hx hb dX5_product_1 rfl (lv_at hl 1 rfl) ?_
  refine sg_callv (va_runV (As := [.int 2]) (rest := []) ⟨hx, hb, hml, hown, hts⟩ (kX5_operand_2 l D ca za h hh f L Q hI H.size) (sl_c5_operand_30_0_0_667_5 hts ⟨Nat.le_of_ble_eq_true rfl, Nat.le_of_ble_eq_true rfl⟩) (sl_vX_4 hA hK hP hS hZ) rfl rfl hl.1 rfl (lv_room (Nat.le_of_ble_eq_true rfl)) dX5_product_2 ⟨Nat.le_refl _, Nat.le_refl _⟩) hA hS (fun f_90 L_91 Q_92 H locs hq hP hS => ?_)
  obtain ⟨⟨hI, hk_f_90, eL9, eQ9⟩, u_93⟩ := hq
  rw [eL9, eQ9] at hP; clear eL9 eQ9
  have hF : sgK WkX5_product_2 f f_90 := sgK.tr hF hk_f_90 (by decide +kernel)
  refine lv_aload_n hx hb dX5_product_5 rfl (lv_at hl 0 rfl) ?_
  obtain ⟨v_94, ev_94⟩ : ∃ z : Int32, z = f_90 4 6 := ⟨_, rfl⟩
  have q_95 : 0 ≤ v_94.toInt ∧ v_94.toInt ≤ 120 := by rw [ev_94]; exact hI 4 6
  have q_96 : (f_90 4 6).toInt = v_94.toInt := (congrArg Int32.toInt (show f_90 4 6 = v_94 from ev_94.symm))
  have q_97 : (f_90 4 1).toInt = v_3.toInt := (congrArg Int32.toInt (show f_90 4 1 = v_3 from ((hk_f_90 4 1 (by decide)).trans ev_3.symm)))
  refine sg_calli (va_runV (As := []) (rest := []) ⟨hx, hb, hml, hown, hts⟩ (kX5_next l D ca za h hh f_90 L Q hI H.size) (sl_c5_next_0_0_0_0_5 hts ⟨Nat.le_of_ble_eq_true rfl, Nat.le_of_ble_eq_true rfl⟩) (sl_vX_4 hA hK hP hS hZ) rfl rfl hl.1 rfl (lv_room (Nat.le_of_ble_eq_true rfl)) dX5_product_6 ⟨Nat.le_refl _, Nat.le_refl _⟩) hA hS (fun r_101 f_98 L_99 Q_100 H locs hq hP hS => ?_)
  obtain ⟨⟨ef9, eL9, eQ9⟩, hq, p_102, u_103⟩ := hq
  rw [ef9, eL9, eQ9] at hP; clear ef9 eL9 eQ9
  refine lv_istore_n (lv' := [(2, .int r_101), (0, .ref (h 4)), (1, .int 2)]) hx hb dX5_product_9 rfl hl (by decide) rfl (fun ls hl => ?_)
  refine lv_iconst (v := 0) hx hb dX5_product_10 ic_0 ?_
  refine lv_istore_n (lv' := [(3, .int 0), (2, .int r_101), (0, .ref (h 4)), (1, .int 2)]) hx hb dX5_product_11 rfl hl (by decide) rfl (fun ls hl => ?_)
  exact loop_12 121 r_101 0 f_90 _ _ _ (hs.trans ((spl_e ev_1 (spl_e ev_3 (spl_e u_93 (spl_e ev_94 (spl_e u_103 rfl))))))) (by have kc1 : (0 : Int32).toInt = 0 := ti_0; omega) ⟨by omega, by omega⟩ (by decide) (by have kc1 : (0 : Int32).toInt = 0 := ti_0; have zz4_6 : (f_90 4 6).toInt = v_94.toInt := (congrArg Int32.toInt (show f_90 4 6 = v_94 from ev_94.symm)); have zz4_1 : (f_90 4 1).toInt = v_3.toInt := (congrArg Int32.toInt (show f_90 4 1 = v_3 from ((hk_f_90 4 1 (by decide)).trans ev_3.symm))); omega) hI hF hP hS (lv_sub hl [2, 3, 1, 0] rfl)

abbrev WkX5_sum_2 : List (Nat × Nat × Option Nat) := [(4, 4, some 6), (4, 4, some 7), (4, 4, some 8), (6, 6, none)]
set_option maxHeartbeats 4000000 in
set_option maxRecDepth 100000 in
theorem kX5_sum_2 (l : Launch) (D : va_G) (ca : Nat → ClassId) (za h : Nat → Nat) (hh : sgH 52 h) (f : sg_F) (L : sg_L) (Q : sg_Q) (hI : sgI loX hiX f) (sz : Nat) : Met l yX5_sum gwX5_sum { frames := 32, cells := 0, slots := 0, locals := 712 } (sgP D vwCl (tyX ca) 52 h (eX ca h) zcX za f L Q sz [.ref (h 4), .int 2]) (sgQv D vwCl 52 h (eX ca h) sz (fun f1 L1 Q1 => ((sgI loX hiX f1 ∧ sgK WkX5_sum_2 f f1 ∧ L1 = L ∧ Q1 = Q) ∧ (f1) = sX5_sum_2 f L))) 0 0 (sgA 52 h sz) := by
  refine sg_ofWv (cc := cX5_sum) (maxL := 4) RX5 (by decide) rfl rfl (Nat.le_of_ble_eq_true rfl) ?_
  intro p e s m below meth cd Qz ls hx hb hml hown hts hK hZ hP hS hl hret
  have hA := sgY.self (n := 52) (h := h) (sz := s.heap.size)
  have hl : lv_has ls 4 [(0, .ref (h 4)), (1, .int 2)] := hl
  obtain ⟨H, hH⟩ : ∃ z : Heap, z = s.heap := ⟨_, rfl⟩
  obtain ⟨locs, hlo⟩ : ∃ z : List Loc, z = [] := ⟨_, rfl⟩
  have hP : va_P D vwCl (sgw 52 h (eX ca h) f L Q) H := by rw [hH]; exact hP
  have hS : va_S (sgA 52 h s.heap.size) s.heap H locs := by rw [hH, hlo]; exact hS
  suffices hgo : W p l e ({ frames := 32, cells := 0, slots := 0, locals := 712 }) s m ([.ref (h 4), .int 2] : List Value).toArray below meth cd H locs 0 0 Qz (F0 m 0 ls []) by rw [hH, hlo] at hgo; exact hgo
  clear hH hlo
  obtain ⟨sp, hsp⟩ : ∃ z : sg_F, z = sX5_sum_2 f L := ⟨_, rfl⟩
  have hs : sp = sX5_sum_2 f L := hsp
  obtain ⟨v_1, ev_1⟩ : ∃ z : Int32, z = f 4 6 := ⟨_, rfl⟩
  have q_2 : 0 ≤ v_1.toInt ∧ v_1.toInt ≤ 120 := by rw [ev_1]; exact hI 4 6
  obtain ⟨v_3, ev_3⟩ : ∃ z : Int32, z = f 4 1 := ⟨_, rfl⟩
  have q_4 : 0 ≤ v_3.toInt ∧ v_3.toInt ≤ 120 := by rw [ev_3]; exact hI 4 1
  have o_5 : (f 4 6).toInt = v_1.toInt := (congrArg Int32.toInt (show f 4 6 = v_1 from ev_1.symm))
  have o_6 : (f 4 1).toInt = v_3.toInt := (congrArg Int32.toInt (show f 4 1 = v_3 from ev_3.symm))
  have hF : sgK WkX5_sum_2 f f := sgK.rf
  have loop_12 : ∀ (n_12 : Nat) (y2_12 : Int32) (y3_12 : Int32) (fp_12 : sg_F) (H : Heap) (locs : List Loc) (ls : Array Slot), sp = sX5_sum_2_l12 n_12 y2_12 y3_12 fp_12 L → 120 - y3_12.toInt < (n_12 : Int) → (-1) ≤ y2_12.toInt ∧ y2_12.toInt ≤ 255 → 0 ≤ y3_12.toInt ∧ y3_12.toInt ≤ 120 → y2_12.toInt < 0 ∨ (fp_12 4 6).toInt < (fp_12 4 1).toInt → sgI loX hiX fp_12 → sgK WkX5_sum_2 f fp_12 → va_P D vwCl (sgw 52 h (eX ca h) fp_12 L Q) H → va_S (sgA 52 h s.heap.size) s.heap H locs → lv_has ls 4 [(0, .ref (h 4)), (1, .int 2), (2, .int y2_12), (3, .int y3_12)] → W p l e ({ frames := 32, cells := 0, slots := 0, locals := 712 }) s m ([.ref (h 4), .int 2] : List Value).toArray below meth cd H locs 0 0 Qz (F0 m 12 ls []) := by
    intro n_12
    induction n_12 with
    | zero => intro y2_12 y3_12 fp_12 H locs ls hs hm_12 hy0_12 hy1_12 hg0_12 hI hF hP hS hl; exact absurd hm_12 (by omega)
    | succ n_12 ih_12 =>
      intro y2_12 y3_12 fp_12 H locs ls hs hm_12 hy0_12 hy1_12 hg0_12 hI hF hP hS hl
      have hs : sp = sX5_sum_2_h12 (sX5_sum_2_l12 n_12) y2_12 y3_12 fp_12 L := hs
      obtain ⟨v_7, ev_7⟩ : ∃ z : Int32, z = fp_12 4 6 := ⟨_, rfl⟩
      have q_8 : 0 ≤ v_7.toInt ∧ v_7.toInt ≤ 120 := by rw [ev_7]; exact hI 4 6
      have q_9 : (fp_12 4 6).toInt = v_7.toInt := by rw [ev_7]
      obtain ⟨v_10, ev_10⟩ : ∃ z : Int32, z = fp_12 4 1 := ⟨_, rfl⟩
      replace hs := hs.trans (spl_e ev_7 (spl_e ev_10 rfl))
      have q_11 : 0 ≤ v_10.toInt ∧ v_10.toInt ≤ 120 := by rw [ev_10]; exact hI 4 1
      have q_12 : (fp_12 4 1).toInt = v_10.toInt := by rw [ev_10]
      refine lv_iload_n hx hb dX5_sum_12 rfl (lv_at hl 3 rfl) ?_
      refine lv_bipush (v := 120) hx hb dX5_sum_13 bp_120 ?_
      refine lv_icmp_ge (tgt := 61) hx hb dX5_sum_15 (by decide) (fun c => ?_) (fun c => ?_)
      · skip
        have c_13 : 120 ≤ y3_12.toInt := (by first | exact (cm_le0 ti_120 c) | (have z := bn_le c; have k1 : (120 : Int32).toInt = 120 := ti_120; omega))
        exact hret _ _ _ _ fp_12 L Q dX5_sum_61 hP hS ⟨⟨hI, hF, rfl, rfl⟩, (Eq.trans (Eq.symm (hs.trans ((if_neg (Int.not_lt.mpr c_13)).trans rfl))) hsp)⟩
      · skip
        have c_14 : y3_12.toInt < 120 := (by first | exact (cm_nle0 ti_120 c) | (have z := bn_nle c; have k1 : (120 : Int32).toInt = 120 := ti_120; omega))
        replace hs := hs.trans ((if_pos c_14).trans rfl)
        refine lv_iload_n hx hb dX5_sum_18 rfl (lv_at hl 2 rfl) ?_
        refine lv_bipush (v := 43) hx hb dX5_sum_19 bp_43 ?_
        refine lv_icmp_eq (tgt := 30) hx hb dX5_sum_21 (by decide) (fun c => ?_) (fun c => ?_)
        · skip
          have c_15 : y2_12.toInt = 43 := (by first | exact (cm_eq1 ti_43 c) | (have z := Int32.toInt_inj.mpr c; have k1 : (43 : Int32).toInt = 43 := ti_43; omega))
          refine lv_aload_n hx hb dX5_sum_30 rfl (lv_at hl 0 rfl) ?_
          refine lv_dup hx hb dX5_sum_31 rfl ?_
          refine sl_gX_4_6_5 (v := v_7) hx hb hts hown hK hP (show fp_12 4 6 = v_7 from ev_7.symm) dX5_sum_32 ?_
          refine lv_iconst (v := 1) hx hb dX5_sum_35 ic_1 ?_
          refine lv_iadd hx hb dX5_sum_36 ?_
          refine lv_topi (fun v_17 ev_17 => ?_)
          have q_18 : v_17.toInt = v_7.toInt + 1 := by rw [ev_17]; first | exact cm_add ti_1 (by omega) (by omega) | (have k1 : (1 : Int32).toInt = 1 := ti_1; exact (bn_addI (by omega) (by omega)).trans (by omega))
          refine sl_pX_4_6_5 (x := v_17) hx hb hts hown hh hA hK hP hS dX5_sum_37 (fun f_19 H locs ef_19 hP hS => ?_)
          have hI : sgI loX hiX f_19 := by rw [ef_19]; exact sgI.put hI 4 6 (show 0 ≤ (v_17 : Int32).toInt ∧ (v_17 : Int32).toInt ≤ 120 from ⟨by omega, by omega⟩)
          have hF : sgK WkX5_sum_2 f f_19 := sgK.put hF ef_19 (by rfl)
          refine lv_aload_n hx hb dX5_sum_40 rfl (lv_at hl 0 rfl) ?_
          refine lv_iload_n hx hb dX5_sum_41 rfl (lv_at hl 1 rfl) ?_
          refine sg_callv (va_runV (As := [.int 2]) (rest := []) ⟨hx, hb, hml, hown, hts⟩ (kX5_product_2 l D ca za h hh f_19 L Q hI H.size) (sl_c5_product_31_0_0_689_5 hts ⟨Nat.le_of_ble_eq_true rfl, Nat.le_of_ble_eq_true rfl⟩) (sl_vX_4 hA hK hP hS hZ) rfl rfl hl.1 rfl (lv_room (Nat.le_of_ble_eq_true rfl)) dX5_sum_42 ⟨Nat.le_refl _, Nat.le_refl _⟩) hA hS (fun f_20 L_21 Q_22 H locs hq hP hS => ?_)
          obtain ⟨⟨hI, hk_f_20, eL9, eQ9⟩, u_23⟩ := hq
          rw [eL9, eQ9] at hP; clear eL9 eQ9
          have hF : sgK WkX5_sum_2 f f_20 := sgK.tr hF hk_f_20 (by decide +kernel)
          refine lv_aload_n hx hb dX5_sum_45 rfl (lv_at hl 0 rfl) ?_
          refine lv_iload_n hx hb dX5_sum_46 rfl (lv_at hl 2 rfl) ?_
          refine sg_callv (va_runV (As := [.int y2_12]) (rest := []) ⟨hx, hb, hml, hown, hts⟩ (kX5_write l D ca za h hh f_20 L Q hI y2_12 H.size) (sl_c5_write_0_0_0_0_5 hts ⟨Nat.le_of_ble_eq_true rfl, Nat.le_of_ble_eq_true rfl⟩) (sl_vX_4 hA hK hP hS hZ) rfl rfl hl.1 rfl (lv_room (Nat.le_of_ble_eq_true rfl)) dX5_sum_47 ⟨Nat.le_refl _, Nat.le_refl _⟩) hA hS (fun f_24 L_25 Q_26 H locs hq hP hS => ?_)
          obtain ⟨⟨hI, hk_f_24, eL9, eQ9⟩, u_27⟩ := hq
          rw [eL9, eQ9] at hP; clear eL9 eQ9
          have hF : sgK WkX5_sum_2 f f_24 := sgK.tr hF hk_f_24 (by decide +kernel)
          refine lv_aload_n hx hb dX5_sum_50 rfl (lv_at hl 0 rfl) ?_
          obtain ⟨v_28, ev_28⟩ : ∃ z : Int32, z = f_24 4 6 := ⟨_, rfl⟩
          have q_29 : 0 ≤ v_28.toInt ∧ v_28.toInt ≤ 120 := by rw [ev_28]; exact hI 4 6
          have q_30 : (f_24 4 6).toInt = v_28.toInt := (congrArg Int32.toInt (show f_24 4 6 = v_28 from ev_28.symm))
          have q_31 : (f_24 4 1).toInt = v_10.toInt := (congrArg Int32.toInt (show f_24 4 1 = v_10 from ((hk_f_24 4 1 (by decide)).trans ((hk_f_20 4 1 (by decide)).trans (by rw [ef_19, sg_up_s, sgu_n (by decide)]; exact ev_10.symm)))))
          refine sg_calli (va_runV (As := []) (rest := []) ⟨hx, hb, hml, hown, hts⟩ (kX5_next l D ca za h hh f_24 L Q hI H.size) (sl_c5_next_0_0_0_0_5 hts ⟨Nat.le_of_ble_eq_true rfl, Nat.le_of_ble_eq_true rfl⟩) (sl_vX_4 hA hK hP hS hZ) rfl rfl hl.1 rfl (lv_room (Nat.le_of_ble_eq_true rfl)) dX5_sum_51 ⟨Nat.le_refl _, Nat.le_refl _⟩) hA hS (fun r_35 f_32 L_33 Q_34 H locs hq hP hS => ?_)
          obtain ⟨⟨ef9, eL9, eQ9⟩, hq, p_36, u_37⟩ := hq
          rw [ef9, eL9, eQ9] at hP; clear ef9 eL9 eQ9
          refine lv_istore_n (lv' := [(2, .int r_35), (0, .ref (h 4)), (1, .int 2), (3, .int y3_12)]) hx hb dX5_sum_54 rfl hl (by decide) rfl (fun ls hl => ?_)
          obtain ⟨v_38, ev_38⟩ : ∃ z : Int32, z = y3_12 + 1 := ⟨_, rfl⟩
          have q_39 : v_38.toInt = y3_12.toInt + 1 := by rw [ev_38]; exact (bn_addc y3_12 1 (by decide) (by omega) (by omega))
          refine lv_iinc (v := v_38) (lv' := [(3, .int v_38), (2, .int r_35), (0, .ref (h 4)), (1, .int 2)]) hx hb dX5_sum_55 hl (k := 3) rfl (by rw [ev_38]; rfl) (by decide) rfl (fun ls hl => ?_)
          refine lv_goto (tgt := 12) hx hb dX5_sum_58 (by decide) ?_
          exact ih_12 r_35 v_38 f_24 _ _ _ (hs.trans ((if_pos c_15).trans (spl_e ev_17 (spl_e ef_19 (spl_e u_23 (spl_e u_27 (spl_e ev_28 (spl_e u_37 (spl_e ev_38 rfl))))))))) (by omega) ⟨by omega, by omega⟩ ⟨by omega, by omega⟩ (by have zz4_6 : (f_24 4 6).toInt = v_28.toInt := (congrArg Int32.toInt (show f_24 4 6 = v_28 from ev_28.symm)); have zz4_1 : (f_24 4 1).toInt = v_10.toInt := (congrArg Int32.toInt (show f_24 4 1 = v_10 from ((hk_f_24 4 1 (by decide)).trans ((hk_f_20 4 1 (by decide)).trans (by rw [ef_19, sg_up_s, sgu_n (by decide)]; exact ev_10.symm))))); omega) hI hF hP hS (lv_sub hl [2, 3, 1, 0] rfl)
        · skip
          have c_16 : y2_12.toInt ≠ 43 := (by first | exact (cm_ne1 ti_43 c) | (have z := bn_ne c; have k1 : (43 : Int32).toInt = 43 := ti_43; omega))
          replace hs := hs.trans ((if_neg c_16).trans rfl)
          refine lv_iload_n hx hb dX5_sum_24 rfl (lv_at hl 2 rfl) ?_
          refine lv_bipush (v := 45) hx hb dX5_sum_25 bp_45 ?_
          refine lv_icmp_ne (tgt := 61) hx hb dX5_sum_27 (by decide) (fun c => ?_) (fun c => ?_)
          · skip
            have c_40 : y2_12.toInt ≠ 45 := (by first | exact (cm_ne1 ti_45 c) | (have z := bn_ne c; have k1 : (45 : Int32).toInt = 45 := ti_45; omega))
            exact hret _ _ _ _ fp_12 L Q dX5_sum_61 hP hS ⟨⟨hI, hF, rfl, rfl⟩, (Eq.trans (Eq.symm (hs.trans ((if_neg c_40).trans rfl))) hsp)⟩
          · skip
            have c_41 : y2_12.toInt = 45 := (by first | exact (cm_eq1 ti_45 c) | (have z := Int32.toInt_inj.mpr c; have k1 : (45 : Int32).toInt = 45 := ti_45; omega))
            refine lv_aload_n hx hb dX5_sum_30 rfl (lv_at hl 0 rfl) ?_
            refine lv_dup hx hb dX5_sum_31 rfl ?_
            refine sl_gX_4_6_5 (v := v_7) hx hb hts hown hK hP (show fp_12 4 6 = v_7 from ev_7.symm) dX5_sum_32 ?_
            refine lv_iconst (v := 1) hx hb dX5_sum_35 ic_1 ?_
            refine lv_iadd hx hb dX5_sum_36 ?_
            refine lv_topi (fun v_42 ev_42 => ?_)
            have q_43 : v_42.toInt = v_7.toInt + 1 := by rw [ev_42]; first | exact cm_add ti_1 (by omega) (by omega) | (have k1 : (1 : Int32).toInt = 1 := ti_1; exact (bn_addI (by omega) (by omega)).trans (by omega))
            refine sl_pX_4_6_5 (x := v_42) hx hb hts hown hh hA hK hP hS dX5_sum_37 (fun f_44 H locs ef_44 hP hS => ?_)
            have hI : sgI loX hiX f_44 := by rw [ef_44]; exact sgI.put hI 4 6 (show 0 ≤ (v_42 : Int32).toInt ∧ (v_42 : Int32).toInt ≤ 120 from ⟨by omega, by omega⟩)
            have hF : sgK WkX5_sum_2 f f_44 := sgK.put hF ef_44 (by rfl)
            refine lv_aload_n hx hb dX5_sum_40 rfl (lv_at hl 0 rfl) ?_
            refine lv_iload_n hx hb dX5_sum_41 rfl (lv_at hl 1 rfl) ?_
            refine sg_callv (va_runV (As := [.int 2]) (rest := []) ⟨hx, hb, hml, hown, hts⟩ (kX5_product_2 l D ca za h hh f_44 L Q hI H.size) (sl_c5_product_31_0_0_689_5 hts ⟨Nat.le_of_ble_eq_true rfl, Nat.le_of_ble_eq_true rfl⟩) (sl_vX_4 hA hK hP hS hZ) rfl rfl hl.1 rfl (lv_room (Nat.le_of_ble_eq_true rfl)) dX5_sum_42 ⟨Nat.le_refl _, Nat.le_refl _⟩) hA hS (fun f_45 L_46 Q_47 H locs hq hP hS => ?_)
            obtain ⟨⟨hI, hk_f_45, eL9, eQ9⟩, u_48⟩ := hq
            rw [eL9, eQ9] at hP; clear eL9 eQ9
            have hF : sgK WkX5_sum_2 f f_45 := sgK.tr hF hk_f_45 (by decide +kernel)
            refine lv_aload_n hx hb dX5_sum_45 rfl (lv_at hl 0 rfl) ?_
            refine lv_iload_n hx hb dX5_sum_46 rfl (lv_at hl 2 rfl) ?_
            refine sg_callv (va_runV (As := [.int y2_12]) (rest := []) ⟨hx, hb, hml, hown, hts⟩ (kX5_write l D ca za h hh f_45 L Q hI y2_12 H.size) (sl_c5_write_0_0_0_0_5 hts ⟨Nat.le_of_ble_eq_true rfl, Nat.le_of_ble_eq_true rfl⟩) (sl_vX_4 hA hK hP hS hZ) rfl rfl hl.1 rfl (lv_room (Nat.le_of_ble_eq_true rfl)) dX5_sum_47 ⟨Nat.le_refl _, Nat.le_refl _⟩) hA hS (fun f_49 L_50 Q_51 H locs hq hP hS => ?_)
            obtain ⟨⟨hI, hk_f_49, eL9, eQ9⟩, u_52⟩ := hq
            rw [eL9, eQ9] at hP; clear eL9 eQ9
            have hF : sgK WkX5_sum_2 f f_49 := sgK.tr hF hk_f_49 (by decide +kernel)
            refine lv_aload_n hx hb dX5_sum_50 rfl (lv_at hl 0 rfl) ?_
            obtain ⟨v_53, ev_53⟩ : ∃ z : Int32, z = f_49 4 6 := ⟨_, rfl⟩
            have q_54 : 0 ≤ v_53.toInt ∧ v_53.toInt ≤ 120 := by rw [ev_53]; exact hI 4 6
            have q_55 : (f_49 4 6).toInt = v_53.toInt := (congrArg Int32.toInt (show f_49 4 6 = v_53 from ev_53.symm))
            have q_56 : (f_49 4 1).toInt = v_10.toInt := (congrArg Int32.toInt (show f_49 4 1 = v_10 from ((hk_f_49 4 1 (by decide)).trans ((hk_f_45 4 1 (by decide)).trans (by rw [ef_44, sg_up_s, sgu_n (by decide)]; exact ev_10.symm)))))
            refine sg_calli (va_runV (As := []) (rest := []) ⟨hx, hb, hml, hown, hts⟩ (kX5_next l D ca za h hh f_49 L Q hI H.size) (sl_c5_next_0_0_0_0_5 hts ⟨Nat.le_of_ble_eq_true rfl, Nat.le_of_ble_eq_true rfl⟩) (sl_vX_4 hA hK hP hS hZ) rfl rfl hl.1 rfl (lv_room (Nat.le_of_ble_eq_true rfl)) dX5_sum_51 ⟨Nat.le_refl _, Nat.le_refl _⟩) hA hS (fun r_60 f_57 L_58 Q_59 H locs hq hP hS => ?_)
            obtain ⟨⟨ef9, eL9, eQ9⟩, hq, p_61, u_62⟩ := hq
            rw [ef9, eL9, eQ9] at hP; clear ef9 eL9 eQ9
            refine lv_istore_n (lv' := [(2, .int r_60), (0, .ref (h 4)), (1, .int 2), (3, .int y3_12)]) hx hb dX5_sum_54 rfl hl (by decide) rfl (fun ls hl => ?_)
            obtain ⟨v_63, ev_63⟩ : ∃ z : Int32, z = y3_12 + 1 := ⟨_, rfl⟩
            have q_64 : v_63.toInt = y3_12.toInt + 1 := by rw [ev_63]; exact (bn_addc y3_12 1 (by decide) (by omega) (by omega))
            refine lv_iinc (v := v_63) (lv' := [(3, .int v_63), (2, .int r_60), (0, .ref (h 4)), (1, .int 2)]) hx hb dX5_sum_55 hl (k := 3) rfl (by rw [ev_63]; rfl) (by decide) rfl (fun ls hl => ?_)
            refine lv_goto (tgt := 12) hx hb dX5_sum_58 (by decide) ?_
            exact ih_12 r_60 v_63 f_49 _ _ _ (hs.trans ((if_pos c_41).trans (spl_e ev_42 (spl_e ef_44 (spl_e u_48 (spl_e u_52 (spl_e ev_53 (spl_e u_62 (spl_e ev_63 rfl))))))))) (by omega) ⟨by omega, by omega⟩ ⟨by omega, by omega⟩ (by have zz4_6 : (f_49 4 6).toInt = v_53.toInt := (congrArg Int32.toInt (show f_49 4 6 = v_53 from ev_53.symm)); have zz4_1 : (f_49 4 1).toInt = v_10.toInt := (congrArg Int32.toInt (show f_49 4 1 = v_10 from ((hk_f_49 4 1 (by decide)).trans ((hk_f_45 4 1 (by decide)).trans (by rw [ef_44, sg_up_s, sgu_n (by decide)]; exact ev_10.symm))))); omega) hI hF hP hS (lv_sub hl [2, 3, 1, 0] rfl)
  refine lv_aload_n hx hb dX5_sum_0 rfl (lv_at hl 0 rfl) ?_
  refine lv_iload_n hx hb dX5_sum_1 rfl (lv_at hl 1 rfl) ?_
  refine sg_callv (va_runV (As := [.int 2]) (rest := []) ⟨hx, hb, hml, hown, hts⟩ (kX5_product_2 l D ca za h hh f L Q hI H.size) (sl_c5_product_31_0_0_689_5 hts ⟨Nat.le_of_ble_eq_true rfl, Nat.le_of_ble_eq_true rfl⟩) (sl_vX_4 hA hK hP hS hZ) rfl rfl hl.1 rfl (lv_room (Nat.le_of_ble_eq_true rfl)) dX5_sum_2 ⟨Nat.le_refl _, Nat.le_refl _⟩) hA hS (fun f_65 L_66 Q_67 H locs hq hP hS => ?_)
  obtain ⟨⟨hI, hk_f_65, eL9, eQ9⟩, u_68⟩ := hq
  rw [eL9, eQ9] at hP; clear eL9 eQ9
  have hF : sgK WkX5_sum_2 f f_65 := sgK.tr hF hk_f_65 (by decide +kernel)
  refine lv_aload_n hx hb dX5_sum_5 rfl (lv_at hl 0 rfl) ?_
  obtain ⟨v_69, ev_69⟩ : ∃ z : Int32, z = f_65 4 6 := ⟨_, rfl⟩
  have q_70 : 0 ≤ v_69.toInt ∧ v_69.toInt ≤ 120 := by rw [ev_69]; exact hI 4 6
  have q_71 : (f_65 4 6).toInt = v_69.toInt := (congrArg Int32.toInt (show f_65 4 6 = v_69 from ev_69.symm))
  have q_72 : (f_65 4 1).toInt = v_3.toInt := (congrArg Int32.toInt (show f_65 4 1 = v_3 from ((hk_f_65 4 1 (by decide)).trans ev_3.symm)))
  refine sg_calli (va_runV (As := []) (rest := []) ⟨hx, hb, hml, hown, hts⟩ (kX5_next l D ca za h hh f_65 L Q hI H.size) (sl_c5_next_0_0_0_0_5 hts ⟨Nat.le_of_ble_eq_true rfl, Nat.le_of_ble_eq_true rfl⟩) (sl_vX_4 hA hK hP hS hZ) rfl rfl hl.1 rfl (lv_room (Nat.le_of_ble_eq_true rfl)) dX5_sum_6 ⟨Nat.le_refl _, Nat.le_refl _⟩) hA hS (fun r_76 f_73 L_74 Q_75 H locs hq hP hS => ?_)
  obtain ⟨⟨ef9, eL9, eQ9⟩, hq, p_77, u_78⟩ := hq
  rw [ef9, eL9, eQ9] at hP; clear ef9 eL9 eQ9
  refine lv_istore_n (lv' := [(2, .int r_76), (0, .ref (h 4)), (1, .int 2)]) hx hb dX5_sum_9 rfl hl (by decide) rfl (fun ls hl => ?_)
  refine lv_iconst (v := 0) hx hb dX5_sum_10 ic_0 ?_
  refine lv_istore_n (lv' := [(3, .int 0), (2, .int r_76), (0, .ref (h 4)), (1, .int 2)]) hx hb dX5_sum_11 rfl hl (by decide) rfl (fun ls hl => ?_)
  exact loop_12 121 r_76 0 f_65 _ _ _ (hs.trans ((spl_e ev_1 (spl_e ev_3 (spl_e u_68 (spl_e ev_69 (spl_e u_78 rfl))))))) (by have kc1 : (0 : Int32).toInt = 0 := ti_0; omega) ⟨by omega, by omega⟩ (by decide) (by have kc1 : (0 : Int32).toInt = 0 := ti_0; have zz4_6 : (f_65 4 6).toInt = v_69.toInt := (congrArg Int32.toInt (show f_65 4 6 = v_69 from ev_69.symm)); have zz4_1 : (f_65 4 1).toInt = v_3.toInt := (congrArg Int32.toInt (show f_65 4 1 = v_3 from ((hk_f_65 4 1 (by decide)).trans ev_3.symm))); omega) hI hF hP hS (lv_sub hl [2, 3, 1, 0] rfl)

abbrev WkX5_compared_2 : List (Nat × Nat × Option Nat) := [(4, 4, some 6), (4, 4, some 7), (4, 4, some 8), (6, 6, none)]
set_option maxHeartbeats 4000000 in
set_option maxRecDepth 100000 in
theorem kX5_compared_2 (l : Launch) (D : va_G) (ca : Nat → ClassId) (za h : Nat → Nat) (hh : sgH 52 h) (f : sg_F) (L : sg_L) (Q : sg_Q) (hI : sgI loX hiX f) (sz : Nat) : Met l yX5_compared gwX5_compared { frames := 33, cells := 0, slots := 0, locals := 735 } (sgP D vwCl (tyX ca) 52 h (eX ca h) zcX za f L Q sz [.ref (h 4), .int 2]) (sgQv D vwCl 52 h (eX ca h) sz (fun f1 L1 Q1 => ((sgI loX hiX f1 ∧ sgK WkX5_compared_2 f f1 ∧ L1 = L ∧ Q1 = Q) ∧ (f1) = sX5_compared_2 f L))) 0 0 (sgA 52 h sz) := by
  refine sg_ofWv (cc := cX5_compared) (maxL := 3) RX5 (by decide) rfl rfl (Nat.le_of_ble_eq_true rfl) ?_
  intro p e s m below meth cd Qz ls hx hb hml hown hts hK hZ hP hS hl hret
  have hA := sgY.self (n := 52) (h := h) (sz := s.heap.size)
  have hl : lv_has ls 3 [(0, .ref (h 4)), (1, .int 2)] := hl
  obtain ⟨H, hH⟩ : ∃ z : Heap, z = s.heap := ⟨_, rfl⟩
  obtain ⟨locs, hlo⟩ : ∃ z : List Loc, z = [] := ⟨_, rfl⟩
  have hP : va_P D vwCl (sgw 52 h (eX ca h) f L Q) H := by rw [hH]; exact hP
  have hS : va_S (sgA 52 h s.heap.size) s.heap H locs := by rw [hH, hlo]; exact hS
  suffices hgo : W p l e ({ frames := 33, cells := 0, slots := 0, locals := 735 }) s m ([.ref (h 4), .int 2] : List Value).toArray below meth cd H locs 0 0 Qz (F0 m 0 ls []) by rw [hH, hlo] at hgo; exact hgo
  clear hH hlo
  obtain ⟨sp, hsp⟩ : ∃ z : sg_F, z = sX5_compared_2 f L := ⟨_, rfl⟩
  have hs : sp = sX5_compared_2 f L := hsp
  have hF : sgK WkX5_compared_2 f f := sgK.rf
  refine lv_aload_n hx hb dX5_compared_0 rfl (lv_at hl 0 rfl) ?_
  refine lv_iload_n hx hb dX5_compared_1 rfl (lv_at hl 1 rfl) ?_
  refine sg_callv (va_runV (As := [.int 2]) (rest := []) ⟨hx, hb, hml, hown, hts⟩ (kX5_sum_2 l D ca za h hh f L Q hI H.size) (sl_c5_sum_32_0_0_712_5 hts ⟨Nat.le_of_ble_eq_true rfl, Nat.le_of_ble_eq_true rfl⟩) (sl_vX_4 hA hK hP hS hZ) rfl rfl hl.1 rfl (lv_room (Nat.le_of_ble_eq_true rfl)) dX5_compared_2 ⟨Nat.le_refl _, Nat.le_refl _⟩) hA hS (fun f_1 L_2 Q_3 H locs hq hP hS => ?_)
  obtain ⟨⟨hI, hk_f_1, eL9, eQ9⟩, u_4⟩ := hq
  rw [eL9, eQ9] at hP; clear eL9 eQ9
  have hF : sgK WkX5_compared_2 f f_1 := sgK.tr hF hk_f_1 (by decide +kernel)
  refine lv_aload_n hx hb dX5_compared_5 rfl (lv_at hl 0 rfl) ?_
  obtain ⟨v_5, ev_5⟩ : ∃ z : Int32, z = f_1 4 6 := ⟨_, rfl⟩
  have q_6 : 0 ≤ v_5.toInt ∧ v_5.toInt ≤ 120 := by rw [ev_5]; exact hI 4 6
  have q_7 : (f_1 4 6).toInt = v_5.toInt := (congrArg Int32.toInt (show f_1 4 6 = v_5 from ev_5.symm))
  obtain ⟨v_8, ev_8⟩ : ∃ z : Int32, z = f_1 4 1 := ⟨_, rfl⟩
  have q_9 : 0 ≤ v_8.toInt ∧ v_8.toInt ≤ 120 := by rw [ev_8]; exact hI 4 1
  have q_10 : (f_1 4 1).toInt = v_8.toInt := (congrArg Int32.toInt (show f_1 4 1 = v_8 from ev_8.symm))
  refine sg_calli (va_runV (As := []) (rest := []) ⟨hx, hb, hml, hown, hts⟩ (kX5_next l D ca za h hh f_1 L Q hI H.size) (sl_c5_next_0_0_0_0_5 hts ⟨Nat.le_of_ble_eq_true rfl, Nat.le_of_ble_eq_true rfl⟩) (sl_vX_4 hA hK hP hS hZ) rfl rfl hl.1 rfl (lv_room (Nat.le_of_ble_eq_true rfl)) dX5_compared_6 ⟨Nat.le_refl _, Nat.le_refl _⟩) hA hS (fun r_14 f_11 L_12 Q_13 H locs hq hP hS => ?_)
  obtain ⟨⟨ef9, eL9, eQ9⟩, hq, p_15, u_16⟩ := hq
  replace hs := hs.trans (spl_e u_4 (spl_e ev_5 (spl_e ev_8 (spl_e u_16 rfl))))
  rw [ef9, eL9, eQ9] at hP; clear ef9 eL9 eQ9
  refine lv_istore_n (lv' := [(2, .int r_14), (0, .ref (h 4)), (1, .int 2)]) hx hb dX5_compared_9 rfl hl (by decide) rfl (fun ls hl => ?_)
  refine lv_iload_n hx hb dX5_compared_10 rfl (lv_at hl 0 rfl) ?_
  refine lv_bipush (v := 60) hx hb dX5_compared_11 bp_60 ?_
  refine lv_icmp_eq (tgt := 28) hx hb dX5_compared_13 (by decide) (fun c => ?_) (fun c => ?_)
  · skip
    have c_17 : r_14.toInt = 60 := (by first | exact (cm_eq1 ti_60 c) | (have z := Int32.toInt_inj.mpr c; have k1 : (60 : Int32).toInt = 60 := ti_60; omega))
    refine lv_aload_n hx hb dX5_compared_28 rfl (lv_at hl 1 rfl) ?_
    refine lv_dup hx hb dX5_compared_29 rfl ?_
    refine sl_gX_4_6_5 (v := v_5) hx hb hts hown hK hP (show f_1 4 6 = v_5 from ev_5.symm) dX5_compared_30 ?_
    refine lv_iconst (v := 1) hx hb dX5_compared_33 ic_1 ?_
    refine lv_iadd hx hb dX5_compared_34 ?_
    refine lv_topi (fun v_19 ev_19 => ?_)
    have q_20 : v_19.toInt = v_5.toInt + 1 := by rw [ev_19]; first | exact cm_add ti_1 (by omega) (by omega) | (have k1 : (1 : Int32).toInt = 1 := ti_1; exact (bn_addI (by omega) (by omega)).trans (by omega))
    refine sl_pX_4_6_5 (x := v_19) hx hb hts hown hh hA hK hP hS dX5_compared_35 (fun f_21 H locs ef_21 hP hS => ?_)
    have hI : sgI loX hiX f_21 := by rw [ef_21]; exact sgI.put hI 4 6 (show 0 ≤ (v_19 : Int32).toInt ∧ (v_19 : Int32).toInt ≤ 120 from ⟨by omega, by omega⟩)
    have hF : sgK WkX5_compared_2 f f_21 := sgK.put hF ef_21 (by rfl)
    refine lv_aload_n hx hb dX5_compared_38 rfl (lv_at hl 1 rfl) ?_
    refine lv_iload_n hx hb dX5_compared_39 rfl (lv_at hl 2 rfl) ?_
    refine sg_callv (va_runV (As := [.int 2]) (rest := []) ⟨hx, hb, hml, hown, hts⟩ (kX5_sum_2 l D ca za h hh f_21 L Q hI H.size) (sl_c5_sum_32_0_0_712_5 hts ⟨Nat.le_of_ble_eq_true rfl, Nat.le_of_ble_eq_true rfl⟩) (sl_vX_4 hA hK hP hS hZ) rfl rfl hl.1 rfl (lv_room (Nat.le_of_ble_eq_true rfl)) dX5_compared_40 ⟨Nat.le_refl _, Nat.le_refl _⟩) hA hS (fun f_22 L_23 Q_24 H locs hq hP hS => ?_)
    obtain ⟨⟨hI, hk_f_22, eL9, eQ9⟩, u_25⟩ := hq
    rw [eL9, eQ9] at hP; clear eL9 eQ9
    have hF : sgK WkX5_compared_2 f f_22 := sgK.tr hF hk_f_22 (by decide +kernel)
    refine lv_aload_n hx hb dX5_compared_43 rfl (lv_at hl 1 rfl) ?_
    refine lv_iload_n hx hb dX5_compared_44 rfl (lv_at hl 0 rfl) ?_
    refine sg_callv (va_runV (As := [.int r_14]) (rest := []) ⟨hx, hb, hml, hown, hts⟩ (kX5_write l D ca za h hh f_22 L Q hI r_14 H.size) (sl_c5_write_0_0_0_0_5 hts ⟨Nat.le_of_ble_eq_true rfl, Nat.le_of_ble_eq_true rfl⟩) (sl_vX_4 hA hK hP hS hZ) rfl rfl hl.1 rfl (lv_room (Nat.le_of_ble_eq_true rfl)) dX5_compared_45 ⟨Nat.le_refl _, Nat.le_refl _⟩) hA hS (fun f_26 L_27 Q_28 H locs hq hP hS => ?_)
    obtain ⟨⟨hI, hk_f_26, eL9, eQ9⟩, u_29⟩ := hq
    rw [eL9, eQ9] at hP; clear eL9 eQ9
    have hF : sgK WkX5_compared_2 f f_26 := sgK.tr hF hk_f_26 (by decide +kernel)
    exact hret _ _ _ _ f_26 L Q dX5_compared_48 hP hS ⟨⟨hI, hF, rfl, rfl⟩, (Eq.trans (Eq.symm (hs.trans ((if_pos c_17).trans (spl_e ev_19 (spl_e ef_21 (spl_e u_25 (spl_e u_29 rfl))))))) hsp)⟩
  · skip
    have c_18 : r_14.toInt ≠ 60 := (by first | exact (cm_ne1 ti_60 c) | (have z := bn_ne c; have k1 : (60 : Int32).toInt = 60 := ti_60; omega))
    replace hs := hs.trans ((if_neg c_18).trans rfl)
    refine lv_iload_n hx hb dX5_compared_16 rfl (lv_at hl 0 rfl) ?_
    refine lv_bipush (v := 61) hx hb dX5_compared_17 bp_61 ?_
    refine lv_icmp_eq (tgt := 28) hx hb dX5_compared_19 (by decide) (fun c => ?_) (fun c => ?_)
    · skip
      have c_30 : r_14.toInt = 61 := (by first | exact (cm_eq1 ti_61 c) | (have z := Int32.toInt_inj.mpr c; have k1 : (61 : Int32).toInt = 61 := ti_61; omega))
      refine lv_aload_n hx hb dX5_compared_28 rfl (lv_at hl 1 rfl) ?_
      refine lv_dup hx hb dX5_compared_29 rfl ?_
      refine sl_gX_4_6_5 (v := v_5) hx hb hts hown hK hP (show f_1 4 6 = v_5 from ev_5.symm) dX5_compared_30 ?_
      refine lv_iconst (v := 1) hx hb dX5_compared_33 ic_1 ?_
      refine lv_iadd hx hb dX5_compared_34 ?_
      refine lv_topi (fun v_32 ev_32 => ?_)
      have q_33 : v_32.toInt = v_5.toInt + 1 := by rw [ev_32]; first | exact cm_add ti_1 (by omega) (by omega) | (have k1 : (1 : Int32).toInt = 1 := ti_1; exact (bn_addI (by omega) (by omega)).trans (by omega))
      refine sl_pX_4_6_5 (x := v_32) hx hb hts hown hh hA hK hP hS dX5_compared_35 (fun f_34 H locs ef_34 hP hS => ?_)
      have hI : sgI loX hiX f_34 := by rw [ef_34]; exact sgI.put hI 4 6 (show 0 ≤ (v_32 : Int32).toInt ∧ (v_32 : Int32).toInt ≤ 120 from ⟨by omega, by omega⟩)
      have hF : sgK WkX5_compared_2 f f_34 := sgK.put hF ef_34 (by rfl)
      refine lv_aload_n hx hb dX5_compared_38 rfl (lv_at hl 1 rfl) ?_
      refine lv_iload_n hx hb dX5_compared_39 rfl (lv_at hl 2 rfl) ?_
      refine sg_callv (va_runV (As := [.int 2]) (rest := []) ⟨hx, hb, hml, hown, hts⟩ (kX5_sum_2 l D ca za h hh f_34 L Q hI H.size) (sl_c5_sum_32_0_0_712_5 hts ⟨Nat.le_of_ble_eq_true rfl, Nat.le_of_ble_eq_true rfl⟩) (sl_vX_4 hA hK hP hS hZ) rfl rfl hl.1 rfl (lv_room (Nat.le_of_ble_eq_true rfl)) dX5_compared_40 ⟨Nat.le_refl _, Nat.le_refl _⟩) hA hS (fun f_35 L_36 Q_37 H locs hq hP hS => ?_)
      obtain ⟨⟨hI, hk_f_35, eL9, eQ9⟩, u_38⟩ := hq
      rw [eL9, eQ9] at hP; clear eL9 eQ9
      have hF : sgK WkX5_compared_2 f f_35 := sgK.tr hF hk_f_35 (by decide +kernel)
      refine lv_aload_n hx hb dX5_compared_43 rfl (lv_at hl 1 rfl) ?_
      refine lv_iload_n hx hb dX5_compared_44 rfl (lv_at hl 0 rfl) ?_
      refine sg_callv (va_runV (As := [.int r_14]) (rest := []) ⟨hx, hb, hml, hown, hts⟩ (kX5_write l D ca za h hh f_35 L Q hI r_14 H.size) (sl_c5_write_0_0_0_0_5 hts ⟨Nat.le_of_ble_eq_true rfl, Nat.le_of_ble_eq_true rfl⟩) (sl_vX_4 hA hK hP hS hZ) rfl rfl hl.1 rfl (lv_room (Nat.le_of_ble_eq_true rfl)) dX5_compared_45 ⟨Nat.le_refl _, Nat.le_refl _⟩) hA hS (fun f_39 L_40 Q_41 H locs hq hP hS => ?_)
      obtain ⟨⟨hI, hk_f_39, eL9, eQ9⟩, u_42⟩ := hq
      rw [eL9, eQ9] at hP; clear eL9 eQ9
      have hF : sgK WkX5_compared_2 f f_39 := sgK.tr hF hk_f_39 (by decide +kernel)
      exact hret _ _ _ _ f_39 L Q dX5_compared_48 hP hS ⟨⟨hI, hF, rfl, rfl⟩, (Eq.trans (Eq.symm (hs.trans ((if_pos c_30).trans (spl_e ev_32 (spl_e ef_34 (spl_e u_38 (spl_e u_42 rfl))))))) hsp)⟩
    · skip
      have c_31 : r_14.toInt ≠ 61 := (by first | exact (cm_ne1 ti_61 c) | (have z := bn_ne c; have k1 : (61 : Int32).toInt = 61 := ti_61; omega))
      replace hs := hs.trans ((if_neg c_31).trans rfl)
      refine lv_iload_n hx hb dX5_compared_22 rfl (lv_at hl 0 rfl) ?_
      refine lv_bipush (v := 62) hx hb dX5_compared_23 bp_62 ?_
      refine lv_icmp_ne (tgt := 48) hx hb dX5_compared_25 (by decide) (fun c => ?_) (fun c => ?_)
      · skip
        have c_43 : r_14.toInt ≠ 62 := (by first | exact (cm_ne1 ti_62 c) | (have z := bn_ne c; have k1 : (62 : Int32).toInt = 62 := ti_62; omega))
        exact hret _ _ _ _ f_1 L Q dX5_compared_48 hP hS ⟨⟨hI, hF, rfl, rfl⟩, (Eq.trans (Eq.symm (hs.trans ((if_neg c_43).trans rfl))) hsp)⟩
      · skip
        have c_44 : r_14.toInt = 62 := (by first | exact (cm_eq1 ti_62 c) | (have z := Int32.toInt_inj.mpr c; have k1 : (62 : Int32).toInt = 62 := ti_62; omega))
        refine lv_aload_n hx hb dX5_compared_28 rfl (lv_at hl 1 rfl) ?_
        refine lv_dup hx hb dX5_compared_29 rfl ?_
        refine sl_gX_4_6_5 (v := v_5) hx hb hts hown hK hP (show f_1 4 6 = v_5 from ev_5.symm) dX5_compared_30 ?_
        refine lv_iconst (v := 1) hx hb dX5_compared_33 ic_1 ?_
        refine lv_iadd hx hb dX5_compared_34 ?_
        refine lv_topi (fun v_45 ev_45 => ?_)
        have q_46 : v_45.toInt = v_5.toInt + 1 := by rw [ev_45]; first | exact cm_add ti_1 (by omega) (by omega) | (have k1 : (1 : Int32).toInt = 1 := ti_1; exact (bn_addI (by omega) (by omega)).trans (by omega))
        refine sl_pX_4_6_5 (x := v_45) hx hb hts hown hh hA hK hP hS dX5_compared_35 (fun f_47 H locs ef_47 hP hS => ?_)
        have hI : sgI loX hiX f_47 := by rw [ef_47]; exact sgI.put hI 4 6 (show 0 ≤ (v_45 : Int32).toInt ∧ (v_45 : Int32).toInt ≤ 120 from ⟨by omega, by omega⟩)
        have hF : sgK WkX5_compared_2 f f_47 := sgK.put hF ef_47 (by rfl)
        refine lv_aload_n hx hb dX5_compared_38 rfl (lv_at hl 1 rfl) ?_
        refine lv_iload_n hx hb dX5_compared_39 rfl (lv_at hl 2 rfl) ?_
        refine sg_callv (va_runV (As := [.int 2]) (rest := []) ⟨hx, hb, hml, hown, hts⟩ (kX5_sum_2 l D ca za h hh f_47 L Q hI H.size) (sl_c5_sum_32_0_0_712_5 hts ⟨Nat.le_of_ble_eq_true rfl, Nat.le_of_ble_eq_true rfl⟩) (sl_vX_4 hA hK hP hS hZ) rfl rfl hl.1 rfl (lv_room (Nat.le_of_ble_eq_true rfl)) dX5_compared_40 ⟨Nat.le_refl _, Nat.le_refl _⟩) hA hS (fun f_48 L_49 Q_50 H locs hq hP hS => ?_)
        obtain ⟨⟨hI, hk_f_48, eL9, eQ9⟩, u_51⟩ := hq
        rw [eL9, eQ9] at hP; clear eL9 eQ9
        have hF : sgK WkX5_compared_2 f f_48 := sgK.tr hF hk_f_48 (by decide +kernel)
        refine lv_aload_n hx hb dX5_compared_43 rfl (lv_at hl 1 rfl) ?_
        refine lv_iload_n hx hb dX5_compared_44 rfl (lv_at hl 0 rfl) ?_
        refine sg_callv (va_runV (As := [.int r_14]) (rest := []) ⟨hx, hb, hml, hown, hts⟩ (kX5_write l D ca za h hh f_48 L Q hI r_14 H.size) (sl_c5_write_0_0_0_0_5 hts ⟨Nat.le_of_ble_eq_true rfl, Nat.le_of_ble_eq_true rfl⟩) (sl_vX_4 hA hK hP hS hZ) rfl rfl hl.1 rfl (lv_room (Nat.le_of_ble_eq_true rfl)) dX5_compared_45 ⟨Nat.le_refl _, Nat.le_refl _⟩) hA hS (fun f_52 L_53 Q_54 H locs hq hP hS => ?_)
        obtain ⟨⟨hI, hk_f_52, eL9, eQ9⟩, u_55⟩ := hq
        rw [eL9, eQ9] at hP; clear eL9 eQ9
        have hF : sgK WkX5_compared_2 f f_52 := sgK.tr hF hk_f_52 (by decide +kernel)
        exact hret _ _ _ _ f_52 L Q dX5_compared_48 hP hS ⟨⟨hI, hF, rfl, rfl⟩, (Eq.trans (Eq.symm (hs.trans ((if_pos c_44).trans (spl_e ev_45 (spl_e ef_47 (spl_e u_51 (spl_e u_55 rfl))))))) hsp)⟩
