/-! contracts of any state. Laid by a program (wip/tool) -/
abbrev WkX11_body : List (Nat × Nat × Option Nat) := [(36, 36, some 2), (37, 37, none)]
set_option maxHeartbeats 4000000 in
set_option maxRecDepth 100000 in
theorem kX11_body (l : Launch) (D : va_G) (ca : Nat → ClassId) (za h : Nat → Nat) (hh : sgH 52 h) (f : sg_F) (L : sg_L) (Q : sg_Q) (hI : sgI loX hiX f) (x0 : Int32) (sz : Nat) : Met l yX11_body gwX11_body { frames := 1, cells := 0, slots := 0, locals := 21 } (sgP D vwCl (tyX ca) 52 h (eX ca h) zcX za f L Q sz [.ref (h 0), .int x0]) (sgQi D vwCl 52 h (eX ca h) sz (fun r f1 L1 Q1 => ((sgI loX hiX f1 ∧ sgK WkX11_body f f1 ∧ L1 = L ∧ Q1 = Q) ∧ ((-3) ≤ r.toInt ∧ r.toInt ≤ 49) ∧ (r, f1) = sX11_body x0 f L))) 0 0 (sgA 52 h sz) := by
  refine sg_ofWi (cc := cX11_body) (maxL := 2) RX11 (by decide) rfl rfl (Nat.le_of_ble_eq_true rfl) ?_
  intro p e s m below meth cd Qz ls hx hb hml hown hts hK hZ hP hS hl hret
  have hA := sgY.self (n := 52) (h := h) (sz := s.heap.size)
  have hl : lv_has ls 2 [(0, .ref (h 0)), (1, .int x0)] := hl
  obtain ⟨H, hH⟩ : ∃ z : Heap, z = s.heap := ⟨_, rfl⟩
  obtain ⟨locs, hlo⟩ : ∃ z : List Loc, z = [] := ⟨_, rfl⟩
  have hP : va_P D vwCl (sgw 52 h (eX ca h) f L Q) H := by rw [hH]; exact hP
  have hS : va_S (sgA 52 h s.heap.size) s.heap H locs := by rw [hH, hlo]; exact hS
  suffices hgo : W p l e ({ frames := 1, cells := 0, slots := 0, locals := 21 }) s m ([.ref (h 0), .int x0] : List Value).toArray below meth cd H locs 0 0 Qz (F0 m 0 ls []) by rw [hH, hlo] at hgo; exact hgo
  clear hH hlo
  obtain ⟨sp, hsp⟩ : ∃ z : Int32 × sg_F, z = sX11_body x0 f L := ⟨_, rfl⟩
  have hs : sp = sX11_body x0 f L := hsp
  have hF : sgK WkX11_body f f := sgK.rf
  refine lv_iload_n hx hb dX11_body_0 rfl (lv_at hl 1 rfl) ?_
  refine sg_calli (va_runS (As := [.int x0]) (rest := []) ⟨hx, hb, hml, hown, hts⟩ (kX11_isKind l D ca za h hh f L Q hI x0 H.size) (va_cwS 1 hts (gw_S (fun _ h => List.mem_cons_of_mem _ h) mw_39 mw_40 mw_37 mw_38) rfl rfl rfl hd_yX11_isKind.2 ⟨Nat.le_of_ble_eq_true rfl, Nat.le_of_ble_eq_true rfl⟩) (sg_preS hA hK hP hS hZ) rfl rfl hl.1 rfl (lv_room (Nat.le_of_ble_eq_true rfl)) dX11_body_1 ⟨Nat.le_refl _, Nat.le_refl _⟩) hA hS (fun r_4 f_1 L_2 Q_3 H locs hq hP hS => ?_)
  obtain ⟨⟨ef9, eL9, eQ9⟩, hq, u_5⟩ := hq
  replace hs := hs.trans (spl_e u_5 rfl)
  rw [ef9, eL9, eQ9] at hP; clear ef9 eL9 eQ9
  rcases hq with ⟨rfl, hq⟩ | ⟨rfl, hq⟩
  · skip
    have hc_6 := hq
    refine lv_if_eq (tgt := 18) hx hb dX11_body_4 (by decide) (fun c => absurd c (by decide)) (fun c => ?_)
    refine lv_aload_n hx hb dX11_body_7 rfl (lv_at hl 0 rfl) ?_
    refine sl_gX_0_8_11 hx hb hts hown hK hP dX11_body_8 ?_
    refine lv_iload_n hx hb dX11_body_11 rfl (lv_at hl 1 rfl) ?_
    refine sg_calli (va_runV (As := [.int x0]) (rest := []) ⟨hx, hb, hml, hown, hts⟩ (kX3_comes l D ca za h hh f L Q hI x0 ⟨by omega, by omega⟩ H.size) (sl_c3_comes_0_0_0_0_11 hts ⟨Nat.le_of_ble_eq_true rfl, Nat.le_of_ble_eq_true rfl⟩) (sl_vX_36 hA hK hP hS hZ) rfl rfl hl.1 rfl (lv_room (Nat.le_of_ble_eq_true rfl)) dX11_body_12 ⟨Nat.le_refl _, Nat.le_refl _⟩) hA hS (fun r_10 f_7 L_8 Q_9 H locs hq hP hS => ?_)
    obtain ⟨⟨hI, hk_f_7, eL9, eQ9⟩, hq, u_11⟩ := hq
    rw [eL9, eQ9] at hP; clear eL9 eQ9
    have hF : sgK WkX11_body f f_7 := sgK.tr hF hk_f_7 (by decide +kernel)
    refine lv_goto (tgt := 19) hx hb dX11_body_15 (by decide) ?_
    exact hret _ _ _ _ (r_10) f_7 L Q dX11_body_19 hP hS ⟨⟨hI, hF, rfl, rfl⟩, ⟨by omega, by omega⟩, (Eq.trans (Eq.symm (hs.trans ((if_pos rfl).trans (spl2_e u_11 rfl)))) hsp)⟩
  · skip
    have hc_6 := hq
    refine lv_if_eq (tgt := 18) hx hb dX11_body_4 (by decide) (fun c => ?_) (fun c => absurd c (by decide))
    refine lv_iconst (v := (-1)) hx hb dX11_body_18 ic_m1 ?_
    have k99 : ((-1) : Int32).toInt = (-1) := ti_m1
    exact hret _ _ _ _ (-1) f L Q dX11_body_19 hP hS ⟨⟨hI, hF, rfl, rfl⟩, (by decide), (Eq.trans (Eq.symm (hs.trans ((if_neg (by decide)).trans rfl))) hsp)⟩

set_option maxHeartbeats 4000000 in
set_option maxRecDepth 100000 in
theorem kX3_ownerOf_0_0 (l : Launch) (D : va_G) (ca : Nat → ClassId) (za h : Nat → Nat) (hh : sgH 52 h) (f : sg_F) (L : sg_L) (Q : sg_Q) (hI : sgI loX hiX f) (sz : Nat) : Met l yX3_ownerOf gwX3_ownerOf { frames := 0, cells := 0, slots := 0, locals := 0 } (sgP D vwCl (tyX ca) 52 h (eX ca h) zcX za f L Q sz [.int 0, .int 0]) (sgQi D vwCl 52 h (eX ca h) sz (fun r f1 L1 Q1 => ((f1 = f ∧ L1 = L ∧ Q1 = Q) ∧ (0 ≤ r.toInt ∧ r.toInt ≤ 0) ∧ (r) = sX3_ownerOf_0_0 f L))) 0 0 (sgA 52 h sz) := by
  refine sg_ofWi (cc := cX3_ownerOf) (maxL := 4) RX3 (by decide) rfl rfl (Nat.le_of_ble_eq_true rfl) ?_
  intro p e s m below meth cd Qz ls hx hb hml hown hts hK hZ hP hS hl hret
  have hA := sgY.self (n := 52) (h := h) (sz := s.heap.size)
  have hl : lv_has ls 4 [(0, .int 0), (1, .int 0)] := hl
  obtain ⟨H, hH⟩ : ∃ z : Heap, z = s.heap := ⟨_, rfl⟩
  obtain ⟨locs, hlo⟩ : ∃ z : List Loc, z = [] := ⟨_, rfl⟩
  have hP : va_P D vwCl (sgw 52 h (eX ca h) f L Q) H := by rw [hH]; exact hP
  have hS : va_S (sgA 52 h s.heap.size) s.heap H locs := by rw [hH, hlo]; exact hS
  suffices hgo : W p l e ({ frames := 0, cells := 0, slots := 0, locals := 0 }) s m ([.int 0, .int 0] : List Value).toArray below meth cd H locs 0 0 Qz (F0 m 0 ls []) by rw [hH, hlo] at hgo; exact hgo
  clear hH hlo
  obtain ⟨sp, hsp⟩ : ∃ z : Int32, z = sX3_ownerOf_0_0 f L := ⟨_, rfl⟩
  have hs : sp = sX3_ownerOf_0_0 f L := hsp
  refine lv_iload_n hx hb dX3_ownerOf_0 rfl (lv_at hl 0 rfl) ?_
  refine lv_istore_n (lv' := [(2, .int 0), (0, .int 0), (1, .int 0)]) hx hb dX3_ownerOf_1 rfl hl (by decide) rfl (fun ls hl => ?_)
  refine lv_iconst (v := 0) hx hb dX3_ownerOf_2 ic_0 ?_
  refine lv_istore_n (lv' := [(3, .int 0), (2, .int 0), (0, .int 0), (1, .int 0)]) hx hb dX3_ownerOf_3 rfl hl (by decide) rfl (fun ls hl => ?_)
  refine lv_iload_n hx hb dX3_ownerOf_4 rfl (lv_at hl 0 rfl) ?_
  refine lv_bipush (v := 8) hx hb dX3_ownerOf_5 bp_8 ?_
  refine lv_icmp_ge (tgt := 40) hx hb dX3_ownerOf_7 (by decide) (fun c => absurd c (by decide)) (fun c => ?_)
  refine lv_iload_n hx hb dX3_ownerOf_10 rfl (lv_at hl 1 rfl) ?_
  refine lv_if_lt (tgt := 40) hx hb dX3_ownerOf_11 (by decide) (fun c => absurd c (by decide)) (fun c => ?_)
  refine sg_gets hx hb hZ 3 rfl hS hown (hts _ (List.mem_cons_of_mem _ mw_173)) (fun _ h9 => h9) dX3_ownerOf_14 ?_
  refine lv_iload_n hx hb dX3_ownerOf_17 rfl (lv_at hl 1 rfl) ?_
  refine lv_iconst (v := 4) hx hb dX3_ownerOf_18 ic_4 ?_
  refine lv_imul hx hb dX3_ownerOf_19 ?_
  refine W.eq (g2 := F0 m 20 ls [.int 0, .ref (za 3)]) (by rw [show (0 * 4 : Int32) = 0 from by decide]) ?_
  refine lv_iload_n hx hb dX3_ownerOf_20 rfl (lv_at hl 3 rfl) ?_
  refine lv_iadd hx hb dX3_ownerOf_21 ?_
  refine W.eq (g2 := F0 m 22 ls [.int 0, .ref (za 3)]) (by rw [show (0 + 0 : Int32) = 0 from by decide]) ?_
  refine sg_sald hx hb hZ 3 rfl hS (y := 0) (N := 32) (vp_in_iff.mpr (by decide)) dX3_ownerOf_22 ?_
  refine W.eq (g2 := F0 m 23 ls [.int 1]) (by rfl) ?_
  refine lv_if_eq (tgt := 28) hx hb dX3_ownerOf_23 (by decide) (fun c => absurd c (by decide)) (fun c => ?_)
  refine lv_iload_n hx hb dX3_ownerOf_26 rfl (lv_at hl 1 rfl) ?_
  have k99 : (0 : Int32).toInt = 0 := ti_0
  exact hret _ _ _ _ (0) f L Q dX3_ownerOf_27 hP hS ⟨⟨rfl, rfl, rfl⟩, (by decide), (Eq.trans (Eq.symm hs) hsp)⟩

set_option maxHeartbeats 4000000 in
set_option maxRecDepth 100000 in
theorem kX3_runs_1_m1_1_f1_f0 (l : Launch) (D : va_G) (ca : Nat → ClassId) (za h : Nat → Nat) (hh : sgH 52 h) (f : sg_F) (L : sg_L) (Q : sg_Q) (hI : sgI loX hiX f) (x2 : Int32) (hf_36_3 : f 36 3 = 1) (hf_36_4 : f 36 4 = 0) (p0 : 1 ≤ (f 36 3).toInt ∧ (f 36 3).toInt ≤ 1) (sz : Nat) : Met l yX3_runs gwX3_runs { frames := 0, cells := 0, slots := 0, locals := 0 } (sgP D vwCl (tyX ca) 52 h (eX ca h) zcX za f L Q sz [.ref (h 36), .int 1, .int (-1), .int x2, .int 1]) (sgQi D vwCl 52 h (eX ca h) sz (fun r f1 L1 Q1 => ((f1 = f ∧ L1 = L ∧ Q1 = Q) ∧ True ∧ (1 ≤ (f1 36 3).toInt ∧ (f1 36 3).toInt ≤ 1) ∧ (r) = sX3_runs_1_m1_1_f1_f0 x2 f L))) 0 0 (sgA 52 h sz) := by
  refine sg_ofWi (cc := cX3_runs) (maxL := 5) RX3 (by decide) rfl rfl (Nat.le_of_ble_eq_true rfl) ?_
  intro p e s m below meth cd Qz ls hx hb hml hown hts hK hZ hP hS hl hret
  have hA := sgY.self (n := 52) (h := h) (sz := s.heap.size)
  have hl : lv_has ls 5 [(0, .ref (h 36)), (1, .int 1), (2, .int (-1)), (3, .int x2), (4, .int 1)] := hl
  obtain ⟨H, hH⟩ : ∃ z : Heap, z = s.heap := ⟨_, rfl⟩
  obtain ⟨locs, hlo⟩ : ∃ z : List Loc, z = [] := ⟨_, rfl⟩
  have hP : va_P D vwCl (sgw 52 h (eX ca h) f L Q) H := by rw [hH]; exact hP
  have hS : va_S (sgA 52 h s.heap.size) s.heap H locs := by rw [hH, hlo]; exact hS
  suffices hgo : W p l e ({ frames := 0, cells := 0, slots := 0, locals := 0 }) s m ([.ref (h 36), .int 1, .int (-1), .int x2, .int 1] : List Value).toArray below meth cd H locs 0 0 Qz (F0 m 0 ls []) by rw [hH, hlo] at hgo; exact hgo
  clear hH hlo
  obtain ⟨sp, hsp⟩ : ∃ z : Int32, z = sX3_runs_1_m1_1_f1_f0 x2 f L := ⟨_, rfl⟩
  have hs : sp = sX3_runs_1_m1_1_f1_f0 x2 f L := hsp
  have o_1 : (f 36 3).toInt = 1 := (congrArg Int32.toInt (show f 36 3 = 1 from hf_36_3)).trans (by decide)
  refine lv_iload_n hx hb dX3_runs_0 rfl (lv_at hl 1 rfl) ?_
  refine lv_lookup (x := 1) (off := 115) (tgt := 116) hx hb dX3_runs_1 (by decide) (by decide) (by decide) ?_
  refine lv_iload_n hx hb dX3_runs_116 rfl (lv_at hl 3 rfl) ?_
  refine lv_aload_n hx hb dX3_runs_117 rfl (lv_at hl 0 rfl) ?_
  refine sl_gX_36_5_3 (v := (f 36 5)) hx hb hts hown hK hP rfl dX3_runs_118 ?_
  refine lv_topi (fun v_2 ev_2 => ?_)
  have q_3 : 0 ≤ v_2.toInt ∧ v_2.toInt ≤ 49 := by rw [ev_2]; exact hI 36 5
  refine lv_iadd hx hb dX3_runs_121 ?_
  refine lv_topi (fun v_4 ev_4 => ?_)
  have q_5 : (f 36 3).toInt = 1 := (congrArg Int32.toInt (show f 36 3 = 1 from hf_36_3)).trans (by decide)
  exact hret _ _ _ _ (v_4) f L Q dX3_runs_122 hP hS ⟨⟨rfl, rfl, rfl⟩, trivial, ⟨by omega, by omega⟩, (Eq.trans (Eq.symm (hs.trans ((spl_e ev_2 (spl_e ev_4 rfl))))) hsp)⟩

abbrev WkX3_does_0_0_0_f0_f0 : List (Nat × Nat × Option Nat) := [(36, 36, some 3), (38, 38, some 0)]
set_option maxHeartbeats 4000000 in
set_option maxRecDepth 100000 in
theorem kX3_does_0_0_0_f0_f0 (l : Launch) (D : va_G) (ca : Nat → ClassId) (za h : Nat → Nat) (hh : sgH 52 h) (f : sg_F) (L : sg_L) (Q : sg_Q) (hI : sgI loX hiX f) (x2 : Int32) (hf_36_3 : f 36 3 = 0) (hf_36_4 : f 36 4 = 0) (p0 : 0 ≤ (f 36 3).toInt ∧ (f 36 3).toInt ≤ 0) (sz : Nat) : Met l yX3_does gwX3_does { frames := 1, cells := 0, slots := 0, locals := 24 } (sgP D vwCl (tyX ca) 52 h (eX ca h) zcX za f L Q sz [.ref (h 36), .int 0, .int 0, .int x2, .int 0]) (sgQi D vwCl 52 h (eX ca h) sz (fun r f1 L1 Q1 => ((sgI loX hiX f1 ∧ sgK WkX3_does_0_0_0_f0_f0 f f1 ∧ L1 = L ∧ Q1 = Q) ∧ True ∧ (1 ≤ (f1 36 3).toInt ∧ (f1 36 3).toInt ≤ 1) ∧ (r, f1) = sX3_does_0_0_0_f0_f0 x2 f L))) 0 0 (sgA 52 h sz) := by
  refine sg_ofWi (cc := cX3_does) (maxL := 7) RX3 (by decide) rfl rfl (Nat.le_of_ble_eq_true rfl) ?_
  intro p e s m below meth cd Qz ls hx hb hml hown hts hK hZ hP hS hl hret
  have hA := sgY.self (n := 52) (h := h) (sz := s.heap.size)
  have hl : lv_has ls 7 [(0, .ref (h 36)), (1, .int 0), (2, .int 0), (3, .int x2), (4, .int 0)] := hl
  obtain ⟨H, hH⟩ : ∃ z : Heap, z = s.heap := ⟨_, rfl⟩
  obtain ⟨locs, hlo⟩ : ∃ z : List Loc, z = [] := ⟨_, rfl⟩
  have hP : va_P D vwCl (sgw 52 h (eX ca h) f L Q) H := by rw [hH]; exact hP
  have hS : va_S (sgA 52 h s.heap.size) s.heap H locs := by rw [hH, hlo]; exact hS
  suffices hgo : W p l e ({ frames := 1, cells := 0, slots := 0, locals := 24 }) s m ([.ref (h 36), .int 0, .int 0, .int x2, .int 0] : List Value).toArray below meth cd H locs 0 0 Qz (F0 m 0 ls []) by rw [hH, hlo] at hgo; exact hgo
  clear hH hlo
  obtain ⟨sp, hsp⟩ : ∃ z : Int32 × sg_F, z = sX3_does_0_0_0_f0_f0 x2 f L := ⟨_, rfl⟩
  have hs : sp = sX3_does_0_0_0_f0_f0 x2 f L := hsp
  have o_1 : (f 36 3).toInt = 0 := (congrArg Int32.toInt (show f 36 3 = 0 from hf_36_3)).trans (by decide)
  have hF : sgK WkX3_does_0_0_0_f0_f0 f f := sgK.rf
  have blk_53 : ∀ (fp_53 : sg_F) (H : Heap) (locs : List Loc) (ls : Array Slot), sp = sX3_does_0_0_0_f0_f0_b53 x2 fp_53 L → 0 ≤ (fp_53 36 3).toInt ∧ (fp_53 36 3).toInt ≤ 0 → 0 ≤ (fp_53 36 4).toInt ∧ (fp_53 36 4).toInt ≤ 0 → sgI loX hiX fp_53 → sgK WkX3_does_0_0_0_f0_f0 f fp_53 → va_P D vwCl (sgw 52 h (eX ca h) fp_53 L Q) H → va_S (sgA 52 h s.heap.size) s.heap H locs → lv_has ls 7 [(0, .ref (h 36)), (3, .int x2), (4, .int 0), (5, .int 0), (6, .int 1)] → W p l e ({ frames := 1, cells := 0, slots := 0, locals := 24 }) s m ([.ref (h 36), .int 0, .int 0, .int x2, .int 0] : List Value).toArray below meth cd H locs 0 0 Qz (F0 m 53 ls []) := by
    intro fp_53 H locs ls hs hy0_53 hy1_53 hI hF hP hS hl
    obtain ⟨v_2, ev_2⟩ : ∃ z : Int32, z = fp_53 36 3 := ⟨_, rfl⟩
    have q_3 : 0 ≤ v_2.toInt ∧ v_2.toInt ≤ 19 := by rw [ev_2]; exact hI 36 3
    have q_4 : (fp_53 36 3).toInt = v_2.toInt := by rw [ev_2]
    obtain ⟨v_5, ev_5⟩ : ∃ z : Int32, z = fp_53 36 4 := ⟨_, rfl⟩
    have q_6 : 0 ≤ v_5.toInt ∧ v_5.toInt ≤ 7 := by rw [ev_5]; exact hI 36 4
    have q_7 : (fp_53 36 4).toInt = v_5.toInt := by rw [ev_5]
    have m_8 : fp_53 36 4 = 0 := (hF 36 4 (by decide)).trans hf_36_4
    refine lv_aload_n hx hb dX3_does_53 rfl (lv_at hl 0 rfl) ?_
    refine lv_dup hx hb dX3_does_54 rfl ?_
    refine sl_gX_36_3_3 (v := v_2) hx hb hts hown hK hP (show fp_53 36 3 = v_2 from ev_2.symm) dX3_does_55 ?_
    refine lv_iconst (v := 1) hx hb dX3_does_58 ic_1 ?_
    refine lv_iadd hx hb dX3_does_59 ?_
    refine lv_topi (fun v_9 ev_9 => ?_)
    have q_10 : v_9.toInt = v_2.toInt + 1 := by rw [ev_9]; first | exact cm_add ti_1 (by omega) (by omega) | (have k1 : (1 : Int32).toInt = 1 := ti_1; exact (bn_addI (by omega) (by omega)).trans (by omega))
    refine sl_pX_36_3_3 (x := v_9) hx hb hts hown hh hA hK hP hS dX3_does_60 (fun f_11 H locs ef_11 hP hS => ?_)
    have hI : sgI loX hiX f_11 := by rw [ef_11]; exact sgI.put hI 36 3 (show 0 ≤ (v_9 : Int32).toInt ∧ (v_9 : Int32).toInt ≤ 19 from ⟨by omega, by omega⟩)
    have hF : sgK WkX3_does_0_0_0_f0_f0 f f_11 := sgK.put hF ef_11 (by rfl)
    refine lv_aload_n hx hb dX3_does_63 rfl (lv_at hl 0 rfl) ?_
    refine lv_iload hx hb dX3_does_64 (lv_at hl 4 rfl) ?_
    refine sg_gets hx hb hZ 2 rfl hS hown (hts _ (List.mem_cons_of_mem _ mw_174)) (fun _ h9 => h9) dX3_does_66 ?_
    refine lv_iload hx hb dX3_does_69 (lv_at hl 3 rfl) ?_
    refine sg_sald hx hb hZ 2 rfl hS (y := 0) (N := 8) (vp_in_iff.mpr (by decide)) dX3_does_71 ?_
    refine W.eq (g2 := F0 m 72 ls [.int (-1), .int 1, .ref (h 36)]) (by rfl) ?_
    refine lv_iload_n hx hb dX3_does_72 rfl (lv_at hl 1 rfl) ?_
    refine lv_iload hx hb dX3_does_73 (lv_at hl 2 rfl) ?_
    refine lv_iconst (v := 1) hx hb dX3_does_75 ic_1 ?_
    refine lv_iadd hx hb dX3_does_76 ?_
    refine W.eq (g2 := F0 m 77 ls [.int 1, .int x2, .int (-1), .int 1, .ref (h 36)]) (by rw [show (0 + 1 : Int32) = 1 from by decide]) ?_
    have c_12 : v_9 = 1 := Int32.toInt_inj.mp (by have k9 : (1 : Int32).toInt = 1 := ti_1; omega)
    have q_13 : (f_11 36 3).toInt = 1 := (congrArg Int32.toInt (show f_11 36 3 = 1 from (Eq.trans (by rw [ef_11, sg_up_s, sgu_s]) c_12))).trans (by decide)
    refine sg_calli (va_runV (As := [.int 1, .int (-1), .int x2, .int 1]) (rest := []) ⟨hx, hb, hml, hown, hts⟩ (kX3_runs_1_m1_1_f1_f0 l D ca za h hh f_11 L Q hI x2 (Eq.trans (by rw [ef_11, sg_up_s, sgu_s]) c_12) (by rw [ef_11, sg_up_s, sgu_n (by decide)]; exact m_8) (by have k0 : (1 : Int32).toInt = 1 := ti_1; have k1 : ((-1) : Int32).toInt = (-1) := ti_m1; have k3 : (1 : Int32).toInt = 1 := ti_1; omega) H.size) (sl_c3_runs_0_0_0_0_3 hts ⟨Nat.le_of_ble_eq_true rfl, Nat.le_of_ble_eq_true rfl⟩) (sl_vX_36 hA hK hP hS hZ) rfl rfl hl.1 rfl (lv_room (Nat.le_of_ble_eq_true rfl)) dX3_does_77 ⟨Nat.le_refl _, Nat.le_refl _⟩) hA hS (fun r_18 f_15 L_16 Q_17 H locs hq hP hS => ?_)
    obtain ⟨⟨ef9, eL9, eQ9⟩, hq, p_19, u_20⟩ := hq
    rw [ef9, eL9, eQ9] at hP; clear ef9 eL9 eQ9
    have k_23 : (1 : Int32).toInt = 1 := by decide
    have k_24 : ((-1) : Int32).toInt = (-1) := by decide
    have k_25 : (1 : Int32).toInt = 1 := by decide
    exact hret _ _ _ _ (r_18) f_11 L Q dX3_does_80 hP hS ⟨⟨hI, hF, rfl, rfl⟩, trivial, ⟨by omega, by omega⟩, (Eq.trans (Eq.symm (hs.trans ((spl_e ev_2 (spl_e ev_5 (spl_e ev_9 (spl_e ef_11 (spl_e u_20 rfl)))))))) hsp)⟩
  refine lv_iload_n hx hb dX3_does_0 rfl (lv_at hl 1 rfl) ?_
  refine lv_iload_n hx hb dX3_does_1 rfl (lv_at hl 2 rfl) ?_
  refine sg_calli (va_runS (As := [.int 0, .int 0]) (rest := []) ⟨hx, hb, hml, hown, hts⟩ (kX3_ownerOf_0_0 l D ca za h hh f L Q hI H.size) (va_cwS 2 hts (gw_S (fun _ h => List.mem_cons_of_mem _ h) mw_189 mw_190 mw_47 mw_188) rfl rfl rfl hd_yX3_ownerOf.2 ⟨Nat.le_of_ble_eq_true rfl, Nat.le_of_ble_eq_true rfl⟩) (sg_preS hA hK hP hS hZ) rfl rfl hl.1 rfl (lv_room (Nat.le_of_ble_eq_true rfl)) dX3_does_2 ⟨Nat.le_refl _, Nat.le_refl _⟩) hA hS (fun r_31 f_28 L_29 Q_30 H locs hq hP hS => ?_)
  obtain ⟨⟨ef9, eL9, eQ9⟩, hq, u_32⟩ := hq
  rw [ef9, eL9, eQ9] at hP; clear ef9 eL9 eQ9
  obtain rfl : r_31 = 0 := Int32.toInt_inj.mp (by have k9 : (0 : Int32).toInt = 0 := ti_0; omega)
  refine lv_istore (lv' := [(5, .int 0), (0, .ref (h 36)), (1, .int 0), (2, .int 0), (3, .int x2), (4, .int 0)]) hx hb dX3_does_5 hl (by decide) rfl (fun ls hl => ?_)
  refine lv_iload hx hb dX3_does_7 (lv_at hl 0 rfl) ?_
  refine lv_if_lt (tgt := 19) hx hb dX3_does_9 (by decide) (fun c => absurd c (by decide)) (fun c => ?_)
  refine lv_iload hx hb dX3_does_12 (lv_at hl 5 rfl) ?_
  refine lv_bipush (v := 40) hx hb dX3_does_14 bp_40 ?_
  refine lv_icmp_le (tgt := 21) hx hb dX3_does_16 (by decide) (fun c => ?_) (fun c => absurd c (by decide))
  refine sg_gets hx hb hZ 3 rfl hS hown (hts _ (List.mem_cons_of_mem _ mw_173)) (fun _ h9 => h9) dX3_does_21 ?_
  refine lv_iload hx hb dX3_does_24 (lv_at hl 0 rfl) ?_
  refine lv_iconst (v := 4) hx hb dX3_does_26 ic_4 ?_
  refine lv_imul hx hb dX3_does_27 ?_
  refine W.eq (g2 := F0 m 28 ls [.int 0, .ref (za 3)]) (by rw [show (0 * 4 : Int32) = 0 from by decide]) ?_
  refine lv_iload_n hx hb dX3_does_28 rfl (lv_at hl 3 rfl) ?_
  refine lv_iadd hx hb dX3_does_29 ?_
  refine W.eq (g2 := F0 m 30 ls [.int 0, .ref (za 3)]) (by rw [show (0 + 0 : Int32) = 0 from by decide]) ?_
  refine sg_sald hx hb hZ 3 rfl hS (y := 0) (N := 32) (vp_in_iff.mpr (by decide)) dX3_does_30 ?_
  refine W.eq (g2 := F0 m 31 ls [.int 1]) (by rfl) ?_
  refine lv_istore (lv' := [(6, .int 1), (5, .int 0), (0, .ref (h 36)), (1, .int 0), (2, .int 0), (3, .int x2), (4, .int 0)]) hx hb dX3_does_31 hl (by decide) rfl (fun ls hl => ?_)
  refine lv_aload_n hx hb dX3_does_33 rfl (lv_at hl 2 rfl) ?_
  refine sl_gX_36_3_3 (v := 0) hx hb hts hown hK hP (show f 36 3 = 0 from hf_36_3) dX3_does_34 ?_
  refine lv_bipush (v := 24) hx hb dX3_does_37 bp_24 ?_
  refine lv_icmp_ge (tgt := 53) hx hb dX3_does_39 (by decide) (fun c => absurd c (by decide)) (fun c => ?_)
  refine lv_aload_n hx hb dX3_does_42 rfl (lv_at hl 2 rfl) ?_
  refine sl_gX_36_1_3 hx hb hts hown hK hP dX3_does_43 ?_
  refine lv_aload_n hx hb dX3_does_46 rfl (lv_at hl 2 rfl) ?_
  refine sl_gX_36_3_3 (v := 0) hx hb hts hown hK hP (show f 36 3 = 0 from hf_36_3) dX3_does_47 ?_
  refine lv_iload hx hb dX3_does_50 (lv_at hl 0 rfl) ?_
  refine sg_iast hx hb hh hA hK hP hS 38 (by decide) 0 (fun _ => rfl) rfl (i := 0) (x := 1) (vp_in_iff.mpr (by decide)) dX3_does_52 (fun f_33 H locs ef_33 hP hS => ?_)
  have ef_33 : f_33 = sg_up f 38 (sgu (f 38) 0 1) := ef_33
  have hI : sgI loX hiX f_33 := by rw [ef_33]; exact sgI.put hI 38 0 (show 0 ≤ (1 : Int32).toInt ∧ (1 : Int32).toInt ≤ 81 from by decide)
  have hF : sgK WkX3_does_0_0_0_f0_f0 f f_33 := sgK.put hF ef_33 (by rfl)
  exact blk_53 f_33 _ _ _ (hs.trans ((spl_e u_32 (spl_e ef_33 rfl)))) (by have zz36_3 : (f_33 36 3).toInt = 0 := (congrArg Int32.toInt (show f_33 36 3 = 0 from (by rw [ef_33, sg_up_n (by decide)]; exact hf_36_3))).trans (by decide); exact ⟨by omega, by omega⟩) (by have zz36_4 : (f_33 36 4).toInt = 0 := (congrArg Int32.toInt (show f_33 36 4 = 0 from (by rw [ef_33, sg_up_n (by decide)]; exact hf_36_4))).trans (by decide); exact ⟨by omega, by omega⟩) hI hF hP hS (lv_sub hl [2, 5, 6, 1, 0] rfl)

set_option maxHeartbeats 4000000 in
set_option maxRecDepth 100000 in
theorem kX3_ownerOf_1_0 (l : Launch) (D : va_G) (ca : Nat → ClassId) (za h : Nat → Nat) (hh : sgH 52 h) (f : sg_F) (L : sg_L) (Q : sg_Q) (hI : sgI loX hiX f) (sz : Nat) : Met l yX3_ownerOf gwX3_ownerOf { frames := 0, cells := 0, slots := 0, locals := 0 } (sgP D vwCl (tyX ca) 52 h (eX ca h) zcX za f L Q sz [.int 1, .int 0]) (sgQi D vwCl 52 h (eX ca h) sz (fun r f1 L1 Q1 => ((f1 = f ∧ L1 = L ∧ Q1 = Q) ∧ (1 ≤ r.toInt ∧ r.toInt ≤ 1) ∧ (r) = sX3_ownerOf_1_0 f L))) 0 0 (sgA 52 h sz) := by
  refine sg_ofWi (cc := cX3_ownerOf) (maxL := 4) RX3 (by decide) rfl rfl (Nat.le_of_ble_eq_true rfl) ?_
  intro p e s m below meth cd Qz ls hx hb hml hown hts hK hZ hP hS hl hret
  have hA := sgY.self (n := 52) (h := h) (sz := s.heap.size)
  have hl : lv_has ls 4 [(0, .int 1), (1, .int 0)] := hl
  obtain ⟨H, hH⟩ : ∃ z : Heap, z = s.heap := ⟨_, rfl⟩
  obtain ⟨locs, hlo⟩ : ∃ z : List Loc, z = [] := ⟨_, rfl⟩
  have hP : va_P D vwCl (sgw 52 h (eX ca h) f L Q) H := by rw [hH]; exact hP
  have hS : va_S (sgA 52 h s.heap.size) s.heap H locs := by rw [hH, hlo]; exact hS
  suffices hgo : W p l e ({ frames := 0, cells := 0, slots := 0, locals := 0 }) s m ([.int 1, .int 0] : List Value).toArray below meth cd H locs 0 0 Qz (F0 m 0 ls []) by rw [hH, hlo] at hgo; exact hgo
  clear hH hlo
  obtain ⟨sp, hsp⟩ : ∃ z : Int32, z = sX3_ownerOf_1_0 f L := ⟨_, rfl⟩
  have hs : sp = sX3_ownerOf_1_0 f L := hsp
  refine lv_iload_n hx hb dX3_ownerOf_0 rfl (lv_at hl 0 rfl) ?_
  refine lv_istore_n (lv' := [(2, .int 1), (0, .int 1), (1, .int 0)]) hx hb dX3_ownerOf_1 rfl hl (by decide) rfl (fun ls hl => ?_)
  refine lv_iconst (v := 0) hx hb dX3_ownerOf_2 ic_0 ?_
  refine lv_istore_n (lv' := [(3, .int 0), (2, .int 1), (0, .int 1), (1, .int 0)]) hx hb dX3_ownerOf_3 rfl hl (by decide) rfl (fun ls hl => ?_)
  refine lv_iload_n hx hb dX3_ownerOf_4 rfl (lv_at hl 0 rfl) ?_
  refine lv_bipush (v := 8) hx hb dX3_ownerOf_5 bp_8 ?_
  refine lv_icmp_ge (tgt := 40) hx hb dX3_ownerOf_7 (by decide) (fun c => absurd c (by decide)) (fun c => ?_)
  refine lv_iload_n hx hb dX3_ownerOf_10 rfl (lv_at hl 1 rfl) ?_
  refine lv_if_lt (tgt := 40) hx hb dX3_ownerOf_11 (by decide) (fun c => absurd c (by decide)) (fun c => ?_)
  refine sg_gets hx hb hZ 3 rfl hS hown (hts _ (List.mem_cons_of_mem _ mw_173)) (fun _ h9 => h9) dX3_ownerOf_14 ?_
  refine lv_iload_n hx hb dX3_ownerOf_17 rfl (lv_at hl 1 rfl) ?_
  refine lv_iconst (v := 4) hx hb dX3_ownerOf_18 ic_4 ?_
  refine lv_imul hx hb dX3_ownerOf_19 ?_
  refine W.eq (g2 := F0 m 20 ls [.int 4, .ref (za 3)]) (by rw [show (1 * 4 : Int32) = 4 from by decide]) ?_
  refine lv_iload_n hx hb dX3_ownerOf_20 rfl (lv_at hl 3 rfl) ?_
  refine lv_iadd hx hb dX3_ownerOf_21 ?_
  refine W.eq (g2 := F0 m 22 ls [.int 4, .ref (za 3)]) (by rw [show (4 + 0 : Int32) = 4 from by decide]) ?_
  refine sg_sald hx hb hZ 3 rfl hS (y := 4) (N := 32) (vp_in_iff.mpr (by decide)) dX3_ownerOf_22 ?_
  refine W.eq (g2 := F0 m 23 ls [.int 20]) (by rfl) ?_
  refine lv_if_eq (tgt := 28) hx hb dX3_ownerOf_23 (by decide) (fun c => absurd c (by decide)) (fun c => ?_)
  refine lv_iload_n hx hb dX3_ownerOf_26 rfl (lv_at hl 1 rfl) ?_
  have k99 : (1 : Int32).toInt = 1 := ti_1
  exact hret _ _ _ _ (1) f L Q dX3_ownerOf_27 hP hS ⟨⟨rfl, rfl, rfl⟩, (by decide), (Eq.trans (Eq.symm hs) hsp)⟩

set_option maxHeartbeats 4000000 in
set_option maxRecDepth 100000 in
theorem kX3_runs_1_m1_2_f2_f1 (l : Launch) (D : va_G) (ca : Nat → ClassId) (za h : Nat → Nat) (hh : sgH 52 h) (f : sg_F) (L : sg_L) (Q : sg_Q) (hI : sgI loX hiX f) (x2 : Int32) (hf_36_3 : f 36 3 = 2) (hf_36_4 : f 36 4 = 1) (p0 : 2 ≤ (f 36 3).toInt ∧ (f 36 3).toInt ≤ 2) (sz : Nat) : Met l yX3_runs gwX3_runs { frames := 0, cells := 0, slots := 0, locals := 0 } (sgP D vwCl (tyX ca) 52 h (eX ca h) zcX za f L Q sz [.ref (h 36), .int 1, .int (-1), .int x2, .int 2]) (sgQi D vwCl 52 h (eX ca h) sz (fun r f1 L1 Q1 => ((f1 = f ∧ L1 = L ∧ Q1 = Q) ∧ True ∧ (2 ≤ (f1 36 3).toInt ∧ (f1 36 3).toInt ≤ 2) ∧ (r) = sX3_runs_1_m1_2_f2_f1 x2 f L))) 0 0 (sgA 52 h sz) := by
  refine sg_ofWi (cc := cX3_runs) (maxL := 5) RX3 (by decide) rfl rfl (Nat.le_of_ble_eq_true rfl) ?_
  intro p e s m below meth cd Qz ls hx hb hml hown hts hK hZ hP hS hl hret
  have hA := sgY.self (n := 52) (h := h) (sz := s.heap.size)
  have hl : lv_has ls 5 [(0, .ref (h 36)), (1, .int 1), (2, .int (-1)), (3, .int x2), (4, .int 2)] := hl
  obtain ⟨H, hH⟩ : ∃ z : Heap, z = s.heap := ⟨_, rfl⟩
  obtain ⟨locs, hlo⟩ : ∃ z : List Loc, z = [] := ⟨_, rfl⟩
  have hP : va_P D vwCl (sgw 52 h (eX ca h) f L Q) H := by rw [hH]; exact hP
  have hS : va_S (sgA 52 h s.heap.size) s.heap H locs := by rw [hH, hlo]; exact hS
  suffices hgo : W p l e ({ frames := 0, cells := 0, slots := 0, locals := 0 }) s m ([.ref (h 36), .int 1, .int (-1), .int x2, .int 2] : List Value).toArray below meth cd H locs 0 0 Qz (F0 m 0 ls []) by rw [hH, hlo] at hgo; exact hgo
  clear hH hlo
  obtain ⟨sp, hsp⟩ : ∃ z : Int32, z = sX3_runs_1_m1_2_f2_f1 x2 f L := ⟨_, rfl⟩
  have hs : sp = sX3_runs_1_m1_2_f2_f1 x2 f L := hsp
  have o_1 : (f 36 3).toInt = 2 := (congrArg Int32.toInt (show f 36 3 = 2 from hf_36_3)).trans (by decide)
  refine lv_iload_n hx hb dX3_runs_0 rfl (lv_at hl 1 rfl) ?_
  refine lv_lookup (x := 1) (off := 115) (tgt := 116) hx hb dX3_runs_1 (by decide) (by decide) (by decide) ?_
  refine lv_iload_n hx hb dX3_runs_116 rfl (lv_at hl 3 rfl) ?_
  refine lv_aload_n hx hb dX3_runs_117 rfl (lv_at hl 0 rfl) ?_
  refine sl_gX_36_5_3 (v := (f 36 5)) hx hb hts hown hK hP rfl dX3_runs_118 ?_
  refine lv_topi (fun v_2 ev_2 => ?_)
  have q_3 : 0 ≤ v_2.toInt ∧ v_2.toInt ≤ 49 := by rw [ev_2]; exact hI 36 5
  refine lv_iadd hx hb dX3_runs_121 ?_
  refine lv_topi (fun v_4 ev_4 => ?_)
  have q_5 : (f 36 3).toInt = 2 := (congrArg Int32.toInt (show f 36 3 = 2 from hf_36_3)).trans (by decide)
  exact hret _ _ _ _ (v_4) f L Q dX3_runs_122 hP hS ⟨⟨rfl, rfl, rfl⟩, trivial, ⟨by omega, by omega⟩, (Eq.trans (Eq.symm (hs.trans ((spl_e ev_2 (spl_e ev_4 rfl))))) hsp)⟩

abbrev WkX3_does_0_0_1_f1_f1 : List (Nat × Nat × Option Nat) := [(36, 36, some 3), (38, 38, some 1)]
set_option maxHeartbeats 4000000 in
set_option maxRecDepth 100000 in
theorem kX3_does_0_0_1_f1_f1 (l : Launch) (D : va_G) (ca : Nat → ClassId) (za h : Nat → Nat) (hh : sgH 52 h) (f : sg_F) (L : sg_L) (Q : sg_Q) (hI : sgI loX hiX f) (x2 : Int32) (hf_36_3 : f 36 3 = 1) (hf_36_4 : f 36 4 = 1) (p0 : 1 ≤ (f 36 3).toInt ∧ (f 36 3).toInt ≤ 1) (sz : Nat) : Met l yX3_does gwX3_does { frames := 1, cells := 0, slots := 0, locals := 24 } (sgP D vwCl (tyX ca) 52 h (eX ca h) zcX za f L Q sz [.ref (h 36), .int 0, .int 0, .int x2, .int 1]) (sgQi D vwCl 52 h (eX ca h) sz (fun r f1 L1 Q1 => ((sgI loX hiX f1 ∧ sgK WkX3_does_0_0_1_f1_f1 f f1 ∧ L1 = L ∧ Q1 = Q) ∧ True ∧ (2 ≤ (f1 36 3).toInt ∧ (f1 36 3).toInt ≤ 2) ∧ (r, f1) = sX3_does_0_0_1_f1_f1 x2 f L))) 0 0 (sgA 52 h sz) := by
  refine sg_ofWi (cc := cX3_does) (maxL := 7) RX3 (by decide) rfl rfl (Nat.le_of_ble_eq_true rfl) ?_
  intro p e s m below meth cd Qz ls hx hb hml hown hts hK hZ hP hS hl hret
  have hA := sgY.self (n := 52) (h := h) (sz := s.heap.size)
  have hl : lv_has ls 7 [(0, .ref (h 36)), (1, .int 0), (2, .int 0), (3, .int x2), (4, .int 1)] := hl
  obtain ⟨H, hH⟩ : ∃ z : Heap, z = s.heap := ⟨_, rfl⟩
  obtain ⟨locs, hlo⟩ : ∃ z : List Loc, z = [] := ⟨_, rfl⟩
  have hP : va_P D vwCl (sgw 52 h (eX ca h) f L Q) H := by rw [hH]; exact hP
  have hS : va_S (sgA 52 h s.heap.size) s.heap H locs := by rw [hH, hlo]; exact hS
  suffices hgo : W p l e ({ frames := 1, cells := 0, slots := 0, locals := 24 }) s m ([.ref (h 36), .int 0, .int 0, .int x2, .int 1] : List Value).toArray below meth cd H locs 0 0 Qz (F0 m 0 ls []) by rw [hH, hlo] at hgo; exact hgo
  clear hH hlo
  obtain ⟨sp, hsp⟩ : ∃ z : Int32 × sg_F, z = sX3_does_0_0_1_f1_f1 x2 f L := ⟨_, rfl⟩
  have hs : sp = sX3_does_0_0_1_f1_f1 x2 f L := hsp
  have o_1 : (f 36 3).toInt = 1 := (congrArg Int32.toInt (show f 36 3 = 1 from hf_36_3)).trans (by decide)
  have hF : sgK WkX3_does_0_0_1_f1_f1 f f := sgK.rf
  have blk_53 : ∀ (fp_53 : sg_F) (H : Heap) (locs : List Loc) (ls : Array Slot), sp = sX3_does_0_0_1_f1_f1_b53 x2 fp_53 L → 1 ≤ (fp_53 36 3).toInt ∧ (fp_53 36 3).toInt ≤ 1 → 1 ≤ (fp_53 36 4).toInt ∧ (fp_53 36 4).toInt ≤ 1 → sgI loX hiX fp_53 → sgK WkX3_does_0_0_1_f1_f1 f fp_53 → va_P D vwCl (sgw 52 h (eX ca h) fp_53 L Q) H → va_S (sgA 52 h s.heap.size) s.heap H locs → lv_has ls 7 [(0, .ref (h 36)), (3, .int x2), (4, .int 1), (5, .int 0), (6, .int 1)] → W p l e ({ frames := 1, cells := 0, slots := 0, locals := 24 }) s m ([.ref (h 36), .int 0, .int 0, .int x2, .int 1] : List Value).toArray below meth cd H locs 0 0 Qz (F0 m 53 ls []) := by
    intro fp_53 H locs ls hs hy0_53 hy1_53 hI hF hP hS hl
    obtain ⟨v_2, ev_2⟩ : ∃ z : Int32, z = fp_53 36 3 := ⟨_, rfl⟩
    have q_3 : 0 ≤ v_2.toInt ∧ v_2.toInt ≤ 19 := by rw [ev_2]; exact hI 36 3
    have q_4 : (fp_53 36 3).toInt = v_2.toInt := by rw [ev_2]
    obtain ⟨v_5, ev_5⟩ : ∃ z : Int32, z = fp_53 36 4 := ⟨_, rfl⟩
    have q_6 : 0 ≤ v_5.toInt ∧ v_5.toInt ≤ 7 := by rw [ev_5]; exact hI 36 4
    have q_7 : (fp_53 36 4).toInt = v_5.toInt := by rw [ev_5]
    have m_8 : fp_53 36 4 = 1 := (hF 36 4 (by decide)).trans hf_36_4
    refine lv_aload_n hx hb dX3_does_53 rfl (lv_at hl 0 rfl) ?_
    refine lv_dup hx hb dX3_does_54 rfl ?_
    refine sl_gX_36_3_3 (v := v_2) hx hb hts hown hK hP (show fp_53 36 3 = v_2 from ev_2.symm) dX3_does_55 ?_
    refine lv_iconst (v := 1) hx hb dX3_does_58 ic_1 ?_
    refine lv_iadd hx hb dX3_does_59 ?_
    refine lv_topi (fun v_9 ev_9 => ?_)
    have q_10 : v_9.toInt = v_2.toInt + 1 := by rw [ev_9]; first | exact cm_add ti_1 (by omega) (by omega) | (have k1 : (1 : Int32).toInt = 1 := ti_1; exact (bn_addI (by omega) (by omega)).trans (by omega))
    refine sl_pX_36_3_3 (x := v_9) hx hb hts hown hh hA hK hP hS dX3_does_60 (fun f_11 H locs ef_11 hP hS => ?_)
    have hI : sgI loX hiX f_11 := by rw [ef_11]; exact sgI.put hI 36 3 (show 0 ≤ (v_9 : Int32).toInt ∧ (v_9 : Int32).toInt ≤ 19 from ⟨by omega, by omega⟩)
    have hF : sgK WkX3_does_0_0_1_f1_f1 f f_11 := sgK.put hF ef_11 (by rfl)
    refine lv_aload_n hx hb dX3_does_63 rfl (lv_at hl 0 rfl) ?_
    refine lv_iload hx hb dX3_does_64 (lv_at hl 4 rfl) ?_
    refine sg_gets hx hb hZ 2 rfl hS hown (hts _ (List.mem_cons_of_mem _ mw_174)) (fun _ h9 => h9) dX3_does_66 ?_
    refine lv_iload hx hb dX3_does_69 (lv_at hl 3 rfl) ?_
    refine sg_sald hx hb hZ 2 rfl hS (y := 0) (N := 8) (vp_in_iff.mpr (by decide)) dX3_does_71 ?_
    refine W.eq (g2 := F0 m 72 ls [.int (-1), .int 1, .ref (h 36)]) (by rfl) ?_
    refine lv_iload_n hx hb dX3_does_72 rfl (lv_at hl 1 rfl) ?_
    refine lv_iload hx hb dX3_does_73 (lv_at hl 2 rfl) ?_
    refine lv_iconst (v := 1) hx hb dX3_does_75 ic_1 ?_
    refine lv_iadd hx hb dX3_does_76 ?_
    refine W.eq (g2 := F0 m 77 ls [.int 2, .int x2, .int (-1), .int 1, .ref (h 36)]) (by rw [show (1 + 1 : Int32) = 2 from by decide]) ?_
    have c_12 : v_9 = 2 := Int32.toInt_inj.mp (by have k9 : (2 : Int32).toInt = 2 := ti_2; omega)
    have q_13 : (f_11 36 3).toInt = 2 := (congrArg Int32.toInt (show f_11 36 3 = 2 from (Eq.trans (by rw [ef_11, sg_up_s, sgu_s]) c_12))).trans (by decide)
    refine sg_calli (va_runV (As := [.int 1, .int (-1), .int x2, .int 2]) (rest := []) ⟨hx, hb, hml, hown, hts⟩ (kX3_runs_1_m1_2_f2_f1 l D ca za h hh f_11 L Q hI x2 (Eq.trans (by rw [ef_11, sg_up_s, sgu_s]) c_12) (by rw [ef_11, sg_up_s, sgu_n (by decide)]; exact m_8) (by have k0 : (1 : Int32).toInt = 1 := ti_1; have k1 : ((-1) : Int32).toInt = (-1) := ti_m1; have k3 : (2 : Int32).toInt = 2 := ti_2; omega) H.size) (sl_c3_runs_0_0_0_0_3 hts ⟨Nat.le_of_ble_eq_true rfl, Nat.le_of_ble_eq_true rfl⟩) (sl_vX_36 hA hK hP hS hZ) rfl rfl hl.1 rfl (lv_room (Nat.le_of_ble_eq_true rfl)) dX3_does_77 ⟨Nat.le_refl _, Nat.le_refl _⟩) hA hS (fun r_18 f_15 L_16 Q_17 H locs hq hP hS => ?_)
    obtain ⟨⟨ef9, eL9, eQ9⟩, hq, p_19, u_20⟩ := hq
    rw [ef9, eL9, eQ9] at hP; clear ef9 eL9 eQ9
    have k_23 : (1 : Int32).toInt = 1 := by decide
    have k_24 : ((-1) : Int32).toInt = (-1) := by decide
    have k_25 : (2 : Int32).toInt = 2 := by decide
    exact hret _ _ _ _ (r_18) f_11 L Q dX3_does_80 hP hS ⟨⟨hI, hF, rfl, rfl⟩, trivial, ⟨by omega, by omega⟩, (Eq.trans (Eq.symm (hs.trans ((spl_e ev_2 (spl_e ev_5 (spl_e ev_9 (spl_e ef_11 (spl_e u_20 rfl)))))))) hsp)⟩
  refine lv_iload_n hx hb dX3_does_0 rfl (lv_at hl 1 rfl) ?_
  refine lv_iload_n hx hb dX3_does_1 rfl (lv_at hl 2 rfl) ?_
  refine sg_calli (va_runS (As := [.int 0, .int 0]) (rest := []) ⟨hx, hb, hml, hown, hts⟩ (kX3_ownerOf_0_0 l D ca za h hh f L Q hI H.size) (va_cwS 2 hts (gw_S (fun _ h => List.mem_cons_of_mem _ h) mw_189 mw_190 mw_47 mw_188) rfl rfl rfl hd_yX3_ownerOf.2 ⟨Nat.le_of_ble_eq_true rfl, Nat.le_of_ble_eq_true rfl⟩) (sg_preS hA hK hP hS hZ) rfl rfl hl.1 rfl (lv_room (Nat.le_of_ble_eq_true rfl)) dX3_does_2 ⟨Nat.le_refl _, Nat.le_refl _⟩) hA hS (fun r_31 f_28 L_29 Q_30 H locs hq hP hS => ?_)
  obtain ⟨⟨ef9, eL9, eQ9⟩, hq, u_32⟩ := hq
  rw [ef9, eL9, eQ9] at hP; clear ef9 eL9 eQ9
  obtain rfl : r_31 = 0 := Int32.toInt_inj.mp (by have k9 : (0 : Int32).toInt = 0 := ti_0; omega)
  refine lv_istore (lv' := [(5, .int 0), (0, .ref (h 36)), (1, .int 0), (2, .int 0), (3, .int x2), (4, .int 1)]) hx hb dX3_does_5 hl (by decide) rfl (fun ls hl => ?_)
  refine lv_iload hx hb dX3_does_7 (lv_at hl 0 rfl) ?_
  refine lv_if_lt (tgt := 19) hx hb dX3_does_9 (by decide) (fun c => absurd c (by decide)) (fun c => ?_)
  refine lv_iload hx hb dX3_does_12 (lv_at hl 5 rfl) ?_
  refine lv_bipush (v := 40) hx hb dX3_does_14 bp_40 ?_
  refine lv_icmp_le (tgt := 21) hx hb dX3_does_16 (by decide) (fun c => ?_) (fun c => absurd c (by decide))
  refine sg_gets hx hb hZ 3 rfl hS hown (hts _ (List.mem_cons_of_mem _ mw_173)) (fun _ h9 => h9) dX3_does_21 ?_
  refine lv_iload hx hb dX3_does_24 (lv_at hl 0 rfl) ?_
  refine lv_iconst (v := 4) hx hb dX3_does_26 ic_4 ?_
  refine lv_imul hx hb dX3_does_27 ?_
  refine W.eq (g2 := F0 m 28 ls [.int 0, .ref (za 3)]) (by rw [show (0 * 4 : Int32) = 0 from by decide]) ?_
  refine lv_iload_n hx hb dX3_does_28 rfl (lv_at hl 3 rfl) ?_
  refine lv_iadd hx hb dX3_does_29 ?_
  refine W.eq (g2 := F0 m 30 ls [.int 0, .ref (za 3)]) (by rw [show (0 + 0 : Int32) = 0 from by decide]) ?_
  refine sg_sald hx hb hZ 3 rfl hS (y := 0) (N := 32) (vp_in_iff.mpr (by decide)) dX3_does_30 ?_
  refine W.eq (g2 := F0 m 31 ls [.int 1]) (by rfl) ?_
  refine lv_istore (lv' := [(6, .int 1), (5, .int 0), (0, .ref (h 36)), (1, .int 0), (2, .int 0), (3, .int x2), (4, .int 1)]) hx hb dX3_does_31 hl (by decide) rfl (fun ls hl => ?_)
  refine lv_aload_n hx hb dX3_does_33 rfl (lv_at hl 2 rfl) ?_
  refine sl_gX_36_3_3 (v := 1) hx hb hts hown hK hP (show f 36 3 = 1 from hf_36_3) dX3_does_34 ?_
  refine lv_bipush (v := 24) hx hb dX3_does_37 bp_24 ?_
  refine lv_icmp_ge (tgt := 53) hx hb dX3_does_39 (by decide) (fun c => absurd c (by decide)) (fun c => ?_)
  refine lv_aload_n hx hb dX3_does_42 rfl (lv_at hl 2 rfl) ?_
  refine sl_gX_36_1_3 hx hb hts hown hK hP dX3_does_43 ?_
  refine lv_aload_n hx hb dX3_does_46 rfl (lv_at hl 2 rfl) ?_
  refine sl_gX_36_3_3 (v := 1) hx hb hts hown hK hP (show f 36 3 = 1 from hf_36_3) dX3_does_47 ?_
  refine lv_iload hx hb dX3_does_50 (lv_at hl 0 rfl) ?_
  refine sg_iast hx hb hh hA hK hP hS 38 (by decide) 0 (fun _ => rfl) rfl (i := 1) (x := 1) (vp_in_iff.mpr (by decide)) dX3_does_52 (fun f_33 H locs ef_33 hP hS => ?_)
  have ef_33 : f_33 = sg_up f 38 (sgu (f 38) 1 1) := ef_33
  have hI : sgI loX hiX f_33 := by rw [ef_33]; exact sgI.put hI 38 1 (show 0 ≤ (1 : Int32).toInt ∧ (1 : Int32).toInt ≤ 81 from by decide)
  have hF : sgK WkX3_does_0_0_1_f1_f1 f f_33 := sgK.put hF ef_33 (by rfl)
  exact blk_53 f_33 _ _ _ (hs.trans ((spl_e u_32 (spl_e ef_33 rfl)))) (by have zz36_3 : (f_33 36 3).toInt = 1 := (congrArg Int32.toInt (show f_33 36 3 = 1 from (by rw [ef_33, sg_up_n (by decide)]; exact hf_36_3))).trans (by decide); exact ⟨by omega, by omega⟩) (by have zz36_4 : (f_33 36 4).toInt = 1 := (congrArg Int32.toInt (show f_33 36 4 = 1 from (by rw [ef_33, sg_up_n (by decide)]; exact hf_36_4))).trans (by decide); exact ⟨by omega, by omega⟩) hI hF hP hS (lv_sub hl [2, 5, 6, 1, 0] rfl)

abbrev WkX3_runs_20_0_1_f1_f1 : List (Nat × Nat × Option Nat) := [(36, 36, some 3), (38, 38, some 1)]
set_option maxHeartbeats 4000000 in
set_option maxRecDepth 100000 in
theorem kX3_runs_20_0_1_f1_f1 (l : Launch) (D : va_G) (ca : Nat → ClassId) (za h : Nat → Nat) (hh : sgH 52 h) (f : sg_F) (L : sg_L) (Q : sg_Q) (hI : sgI loX hiX f) (x2 : Int32) (hf_36_3 : f 36 3 = 1) (hf_36_4 : f 36 4 = 1) (p0 : 1 ≤ (f 36 3).toInt ∧ (f 36 3).toInt ≤ 1) (sz : Nat) : Met l yX3_runs gwX3_runs { frames := 2, cells := 0, slots := 0, locals := 50 } (sgP D vwCl (tyX ca) 52 h (eX ca h) zcX za f L Q sz [.ref (h 36), .int 20, .int 0, .int x2, .int 1]) (sgQi D vwCl 52 h (eX ca h) sz (fun r f1 L1 Q1 => ((sgI loX hiX f1 ∧ sgK WkX3_runs_20_0_1_f1_f1 f f1 ∧ L1 = L ∧ Q1 = Q) ∧ True ∧ (2 ≤ (f1 36 3).toInt ∧ (f1 36 3).toInt ≤ 2) ∧ (r, f1) = sX3_runs_20_0_1_f1_f1 x2 f L))) 0 0 (sgA 52 h sz) := by
  refine sg_ofWi (cc := cX3_runs) (maxL := 5) RX3 (by decide) rfl rfl (Nat.le_of_ble_eq_true rfl) ?_
  intro p e s m below meth cd Qz ls hx hb hml hown hts hK hZ hP hS hl hret
  have hA := sgY.self (n := 52) (h := h) (sz := s.heap.size)
  have hl : lv_has ls 5 [(0, .ref (h 36)), (1, .int 20), (2, .int 0), (3, .int x2), (4, .int 1)] := hl
  obtain ⟨H, hH⟩ : ∃ z : Heap, z = s.heap := ⟨_, rfl⟩
  obtain ⟨locs, hlo⟩ : ∃ z : List Loc, z = [] := ⟨_, rfl⟩
  have hP : va_P D vwCl (sgw 52 h (eX ca h) f L Q) H := by rw [hH]; exact hP
  have hS : va_S (sgA 52 h s.heap.size) s.heap H locs := by rw [hH, hlo]; exact hS
  suffices hgo : W p l e ({ frames := 2, cells := 0, slots := 0, locals := 50 }) s m ([.ref (h 36), .int 20, .int 0, .int x2, .int 1] : List Value).toArray below meth cd H locs 0 0 Qz (F0 m 0 ls []) by rw [hH, hlo] at hgo; exact hgo
  clear hH hlo
  obtain ⟨sp, hsp⟩ : ∃ z : Int32 × sg_F, z = sX3_runs_20_0_1_f1_f1 x2 f L := ⟨_, rfl⟩
  have hs : sp = sX3_runs_20_0_1_f1_f1 x2 f L := hsp
  have o_1 : (f 36 3).toInt = 1 := (congrArg Int32.toInt (show f 36 3 = 1 from hf_36_3)).trans (by decide)
  have hF : sgK WkX3_runs_20_0_1_f1_f1 f f := sgK.rf
  refine lv_iload_n hx hb dX3_runs_0 rfl (lv_at hl 1 rfl) ?_
  refine lv_lookup (x := 20) (off := 170) (tgt := 171) hx hb dX3_runs_1 (by decide) (by decide) (by decide) ?_
  refine lv_aload_n hx hb dX3_runs_171 rfl (lv_at hl 0 rfl) ?_
  refine lv_iload_n hx hb dX3_runs_172 rfl (lv_at hl 2 rfl) ?_
  refine lv_iconst (v := 0) hx hb dX3_runs_173 ic_0 ?_
  refine lv_iload_n hx hb dX3_runs_174 rfl (lv_at hl 3 rfl) ?_
  refine lv_iload hx hb dX3_runs_175 (lv_at hl 4 rfl) ?_
  have q_2 : (f 36 3).toInt = 1 := (congrArg Int32.toInt (show f 36 3 = 1 from hf_36_3)).trans (by decide)
  refine sg_calli (va_runV (As := [.int 0, .int 0, .int x2, .int 1]) (rest := []) ⟨hx, hb, hml, hown, hts⟩ (kX3_does_0_0_1_f1_f1 l D ca za h hh f L Q hI x2 hf_36_3 hf_36_4 (by have k0 : (0 : Int32).toInt = 0 := ti_0; have k1 : (0 : Int32).toInt = 0 := ti_0; have k3 : (1 : Int32).toInt = 1 := ti_1; omega) H.size) (sl_c3_does_1_0_0_24_3 hts ⟨Nat.le_of_ble_eq_true rfl, Nat.le_of_ble_eq_true rfl⟩) (sl_vX_36 hA hK hP hS hZ) rfl rfl hl.1 rfl (lv_room (Nat.le_of_ble_eq_true rfl)) dX3_runs_177 ⟨Nat.le_refl _, Nat.le_refl _⟩) hA hS (fun r_7 f_4 L_5 Q_6 H locs hq hP hS => ?_)
  obtain ⟨⟨hI, hk_f_4, eL9, eQ9⟩, hq, p_8, u_9⟩ := hq
  rw [eL9, eQ9] at hP; clear eL9 eQ9
  have hF : sgK WkX3_runs_20_0_1_f1_f1 f f_4 := sgK.tr hF hk_f_4 (by decide +kernel)
  obtain ⟨v_10, ev_10⟩ : ∃ z : Int32, z = f_4 36 3 := ⟨_, rfl⟩
  have q_11 : 0 ≤ v_10.toInt ∧ v_10.toInt ≤ 19 := by rw [ev_10]; exact hI 36 3
  have q_12 : (f_4 36 3).toInt = v_10.toInt := (congrArg Int32.toInt (show f_4 36 3 = v_10 from ev_10.symm))
  have k_14 : (0 : Int32).toInt = 0 := by decide
  have k_15 : (0 : Int32).toInt = 0 := by decide
  have k_16 : (1 : Int32).toInt = 1 := by decide
  refine lv_iconst (v := 3) hx hb dX3_runs_180 ic_3 ?_
  refine lv_iadd hx hb dX3_runs_181 ?_
  refine lv_topi (fun v_17 ev_17 => ?_)
  exact hret _ _ _ _ (v_17) f_4 L Q dX3_runs_182 hP hS ⟨⟨hI, hF, rfl, rfl⟩, trivial, ⟨by omega, by omega⟩, (Eq.trans (Eq.symm (hs.trans ((spl2_e u_9 (spl_e ev_10 (spl_e ev_17 rfl)))))) hsp)⟩

abbrev WkX3_does_1_0_0_f0_f1 : List (Nat × Nat × Option Nat) := [(36, 36, some 3), (38, 38, some 0), (38, 38, some 1)]
set_option maxHeartbeats 4000000 in
set_option maxRecDepth 100000 in
theorem kX3_does_1_0_0_f0_f1 (l : Launch) (D : va_G) (ca : Nat → ClassId) (za h : Nat → Nat) (hh : sgH 52 h) (f : sg_F) (L : sg_L) (Q : sg_Q) (hI : sgI loX hiX f) (x2 : Int32) (hf_36_3 : f 36 3 = 0) (hf_36_4 : f 36 4 = 1) (p0 : 0 ≤ (f 36 3).toInt ∧ (f 36 3).toInt ≤ 0) (sz : Nat) : Met l yX3_does gwX3_does { frames := 3, cells := 0, slots := 0, locals := 74 } (sgP D vwCl (tyX ca) 52 h (eX ca h) zcX za f L Q sz [.ref (h 36), .int 1, .int 0, .int x2, .int 0]) (sgQi D vwCl 52 h (eX ca h) sz (fun r f1 L1 Q1 => ((sgI loX hiX f1 ∧ sgK WkX3_does_1_0_0_f0_f1 f f1 ∧ L1 = L ∧ Q1 = Q) ∧ True ∧ (2 ≤ (f1 36 3).toInt ∧ (f1 36 3).toInt ≤ 2) ∧ (r, f1) = sX3_does_1_0_0_f0_f1 x2 f L))) 0 0 (sgA 52 h sz) := by
  refine sg_ofWi (cc := cX3_does) (maxL := 7) RX3 (by decide) rfl rfl (Nat.le_of_ble_eq_true rfl) ?_
  intro p e s m below meth cd Qz ls hx hb hml hown hts hK hZ hP hS hl hret
  have hA := sgY.self (n := 52) (h := h) (sz := s.heap.size)
  have hl : lv_has ls 7 [(0, .ref (h 36)), (1, .int 1), (2, .int 0), (3, .int x2), (4, .int 0)] := hl
  obtain ⟨H, hH⟩ : ∃ z : Heap, z = s.heap := ⟨_, rfl⟩
  obtain ⟨locs, hlo⟩ : ∃ z : List Loc, z = [] := ⟨_, rfl⟩
  have hP : va_P D vwCl (sgw 52 h (eX ca h) f L Q) H := by rw [hH]; exact hP
  have hS : va_S (sgA 52 h s.heap.size) s.heap H locs := by rw [hH, hlo]; exact hS
  suffices hgo : W p l e ({ frames := 3, cells := 0, slots := 0, locals := 74 }) s m ([.ref (h 36), .int 1, .int 0, .int x2, .int 0] : List Value).toArray below meth cd H locs 0 0 Qz (F0 m 0 ls []) by rw [hH, hlo] at hgo; exact hgo
  clear hH hlo
  obtain ⟨sp, hsp⟩ : ∃ z : Int32 × sg_F, z = sX3_does_1_0_0_f0_f1 x2 f L := ⟨_, rfl⟩
  have hs : sp = sX3_does_1_0_0_f0_f1 x2 f L := hsp
  have o_1 : (f 36 3).toInt = 0 := (congrArg Int32.toInt (show f 36 3 = 0 from hf_36_3)).trans (by decide)
  have hF : sgK WkX3_does_1_0_0_f0_f1 f f := sgK.rf
  have blk_53 : ∀ (fp_53 : sg_F) (H : Heap) (locs : List Loc) (ls : Array Slot), sp = sX3_does_1_0_0_f0_f1_b53 x2 fp_53 L → 0 ≤ (fp_53 36 3).toInt ∧ (fp_53 36 3).toInt ≤ 0 → 1 ≤ (fp_53 36 4).toInt ∧ (fp_53 36 4).toInt ≤ 1 → sgI loX hiX fp_53 → sgK WkX3_does_1_0_0_f0_f1 f fp_53 → va_P D vwCl (sgw 52 h (eX ca h) fp_53 L Q) H → va_S (sgA 52 h s.heap.size) s.heap H locs → lv_has ls 7 [(0, .ref (h 36)), (3, .int x2), (4, .int 0), (5, .int 1), (6, .int 20)] → W p l e ({ frames := 3, cells := 0, slots := 0, locals := 74 }) s m ([.ref (h 36), .int 1, .int 0, .int x2, .int 0] : List Value).toArray below meth cd H locs 0 0 Qz (F0 m 53 ls []) := by
    intro fp_53 H locs ls hs hy0_53 hy1_53 hI hF hP hS hl
    obtain ⟨v_2, ev_2⟩ : ∃ z : Int32, z = fp_53 36 3 := ⟨_, rfl⟩
    have q_3 : 0 ≤ v_2.toInt ∧ v_2.toInt ≤ 19 := by rw [ev_2]; exact hI 36 3
    have q_4 : (fp_53 36 3).toInt = v_2.toInt := by rw [ev_2]
    obtain ⟨v_5, ev_5⟩ : ∃ z : Int32, z = fp_53 36 4 := ⟨_, rfl⟩
    have q_6 : 0 ≤ v_5.toInt ∧ v_5.toInt ≤ 7 := by rw [ev_5]; exact hI 36 4
    have q_7 : (fp_53 36 4).toInt = v_5.toInt := by rw [ev_5]
    have m_8 : fp_53 36 4 = 1 := (hF 36 4 (by decide)).trans hf_36_4
    refine lv_aload_n hx hb dX3_does_53 rfl (lv_at hl 0 rfl) ?_
    refine lv_dup hx hb dX3_does_54 rfl ?_
    refine sl_gX_36_3_3 (v := v_2) hx hb hts hown hK hP (show fp_53 36 3 = v_2 from ev_2.symm) dX3_does_55 ?_
    refine lv_iconst (v := 1) hx hb dX3_does_58 ic_1 ?_
    refine lv_iadd hx hb dX3_does_59 ?_
    refine lv_topi (fun v_9 ev_9 => ?_)
    have q_10 : v_9.toInt = v_2.toInt + 1 := by rw [ev_9]; first | exact cm_add ti_1 (by omega) (by omega) | (have k1 : (1 : Int32).toInt = 1 := ti_1; exact (bn_addI (by omega) (by omega)).trans (by omega))
    refine sl_pX_36_3_3 (x := v_9) hx hb hts hown hh hA hK hP hS dX3_does_60 (fun f_11 H locs ef_11 hP hS => ?_)
    have hI : sgI loX hiX f_11 := by rw [ef_11]; exact sgI.put hI 36 3 (show 0 ≤ (v_9 : Int32).toInt ∧ (v_9 : Int32).toInt ≤ 19 from ⟨by omega, by omega⟩)
    have hF : sgK WkX3_does_1_0_0_f0_f1 f f_11 := sgK.put hF ef_11 (by rfl)
    refine lv_aload_n hx hb dX3_does_63 rfl (lv_at hl 0 rfl) ?_
    refine lv_iload hx hb dX3_does_64 (lv_at hl 4 rfl) ?_
    refine sg_gets hx hb hZ 2 rfl hS hown (hts _ (List.mem_cons_of_mem _ mw_174)) (fun _ h9 => h9) dX3_does_66 ?_
    refine lv_iload hx hb dX3_does_69 (lv_at hl 3 rfl) ?_
    refine sg_sald hx hb hZ 2 rfl hS (y := 1) (N := 8) (vp_in_iff.mpr (by decide)) dX3_does_71 ?_
    refine W.eq (g2 := F0 m 72 ls [.int 0, .int 20, .ref (h 36)]) (by rfl) ?_
    refine lv_iload_n hx hb dX3_does_72 rfl (lv_at hl 1 rfl) ?_
    refine lv_iload hx hb dX3_does_73 (lv_at hl 2 rfl) ?_
    refine lv_iconst (v := 1) hx hb dX3_does_75 ic_1 ?_
    refine lv_iadd hx hb dX3_does_76 ?_
    refine W.eq (g2 := F0 m 77 ls [.int 1, .int x2, .int 0, .int 20, .ref (h 36)]) (by rw [show (0 + 1 : Int32) = 1 from by decide]) ?_
    have c_12 : v_9 = 1 := Int32.toInt_inj.mp (by have k9 : (1 : Int32).toInt = 1 := ti_1; omega)
    have q_13 : (f_11 36 3).toInt = 1 := (congrArg Int32.toInt (show f_11 36 3 = 1 from (Eq.trans (by rw [ef_11, sg_up_s, sgu_s]) c_12))).trans (by decide)
    refine sg_calli (va_runV (As := [.int 20, .int 0, .int x2, .int 1]) (rest := []) ⟨hx, hb, hml, hown, hts⟩ (kX3_runs_20_0_1_f1_f1 l D ca za h hh f_11 L Q hI x2 (Eq.trans (by rw [ef_11, sg_up_s, sgu_s]) c_12) (by rw [ef_11, sg_up_s, sgu_n (by decide)]; exact m_8) (by have k0 : (20 : Int32).toInt = 20 := ti_20; have k1 : (0 : Int32).toInt = 0 := ti_0; have k3 : (1 : Int32).toInt = 1 := ti_1; omega) H.size) (sl_c3_runs_2_0_0_50_3 hts ⟨Nat.le_of_ble_eq_true rfl, Nat.le_of_ble_eq_true rfl⟩) (sl_vX_36 hA hK hP hS hZ) rfl rfl hl.1 rfl (lv_room (Nat.le_of_ble_eq_true rfl)) dX3_does_77 ⟨Nat.le_refl _, Nat.le_refl _⟩) hA hS (fun r_18 f_15 L_16 Q_17 H locs hq hP hS => ?_)
    obtain ⟨⟨hI, hk_f_15, eL9, eQ9⟩, hq, p_19, u_20⟩ := hq
    rw [eL9, eQ9] at hP; clear eL9 eQ9
    have hF : sgK WkX3_does_1_0_0_f0_f1 f f_15 := sgK.tr hF hk_f_15 (by decide +kernel)
    obtain ⟨v_21, ev_21⟩ : ∃ z : Int32, z = f_15 36 3 := ⟨_, rfl⟩
    have q_22 : 0 ≤ v_21.toInt ∧ v_21.toInt ≤ 19 := by rw [ev_21]; exact hI 36 3
    have q_23 : (f_15 36 3).toInt = v_21.toInt := (congrArg Int32.toInt (show f_15 36 3 = v_21 from ev_21.symm))
    have k_25 : (20 : Int32).toInt = 20 := by decide
    have k_26 : (0 : Int32).toInt = 0 := by decide
    have k_27 : (1 : Int32).toInt = 1 := by decide
    exact hret _ _ _ _ (r_18) f_15 L Q dX3_does_80 hP hS ⟨⟨hI, hF, rfl, rfl⟩, trivial, ⟨by omega, by omega⟩, (Eq.trans (Eq.symm (hs.trans ((spl_e ev_2 (spl_e ev_5 (spl_e ev_9 (spl_e ef_11 (spl2_e u_20 (spl_e ev_21 rfl))))))))) hsp)⟩
  refine lv_iload_n hx hb dX3_does_0 rfl (lv_at hl 1 rfl) ?_
  refine lv_iload_n hx hb dX3_does_1 rfl (lv_at hl 2 rfl) ?_
  refine sg_calli (va_runS (As := [.int 1, .int 0]) (rest := []) ⟨hx, hb, hml, hown, hts⟩ (kX3_ownerOf_1_0 l D ca za h hh f L Q hI H.size) (va_cwS 2 hts (gw_S (fun _ h => List.mem_cons_of_mem _ h) mw_189 mw_190 mw_47 mw_188) rfl rfl rfl hd_yX3_ownerOf.2 ⟨Nat.le_of_ble_eq_true rfl, Nat.le_of_ble_eq_true rfl⟩) (sg_preS hA hK hP hS hZ) rfl rfl hl.1 rfl (lv_room (Nat.le_of_ble_eq_true rfl)) dX3_does_2 ⟨Nat.le_refl _, Nat.le_refl _⟩) hA hS (fun r_33 f_30 L_31 Q_32 H locs hq hP hS => ?_)
  obtain ⟨⟨ef9, eL9, eQ9⟩, hq, u_34⟩ := hq
  rw [ef9, eL9, eQ9] at hP; clear ef9 eL9 eQ9
  obtain rfl : r_33 = 1 := Int32.toInt_inj.mp (by have k9 : (1 : Int32).toInt = 1 := ti_1; omega)
  refine lv_istore (lv' := [(5, .int 1), (0, .ref (h 36)), (1, .int 1), (2, .int 0), (3, .int x2), (4, .int 0)]) hx hb dX3_does_5 hl (by decide) rfl (fun ls hl => ?_)
  refine lv_iload hx hb dX3_does_7 (lv_at hl 0 rfl) ?_
  refine lv_if_lt (tgt := 19) hx hb dX3_does_9 (by decide) (fun c => absurd c (by decide)) (fun c => ?_)
  refine lv_iload hx hb dX3_does_12 (lv_at hl 5 rfl) ?_
  refine lv_bipush (v := 40) hx hb dX3_does_14 bp_40 ?_
  refine lv_icmp_le (tgt := 21) hx hb dX3_does_16 (by decide) (fun c => ?_) (fun c => absurd c (by decide))
  refine sg_gets hx hb hZ 3 rfl hS hown (hts _ (List.mem_cons_of_mem _ mw_173)) (fun _ h9 => h9) dX3_does_21 ?_
  refine lv_iload hx hb dX3_does_24 (lv_at hl 0 rfl) ?_
  refine lv_iconst (v := 4) hx hb dX3_does_26 ic_4 ?_
  refine lv_imul hx hb dX3_does_27 ?_
  refine W.eq (g2 := F0 m 28 ls [.int 4, .ref (za 3)]) (by rw [show (1 * 4 : Int32) = 4 from by decide]) ?_
  refine lv_iload_n hx hb dX3_does_28 rfl (lv_at hl 3 rfl) ?_
  refine lv_iadd hx hb dX3_does_29 ?_
  refine W.eq (g2 := F0 m 30 ls [.int 4, .ref (za 3)]) (by rw [show (4 + 0 : Int32) = 4 from by decide]) ?_
  refine sg_sald hx hb hZ 3 rfl hS (y := 4) (N := 32) (vp_in_iff.mpr (by decide)) dX3_does_30 ?_
  refine W.eq (g2 := F0 m 31 ls [.int 20]) (by rfl) ?_
  refine lv_istore (lv' := [(6, .int 20), (5, .int 1), (0, .ref (h 36)), (1, .int 1), (2, .int 0), (3, .int x2), (4, .int 0)]) hx hb dX3_does_31 hl (by decide) rfl (fun ls hl => ?_)
  refine lv_aload_n hx hb dX3_does_33 rfl (lv_at hl 2 rfl) ?_
  refine sl_gX_36_3_3 (v := 0) hx hb hts hown hK hP (show f 36 3 = 0 from hf_36_3) dX3_does_34 ?_
  refine lv_bipush (v := 24) hx hb dX3_does_37 bp_24 ?_
  refine lv_icmp_ge (tgt := 53) hx hb dX3_does_39 (by decide) (fun c => absurd c (by decide)) (fun c => ?_)
  refine lv_aload_n hx hb dX3_does_42 rfl (lv_at hl 2 rfl) ?_
  refine sl_gX_36_1_3 hx hb hts hown hK hP dX3_does_43 ?_
  refine lv_aload_n hx hb dX3_does_46 rfl (lv_at hl 2 rfl) ?_
  refine sl_gX_36_3_3 (v := 0) hx hb hts hown hK hP (show f 36 3 = 0 from hf_36_3) dX3_does_47 ?_
  refine lv_iload hx hb dX3_does_50 (lv_at hl 0 rfl) ?_
  refine sg_iast hx hb hh hA hK hP hS 38 (by decide) 0 (fun _ => rfl) rfl (i := 0) (x := 20) (vp_in_iff.mpr (by decide)) dX3_does_52 (fun f_35 H locs ef_35 hP hS => ?_)
  have ef_35 : f_35 = sg_up f 38 (sgu (f 38) 0 20) := ef_35
  have hI : sgI loX hiX f_35 := by rw [ef_35]; exact sgI.put hI 38 0 (show 0 ≤ (20 : Int32).toInt ∧ (20 : Int32).toInt ≤ 81 from by decide)
  have hF : sgK WkX3_does_1_0_0_f0_f1 f f_35 := sgK.put hF ef_35 (by rfl)
  exact blk_53 f_35 _ _ _ (hs.trans ((spl_e u_34 (spl_e ef_35 rfl)))) (by have zz36_3 : (f_35 36 3).toInt = 0 := (congrArg Int32.toInt (show f_35 36 3 = 0 from (by rw [ef_35, sg_up_n (by decide)]; exact hf_36_3))).trans (by decide); exact ⟨by omega, by omega⟩) (by have zz36_4 : (f_35 36 4).toInt = 1 := (congrArg Int32.toInt (show f_35 36 4 = 1 from (by rw [ef_35, sg_up_n (by decide)]; exact hf_36_4))).trans (by decide); exact ⟨by omega, by omega⟩) hI hF hP hS (lv_sub hl [2, 5, 6, 1, 0] rfl)

set_option maxHeartbeats 4000000 in
set_option maxRecDepth 100000 in
theorem kX3_ownerOf_2_0 (l : Launch) (D : va_G) (ca : Nat → ClassId) (za h : Nat → Nat) (hh : sgH 52 h) (f : sg_F) (L : sg_L) (Q : sg_Q) (hI : sgI loX hiX f) (sz : Nat) : Met l yX3_ownerOf gwX3_ownerOf { frames := 0, cells := 0, slots := 0, locals := 0 } (sgP D vwCl (tyX ca) 52 h (eX ca h) zcX za f L Q sz [.int 2, .int 0]) (sgQi D vwCl 52 h (eX ca h) sz (fun r f1 L1 Q1 => ((f1 = f ∧ L1 = L ∧ Q1 = Q) ∧ (0 ≤ r.toInt ∧ r.toInt ≤ 0) ∧ (r) = sX3_ownerOf_2_0 f L))) 0 0 (sgA 52 h sz) := by
  refine sg_ofWi (cc := cX3_ownerOf) (maxL := 4) RX3 (by decide) rfl rfl (Nat.le_of_ble_eq_true rfl) ?_
  intro p e s m below meth cd Qz ls hx hb hml hown hts hK hZ hP hS hl hret
  have hA := sgY.self (n := 52) (h := h) (sz := s.heap.size)
  have hl : lv_has ls 4 [(0, .int 2), (1, .int 0)] := hl
  obtain ⟨H, hH⟩ : ∃ z : Heap, z = s.heap := ⟨_, rfl⟩
  obtain ⟨locs, hlo⟩ : ∃ z : List Loc, z = [] := ⟨_, rfl⟩
  have hP : va_P D vwCl (sgw 52 h (eX ca h) f L Q) H := by rw [hH]; exact hP
  have hS : va_S (sgA 52 h s.heap.size) s.heap H locs := by rw [hH, hlo]; exact hS
  suffices hgo : W p l e ({ frames := 0, cells := 0, slots := 0, locals := 0 }) s m ([.int 2, .int 0] : List Value).toArray below meth cd H locs 0 0 Qz (F0 m 0 ls []) by rw [hH, hlo] at hgo; exact hgo
  clear hH hlo
  obtain ⟨sp, hsp⟩ : ∃ z : Int32, z = sX3_ownerOf_2_0 f L := ⟨_, rfl⟩
  have hs : sp = sX3_ownerOf_2_0 f L := hsp
  refine lv_iload_n hx hb dX3_ownerOf_0 rfl (lv_at hl 0 rfl) ?_
  refine lv_istore_n (lv' := [(2, .int 2), (0, .int 2), (1, .int 0)]) hx hb dX3_ownerOf_1 rfl hl (by decide) rfl (fun ls hl => ?_)
  refine lv_iconst (v := 0) hx hb dX3_ownerOf_2 ic_0 ?_
  refine lv_istore_n (lv' := [(3, .int 0), (2, .int 2), (0, .int 2), (1, .int 0)]) hx hb dX3_ownerOf_3 rfl hl (by decide) rfl (fun ls hl => ?_)
  refine lv_iload_n hx hb dX3_ownerOf_4 rfl (lv_at hl 0 rfl) ?_
  refine lv_bipush (v := 8) hx hb dX3_ownerOf_5 bp_8 ?_
  refine lv_icmp_ge (tgt := 40) hx hb dX3_ownerOf_7 (by decide) (fun c => absurd c (by decide)) (fun c => ?_)
  refine lv_iload_n hx hb dX3_ownerOf_10 rfl (lv_at hl 1 rfl) ?_
  refine lv_if_lt (tgt := 40) hx hb dX3_ownerOf_11 (by decide) (fun c => absurd c (by decide)) (fun c => ?_)
  refine sg_gets hx hb hZ 3 rfl hS hown (hts _ (List.mem_cons_of_mem _ mw_173)) (fun _ h9 => h9) dX3_ownerOf_14 ?_
  refine lv_iload_n hx hb dX3_ownerOf_17 rfl (lv_at hl 1 rfl) ?_
  refine lv_iconst (v := 4) hx hb dX3_ownerOf_18 ic_4 ?_
  refine lv_imul hx hb dX3_ownerOf_19 ?_
  refine W.eq (g2 := F0 m 20 ls [.int 8, .ref (za 3)]) (by rw [show (2 * 4 : Int32) = 8 from by decide]) ?_
  refine lv_iload_n hx hb dX3_ownerOf_20 rfl (lv_at hl 3 rfl) ?_
  refine lv_iadd hx hb dX3_ownerOf_21 ?_
  refine W.eq (g2 := F0 m 22 ls [.int 8, .ref (za 3)]) (by rw [show (8 + 0 : Int32) = 8 from by decide]) ?_
  refine sg_sald hx hb hZ 3 rfl hS (y := 8) (N := 32) (vp_in_iff.mpr (by decide)) dX3_ownerOf_22 ?_
  refine W.eq (g2 := F0 m 23 ls [.int 0]) (by rfl) ?_
  refine lv_if_eq (tgt := 28) hx hb dX3_ownerOf_23 (by decide) (fun c => ?_) (fun c => absurd c (by decide))
  refine sg_gets hx hb hZ 2 rfl hS hown (hts _ (List.mem_cons_of_mem _ mw_174)) (fun _ h9 => h9) dX3_ownerOf_28 ?_
  refine lv_iload_n hx hb dX3_ownerOf_31 rfl (lv_at hl 1 rfl) ?_
  refine sg_sald hx hb hZ 2 rfl hS (y := 2) (N := 8) (vp_in_iff.mpr (by decide)) dX3_ownerOf_32 ?_
  refine W.eq (g2 := F0 m 33 ls [.int 0]) (by rfl) ?_
  refine lv_istore_n (lv' := [(2, .int 0), (3, .int 0), (0, .int 2), (1, .int 0)]) hx hb dX3_ownerOf_33 rfl hl (by decide) rfl (fun ls hl => ?_)
  refine lv_iinc (v := 1) (lv' := [(3, .int 1), (2, .int 0), (0, .int 2), (1, .int 0)]) hx hb dX3_ownerOf_34 hl (k := 1) rfl (by decide) (by decide) rfl (fun ls hl => ?_)
  refine lv_goto (tgt := 4) hx hb dX3_ownerOf_37 (by decide) ?_
  refine lv_iload_n hx hb dX3_ownerOf_4 rfl (lv_at hl 0 rfl) ?_
  refine lv_bipush (v := 8) hx hb dX3_ownerOf_5 bp_8 ?_
  refine lv_icmp_ge (tgt := 40) hx hb dX3_ownerOf_7 (by decide) (fun c => absurd c (by decide)) (fun c => ?_)
  refine lv_iload_n hx hb dX3_ownerOf_10 rfl (lv_at hl 1 rfl) ?_
  refine lv_if_lt (tgt := 40) hx hb dX3_ownerOf_11 (by decide) (fun c => absurd c (by decide)) (fun c => ?_)
  refine sg_gets hx hb hZ 3 rfl hS hown (hts _ (List.mem_cons_of_mem _ mw_173)) (fun _ h9 => h9) dX3_ownerOf_14 ?_
  refine lv_iload_n hx hb dX3_ownerOf_17 rfl (lv_at hl 1 rfl) ?_
  refine lv_iconst (v := 4) hx hb dX3_ownerOf_18 ic_4 ?_
  refine lv_imul hx hb dX3_ownerOf_19 ?_
  refine W.eq (g2 := F0 m 20 ls [.int 0, .ref (za 3)]) (by rw [show (0 * 4 : Int32) = 0 from by decide]) ?_
  refine lv_iload_n hx hb dX3_ownerOf_20 rfl (lv_at hl 3 rfl) ?_
  refine lv_iadd hx hb dX3_ownerOf_21 ?_
  refine W.eq (g2 := F0 m 22 ls [.int 0, .ref (za 3)]) (by rw [show (0 + 0 : Int32) = 0 from by decide]) ?_
  refine sg_sald hx hb hZ 3 rfl hS (y := 0) (N := 32) (vp_in_iff.mpr (by decide)) dX3_ownerOf_22 ?_
  refine W.eq (g2 := F0 m 23 ls [.int 1]) (by rfl) ?_
  refine lv_if_eq (tgt := 28) hx hb dX3_ownerOf_23 (by decide) (fun c => absurd c (by decide)) (fun c => ?_)
  refine lv_iload_n hx hb dX3_ownerOf_26 rfl (lv_at hl 1 rfl) ?_
  have k99 : (0 : Int32).toInt = 0 := ti_0
  exact hret _ _ _ _ (0) f L Q dX3_ownerOf_27 hP hS ⟨⟨rfl, rfl, rfl⟩, (by decide), (Eq.trans (Eq.symm hs) hsp)⟩

set_option maxHeartbeats 4000000 in
set_option maxRecDepth 100000 in
theorem kX3_runs_1_m1_1_f1_f2 (l : Launch) (D : va_G) (ca : Nat → ClassId) (za h : Nat → Nat) (hh : sgH 52 h) (f : sg_F) (L : sg_L) (Q : sg_Q) (hI : sgI loX hiX f) (x2 : Int32) (hf_36_3 : f 36 3 = 1) (hf_36_4 : f 36 4 = 2) (p0 : 1 ≤ (f 36 3).toInt ∧ (f 36 3).toInt ≤ 1) (sz : Nat) : Met l yX3_runs gwX3_runs { frames := 0, cells := 0, slots := 0, locals := 0 } (sgP D vwCl (tyX ca) 52 h (eX ca h) zcX za f L Q sz [.ref (h 36), .int 1, .int (-1), .int x2, .int 1]) (sgQi D vwCl 52 h (eX ca h) sz (fun r f1 L1 Q1 => ((f1 = f ∧ L1 = L ∧ Q1 = Q) ∧ True ∧ (1 ≤ (f1 36 3).toInt ∧ (f1 36 3).toInt ≤ 1) ∧ (r) = sX3_runs_1_m1_1_f1_f2 x2 f L))) 0 0 (sgA 52 h sz) := by
  refine sg_ofWi (cc := cX3_runs) (maxL := 5) RX3 (by decide) rfl rfl (Nat.le_of_ble_eq_true rfl) ?_
  intro p e s m below meth cd Qz ls hx hb hml hown hts hK hZ hP hS hl hret
  have hA := sgY.self (n := 52) (h := h) (sz := s.heap.size)
  have hl : lv_has ls 5 [(0, .ref (h 36)), (1, .int 1), (2, .int (-1)), (3, .int x2), (4, .int 1)] := hl
  obtain ⟨H, hH⟩ : ∃ z : Heap, z = s.heap := ⟨_, rfl⟩
  obtain ⟨locs, hlo⟩ : ∃ z : List Loc, z = [] := ⟨_, rfl⟩
  have hP : va_P D vwCl (sgw 52 h (eX ca h) f L Q) H := by rw [hH]; exact hP
  have hS : va_S (sgA 52 h s.heap.size) s.heap H locs := by rw [hH, hlo]; exact hS
  suffices hgo : W p l e ({ frames := 0, cells := 0, slots := 0, locals := 0 }) s m ([.ref (h 36), .int 1, .int (-1), .int x2, .int 1] : List Value).toArray below meth cd H locs 0 0 Qz (F0 m 0 ls []) by rw [hH, hlo] at hgo; exact hgo
  clear hH hlo
  obtain ⟨sp, hsp⟩ : ∃ z : Int32, z = sX3_runs_1_m1_1_f1_f2 x2 f L := ⟨_, rfl⟩
  have hs : sp = sX3_runs_1_m1_1_f1_f2 x2 f L := hsp
  have o_1 : (f 36 3).toInt = 1 := (congrArg Int32.toInt (show f 36 3 = 1 from hf_36_3)).trans (by decide)
  refine lv_iload_n hx hb dX3_runs_0 rfl (lv_at hl 1 rfl) ?_
  refine lv_lookup (x := 1) (off := 115) (tgt := 116) hx hb dX3_runs_1 (by decide) (by decide) (by decide) ?_
  refine lv_iload_n hx hb dX3_runs_116 rfl (lv_at hl 3 rfl) ?_
  refine lv_aload_n hx hb dX3_runs_117 rfl (lv_at hl 0 rfl) ?_
  refine sl_gX_36_5_3 (v := (f 36 5)) hx hb hts hown hK hP rfl dX3_runs_118 ?_
  refine lv_topi (fun v_2 ev_2 => ?_)
  have q_3 : 0 ≤ v_2.toInt ∧ v_2.toInt ≤ 49 := by rw [ev_2]; exact hI 36 5
  refine lv_iadd hx hb dX3_runs_121 ?_
  refine lv_topi (fun v_4 ev_4 => ?_)
  have q_5 : (f 36 3).toInt = 1 := (congrArg Int32.toInt (show f 36 3 = 1 from hf_36_3)).trans (by decide)
  exact hret _ _ _ _ (v_4) f L Q dX3_runs_122 hP hS ⟨⟨rfl, rfl, rfl⟩, trivial, ⟨by omega, by omega⟩, (Eq.trans (Eq.symm (hs.trans ((spl_e ev_2 (spl_e ev_4 rfl))))) hsp)⟩

abbrev WkX3_does_2_0_0_f0_f2 : List (Nat × Nat × Option Nat) := [(36, 36, some 3), (38, 38, some 0)]
set_option maxHeartbeats 4000000 in
set_option maxRecDepth 100000 in
theorem kX3_does_2_0_0_f0_f2 (l : Launch) (D : va_G) (ca : Nat → ClassId) (za h : Nat → Nat) (hh : sgH 52 h) (f : sg_F) (L : sg_L) (Q : sg_Q) (hI : sgI loX hiX f) (x2 : Int32) (hf_36_3 : f 36 3 = 0) (hf_36_4 : f 36 4 = 2) (p0 : 0 ≤ (f 36 3).toInt ∧ (f 36 3).toInt ≤ 0) (sz : Nat) : Met l yX3_does gwX3_does { frames := 1, cells := 0, slots := 0, locals := 24 } (sgP D vwCl (tyX ca) 52 h (eX ca h) zcX za f L Q sz [.ref (h 36), .int 2, .int 0, .int x2, .int 0]) (sgQi D vwCl 52 h (eX ca h) sz (fun r f1 L1 Q1 => ((sgI loX hiX f1 ∧ sgK WkX3_does_2_0_0_f0_f2 f f1 ∧ L1 = L ∧ Q1 = Q) ∧ True ∧ (1 ≤ (f1 36 3).toInt ∧ (f1 36 3).toInt ≤ 1) ∧ (r, f1) = sX3_does_2_0_0_f0_f2 x2 f L))) 0 0 (sgA 52 h sz) := by
  refine sg_ofWi (cc := cX3_does) (maxL := 7) RX3 (by decide) rfl rfl (Nat.le_of_ble_eq_true rfl) ?_
  intro p e s m below meth cd Qz ls hx hb hml hown hts hK hZ hP hS hl hret
  have hA := sgY.self (n := 52) (h := h) (sz := s.heap.size)
  have hl : lv_has ls 7 [(0, .ref (h 36)), (1, .int 2), (2, .int 0), (3, .int x2), (4, .int 0)] := hl
  obtain ⟨H, hH⟩ : ∃ z : Heap, z = s.heap := ⟨_, rfl⟩
  obtain ⟨locs, hlo⟩ : ∃ z : List Loc, z = [] := ⟨_, rfl⟩
  have hP : va_P D vwCl (sgw 52 h (eX ca h) f L Q) H := by rw [hH]; exact hP
  have hS : va_S (sgA 52 h s.heap.size) s.heap H locs := by rw [hH, hlo]; exact hS
  suffices hgo : W p l e ({ frames := 1, cells := 0, slots := 0, locals := 24 }) s m ([.ref (h 36), .int 2, .int 0, .int x2, .int 0] : List Value).toArray below meth cd H locs 0 0 Qz (F0 m 0 ls []) by rw [hH, hlo] at hgo; exact hgo
  clear hH hlo
  obtain ⟨sp, hsp⟩ : ∃ z : Int32 × sg_F, z = sX3_does_2_0_0_f0_f2 x2 f L := ⟨_, rfl⟩
  have hs : sp = sX3_does_2_0_0_f0_f2 x2 f L := hsp
  have o_1 : (f 36 3).toInt = 0 := (congrArg Int32.toInt (show f 36 3 = 0 from hf_36_3)).trans (by decide)
  have hF : sgK WkX3_does_2_0_0_f0_f2 f f := sgK.rf
  have blk_53 : ∀ (fp_53 : sg_F) (H : Heap) (locs : List Loc) (ls : Array Slot), sp = sX3_does_2_0_0_f0_f2_b53 x2 fp_53 L → 0 ≤ (fp_53 36 3).toInt ∧ (fp_53 36 3).toInt ≤ 0 → 2 ≤ (fp_53 36 4).toInt ∧ (fp_53 36 4).toInt ≤ 2 → sgI loX hiX fp_53 → sgK WkX3_does_2_0_0_f0_f2 f fp_53 → va_P D vwCl (sgw 52 h (eX ca h) fp_53 L Q) H → va_S (sgA 52 h s.heap.size) s.heap H locs → lv_has ls 7 [(0, .ref (h 36)), (3, .int x2), (4, .int 0), (5, .int 0), (6, .int 1)] → W p l e ({ frames := 1, cells := 0, slots := 0, locals := 24 }) s m ([.ref (h 36), .int 2, .int 0, .int x2, .int 0] : List Value).toArray below meth cd H locs 0 0 Qz (F0 m 53 ls []) := by
    intro fp_53 H locs ls hs hy0_53 hy1_53 hI hF hP hS hl
    obtain ⟨v_2, ev_2⟩ : ∃ z : Int32, z = fp_53 36 3 := ⟨_, rfl⟩
    have q_3 : 0 ≤ v_2.toInt ∧ v_2.toInt ≤ 19 := by rw [ev_2]; exact hI 36 3
    have q_4 : (fp_53 36 3).toInt = v_2.toInt := by rw [ev_2]
    obtain ⟨v_5, ev_5⟩ : ∃ z : Int32, z = fp_53 36 4 := ⟨_, rfl⟩
    have q_6 : 0 ≤ v_5.toInt ∧ v_5.toInt ≤ 7 := by rw [ev_5]; exact hI 36 4
    have q_7 : (fp_53 36 4).toInt = v_5.toInt := by rw [ev_5]
    have m_8 : fp_53 36 4 = 2 := (hF 36 4 (by decide)).trans hf_36_4
    refine lv_aload_n hx hb dX3_does_53 rfl (lv_at hl 0 rfl) ?_
    refine lv_dup hx hb dX3_does_54 rfl ?_
    refine sl_gX_36_3_3 (v := v_2) hx hb hts hown hK hP (show fp_53 36 3 = v_2 from ev_2.symm) dX3_does_55 ?_
    refine lv_iconst (v := 1) hx hb dX3_does_58 ic_1 ?_
    refine lv_iadd hx hb dX3_does_59 ?_
    refine lv_topi (fun v_9 ev_9 => ?_)
    have q_10 : v_9.toInt = v_2.toInt + 1 := by rw [ev_9]; first | exact cm_add ti_1 (by omega) (by omega) | (have k1 : (1 : Int32).toInt = 1 := ti_1; exact (bn_addI (by omega) (by omega)).trans (by omega))
    refine sl_pX_36_3_3 (x := v_9) hx hb hts hown hh hA hK hP hS dX3_does_60 (fun f_11 H locs ef_11 hP hS => ?_)
    have hI : sgI loX hiX f_11 := by rw [ef_11]; exact sgI.put hI 36 3 (show 0 ≤ (v_9 : Int32).toInt ∧ (v_9 : Int32).toInt ≤ 19 from ⟨by omega, by omega⟩)
    have hF : sgK WkX3_does_2_0_0_f0_f2 f f_11 := sgK.put hF ef_11 (by rfl)
    refine lv_aload_n hx hb dX3_does_63 rfl (lv_at hl 0 rfl) ?_
    refine lv_iload hx hb dX3_does_64 (lv_at hl 4 rfl) ?_
    refine sg_gets hx hb hZ 2 rfl hS hown (hts _ (List.mem_cons_of_mem _ mw_174)) (fun _ h9 => h9) dX3_does_66 ?_
    refine lv_iload hx hb dX3_does_69 (lv_at hl 3 rfl) ?_
    refine sg_sald hx hb hZ 2 rfl hS (y := 0) (N := 8) (vp_in_iff.mpr (by decide)) dX3_does_71 ?_
    refine W.eq (g2 := F0 m 72 ls [.int (-1), .int 1, .ref (h 36)]) (by rfl) ?_
    refine lv_iload_n hx hb dX3_does_72 rfl (lv_at hl 1 rfl) ?_
    refine lv_iload hx hb dX3_does_73 (lv_at hl 2 rfl) ?_
    refine lv_iconst (v := 1) hx hb dX3_does_75 ic_1 ?_
    refine lv_iadd hx hb dX3_does_76 ?_
    refine W.eq (g2 := F0 m 77 ls [.int 1, .int x2, .int (-1), .int 1, .ref (h 36)]) (by rw [show (0 + 1 : Int32) = 1 from by decide]) ?_
    have c_12 : v_9 = 1 := Int32.toInt_inj.mp (by have k9 : (1 : Int32).toInt = 1 := ti_1; omega)
    have q_13 : (f_11 36 3).toInt = 1 := (congrArg Int32.toInt (show f_11 36 3 = 1 from (Eq.trans (by rw [ef_11, sg_up_s, sgu_s]) c_12))).trans (by decide)
    refine sg_calli (va_runV (As := [.int 1, .int (-1), .int x2, .int 1]) (rest := []) ⟨hx, hb, hml, hown, hts⟩ (kX3_runs_1_m1_1_f1_f2 l D ca za h hh f_11 L Q hI x2 (Eq.trans (by rw [ef_11, sg_up_s, sgu_s]) c_12) (by rw [ef_11, sg_up_s, sgu_n (by decide)]; exact m_8) (by have k0 : (1 : Int32).toInt = 1 := ti_1; have k1 : ((-1) : Int32).toInt = (-1) := ti_m1; have k3 : (1 : Int32).toInt = 1 := ti_1; omega) H.size) (sl_c3_runs_0_0_0_0_3 hts ⟨Nat.le_of_ble_eq_true rfl, Nat.le_of_ble_eq_true rfl⟩) (sl_vX_36 hA hK hP hS hZ) rfl rfl hl.1 rfl (lv_room (Nat.le_of_ble_eq_true rfl)) dX3_does_77 ⟨Nat.le_refl _, Nat.le_refl _⟩) hA hS (fun r_18 f_15 L_16 Q_17 H locs hq hP hS => ?_)
    obtain ⟨⟨ef9, eL9, eQ9⟩, hq, p_19, u_20⟩ := hq
    rw [ef9, eL9, eQ9] at hP; clear ef9 eL9 eQ9
    have k_23 : (1 : Int32).toInt = 1 := by decide
    have k_24 : ((-1) : Int32).toInt = (-1) := by decide
    have k_25 : (1 : Int32).toInt = 1 := by decide
    exact hret _ _ _ _ (r_18) f_11 L Q dX3_does_80 hP hS ⟨⟨hI, hF, rfl, rfl⟩, trivial, ⟨by omega, by omega⟩, (Eq.trans (Eq.symm (hs.trans ((spl_e ev_2 (spl_e ev_5 (spl_e ev_9 (spl_e ef_11 (spl_e u_20 rfl)))))))) hsp)⟩
  refine lv_iload_n hx hb dX3_does_0 rfl (lv_at hl 1 rfl) ?_
  refine lv_iload_n hx hb dX3_does_1 rfl (lv_at hl 2 rfl) ?_
  refine sg_calli (va_runS (As := [.int 2, .int 0]) (rest := []) ⟨hx, hb, hml, hown, hts⟩ (kX3_ownerOf_2_0 l D ca za h hh f L Q hI H.size) (va_cwS 2 hts (gw_S (fun _ h => List.mem_cons_of_mem _ h) mw_189 mw_190 mw_47 mw_188) rfl rfl rfl hd_yX3_ownerOf.2 ⟨Nat.le_of_ble_eq_true rfl, Nat.le_of_ble_eq_true rfl⟩) (sg_preS hA hK hP hS hZ) rfl rfl hl.1 rfl (lv_room (Nat.le_of_ble_eq_true rfl)) dX3_does_2 ⟨Nat.le_refl _, Nat.le_refl _⟩) hA hS (fun r_31 f_28 L_29 Q_30 H locs hq hP hS => ?_)
  obtain ⟨⟨ef9, eL9, eQ9⟩, hq, u_32⟩ := hq
  rw [ef9, eL9, eQ9] at hP; clear ef9 eL9 eQ9
  obtain rfl : r_31 = 0 := Int32.toInt_inj.mp (by have k9 : (0 : Int32).toInt = 0 := ti_0; omega)
  refine lv_istore (lv' := [(5, .int 0), (0, .ref (h 36)), (1, .int 2), (2, .int 0), (3, .int x2), (4, .int 0)]) hx hb dX3_does_5 hl (by decide) rfl (fun ls hl => ?_)
  refine lv_iload hx hb dX3_does_7 (lv_at hl 0 rfl) ?_
  refine lv_if_lt (tgt := 19) hx hb dX3_does_9 (by decide) (fun c => absurd c (by decide)) (fun c => ?_)
  refine lv_iload hx hb dX3_does_12 (lv_at hl 5 rfl) ?_
  refine lv_bipush (v := 40) hx hb dX3_does_14 bp_40 ?_
  refine lv_icmp_le (tgt := 21) hx hb dX3_does_16 (by decide) (fun c => ?_) (fun c => absurd c (by decide))
  refine sg_gets hx hb hZ 3 rfl hS hown (hts _ (List.mem_cons_of_mem _ mw_173)) (fun _ h9 => h9) dX3_does_21 ?_
  refine lv_iload hx hb dX3_does_24 (lv_at hl 0 rfl) ?_
  refine lv_iconst (v := 4) hx hb dX3_does_26 ic_4 ?_
  refine lv_imul hx hb dX3_does_27 ?_
  refine W.eq (g2 := F0 m 28 ls [.int 0, .ref (za 3)]) (by rw [show (0 * 4 : Int32) = 0 from by decide]) ?_
  refine lv_iload_n hx hb dX3_does_28 rfl (lv_at hl 3 rfl) ?_
  refine lv_iadd hx hb dX3_does_29 ?_
  refine W.eq (g2 := F0 m 30 ls [.int 0, .ref (za 3)]) (by rw [show (0 + 0 : Int32) = 0 from by decide]) ?_
  refine sg_sald hx hb hZ 3 rfl hS (y := 0) (N := 32) (vp_in_iff.mpr (by decide)) dX3_does_30 ?_
  refine W.eq (g2 := F0 m 31 ls [.int 1]) (by rfl) ?_
  refine lv_istore (lv' := [(6, .int 1), (5, .int 0), (0, .ref (h 36)), (1, .int 2), (2, .int 0), (3, .int x2), (4, .int 0)]) hx hb dX3_does_31 hl (by decide) rfl (fun ls hl => ?_)
  refine lv_aload_n hx hb dX3_does_33 rfl (lv_at hl 2 rfl) ?_
  refine sl_gX_36_3_3 (v := 0) hx hb hts hown hK hP (show f 36 3 = 0 from hf_36_3) dX3_does_34 ?_
  refine lv_bipush (v := 24) hx hb dX3_does_37 bp_24 ?_
  refine lv_icmp_ge (tgt := 53) hx hb dX3_does_39 (by decide) (fun c => absurd c (by decide)) (fun c => ?_)
  refine lv_aload_n hx hb dX3_does_42 rfl (lv_at hl 2 rfl) ?_
  refine sl_gX_36_1_3 hx hb hts hown hK hP dX3_does_43 ?_
  refine lv_aload_n hx hb dX3_does_46 rfl (lv_at hl 2 rfl) ?_
  refine sl_gX_36_3_3 (v := 0) hx hb hts hown hK hP (show f 36 3 = 0 from hf_36_3) dX3_does_47 ?_
  refine lv_iload hx hb dX3_does_50 (lv_at hl 0 rfl) ?_
  refine sg_iast hx hb hh hA hK hP hS 38 (by decide) 0 (fun _ => rfl) rfl (i := 0) (x := 1) (vp_in_iff.mpr (by decide)) dX3_does_52 (fun f_33 H locs ef_33 hP hS => ?_)
  have ef_33 : f_33 = sg_up f 38 (sgu (f 38) 0 1) := ef_33
  have hI : sgI loX hiX f_33 := by rw [ef_33]; exact sgI.put hI 38 0 (show 0 ≤ (1 : Int32).toInt ∧ (1 : Int32).toInt ≤ 81 from by decide)
  have hF : sgK WkX3_does_2_0_0_f0_f2 f f_33 := sgK.put hF ef_33 (by rfl)
  exact blk_53 f_33 _ _ _ (hs.trans ((spl_e u_32 (spl_e ef_33 rfl)))) (by have zz36_3 : (f_33 36 3).toInt = 0 := (congrArg Int32.toInt (show f_33 36 3 = 0 from (by rw [ef_33, sg_up_n (by decide)]; exact hf_36_3))).trans (by decide); exact ⟨by omega, by omega⟩) (by have zz36_4 : (f_33 36 4).toInt = 2 := (congrArg Int32.toInt (show f_33 36 4 = 2 from (by rw [ef_33, sg_up_n (by decide)]; exact hf_36_4))).trans (by decide); exact ⟨by omega, by omega⟩) hI hF hP hS (lv_sub hl [2, 5, 6, 1, 0] rfl)

set_option maxHeartbeats 4000000 in
set_option maxRecDepth 100000 in
theorem kX3_ownerOf_3_0 (l : Launch) (D : va_G) (ca : Nat → ClassId) (za h : Nat → Nat) (hh : sgH 52 h) (f : sg_F) (L : sg_L) (Q : sg_Q) (hI : sgI loX hiX f) (sz : Nat) : Met l yX3_ownerOf gwX3_ownerOf { frames := 0, cells := 0, slots := 0, locals := 0 } (sgP D vwCl (tyX ca) 52 h (eX ca h) zcX za f L Q sz [.int 3, .int 0]) (sgQi D vwCl 52 h (eX ca h) sz (fun r f1 L1 Q1 => ((f1 = f ∧ L1 = L ∧ Q1 = Q) ∧ (0 ≤ r.toInt ∧ r.toInt ≤ 0) ∧ (r) = sX3_ownerOf_3_0 f L))) 0 0 (sgA 52 h sz) := by
  refine sg_ofWi (cc := cX3_ownerOf) (maxL := 4) RX3 (by decide) rfl rfl (Nat.le_of_ble_eq_true rfl) ?_
  intro p e s m below meth cd Qz ls hx hb hml hown hts hK hZ hP hS hl hret
  have hA := sgY.self (n := 52) (h := h) (sz := s.heap.size)
  have hl : lv_has ls 4 [(0, .int 3), (1, .int 0)] := hl
  obtain ⟨H, hH⟩ : ∃ z : Heap, z = s.heap := ⟨_, rfl⟩
  obtain ⟨locs, hlo⟩ : ∃ z : List Loc, z = [] := ⟨_, rfl⟩
  have hP : va_P D vwCl (sgw 52 h (eX ca h) f L Q) H := by rw [hH]; exact hP
  have hS : va_S (sgA 52 h s.heap.size) s.heap H locs := by rw [hH, hlo]; exact hS
  suffices hgo : W p l e ({ frames := 0, cells := 0, slots := 0, locals := 0 }) s m ([.int 3, .int 0] : List Value).toArray below meth cd H locs 0 0 Qz (F0 m 0 ls []) by rw [hH, hlo] at hgo; exact hgo
  clear hH hlo
  obtain ⟨sp, hsp⟩ : ∃ z : Int32, z = sX3_ownerOf_3_0 f L := ⟨_, rfl⟩
  have hs : sp = sX3_ownerOf_3_0 f L := hsp
  refine lv_iload_n hx hb dX3_ownerOf_0 rfl (lv_at hl 0 rfl) ?_
  refine lv_istore_n (lv' := [(2, .int 3), (0, .int 3), (1, .int 0)]) hx hb dX3_ownerOf_1 rfl hl (by decide) rfl (fun ls hl => ?_)
  refine lv_iconst (v := 0) hx hb dX3_ownerOf_2 ic_0 ?_
  refine lv_istore_n (lv' := [(3, .int 0), (2, .int 3), (0, .int 3), (1, .int 0)]) hx hb dX3_ownerOf_3 rfl hl (by decide) rfl (fun ls hl => ?_)
  refine lv_iload_n hx hb dX3_ownerOf_4 rfl (lv_at hl 0 rfl) ?_
  refine lv_bipush (v := 8) hx hb dX3_ownerOf_5 bp_8 ?_
  refine lv_icmp_ge (tgt := 40) hx hb dX3_ownerOf_7 (by decide) (fun c => absurd c (by decide)) (fun c => ?_)
  refine lv_iload_n hx hb dX3_ownerOf_10 rfl (lv_at hl 1 rfl) ?_
  refine lv_if_lt (tgt := 40) hx hb dX3_ownerOf_11 (by decide) (fun c => absurd c (by decide)) (fun c => ?_)
  refine sg_gets hx hb hZ 3 rfl hS hown (hts _ (List.mem_cons_of_mem _ mw_173)) (fun _ h9 => h9) dX3_ownerOf_14 ?_
  refine lv_iload_n hx hb dX3_ownerOf_17 rfl (lv_at hl 1 rfl) ?_
  refine lv_iconst (v := 4) hx hb dX3_ownerOf_18 ic_4 ?_
  refine lv_imul hx hb dX3_ownerOf_19 ?_
  refine W.eq (g2 := F0 m 20 ls [.int 12, .ref (za 3)]) (by rw [show (3 * 4 : Int32) = 12 from by decide]) ?_
  refine lv_iload_n hx hb dX3_ownerOf_20 rfl (lv_at hl 3 rfl) ?_
  refine lv_iadd hx hb dX3_ownerOf_21 ?_
  refine W.eq (g2 := F0 m 22 ls [.int 12, .ref (za 3)]) (by rw [show (12 + 0 : Int32) = 12 from by decide]) ?_
  refine sg_sald hx hb hZ 3 rfl hS (y := 12) (N := 32) (vp_in_iff.mpr (by decide)) dX3_ownerOf_22 ?_
  refine W.eq (g2 := F0 m 23 ls [.int 0]) (by rfl) ?_
  refine lv_if_eq (tgt := 28) hx hb dX3_ownerOf_23 (by decide) (fun c => ?_) (fun c => absurd c (by decide))
  refine sg_gets hx hb hZ 2 rfl hS hown (hts _ (List.mem_cons_of_mem _ mw_174)) (fun _ h9 => h9) dX3_ownerOf_28 ?_
  refine lv_iload_n hx hb dX3_ownerOf_31 rfl (lv_at hl 1 rfl) ?_
  refine sg_sald hx hb hZ 2 rfl hS (y := 3) (N := 8) (vp_in_iff.mpr (by decide)) dX3_ownerOf_32 ?_
  refine W.eq (g2 := F0 m 33 ls [.int 2]) (by rfl) ?_
  refine lv_istore_n (lv' := [(2, .int 2), (3, .int 0), (0, .int 3), (1, .int 0)]) hx hb dX3_ownerOf_33 rfl hl (by decide) rfl (fun ls hl => ?_)
  refine lv_iinc (v := 1) (lv' := [(3, .int 1), (2, .int 2), (0, .int 3), (1, .int 0)]) hx hb dX3_ownerOf_34 hl (k := 1) rfl (by decide) (by decide) rfl (fun ls hl => ?_)
  refine lv_goto (tgt := 4) hx hb dX3_ownerOf_37 (by decide) ?_
  refine lv_iload_n hx hb dX3_ownerOf_4 rfl (lv_at hl 0 rfl) ?_
  refine lv_bipush (v := 8) hx hb dX3_ownerOf_5 bp_8 ?_
  refine lv_icmp_ge (tgt := 40) hx hb dX3_ownerOf_7 (by decide) (fun c => absurd c (by decide)) (fun c => ?_)
  refine lv_iload_n hx hb dX3_ownerOf_10 rfl (lv_at hl 1 rfl) ?_
  refine lv_if_lt (tgt := 40) hx hb dX3_ownerOf_11 (by decide) (fun c => absurd c (by decide)) (fun c => ?_)
  refine sg_gets hx hb hZ 3 rfl hS hown (hts _ (List.mem_cons_of_mem _ mw_173)) (fun _ h9 => h9) dX3_ownerOf_14 ?_
  refine lv_iload_n hx hb dX3_ownerOf_17 rfl (lv_at hl 1 rfl) ?_
  refine lv_iconst (v := 4) hx hb dX3_ownerOf_18 ic_4 ?_
  refine lv_imul hx hb dX3_ownerOf_19 ?_
  refine W.eq (g2 := F0 m 20 ls [.int 8, .ref (za 3)]) (by rw [show (2 * 4 : Int32) = 8 from by decide]) ?_
  refine lv_iload_n hx hb dX3_ownerOf_20 rfl (lv_at hl 3 rfl) ?_
  refine lv_iadd hx hb dX3_ownerOf_21 ?_
  refine W.eq (g2 := F0 m 22 ls [.int 8, .ref (za 3)]) (by rw [show (8 + 0 : Int32) = 8 from by decide]) ?_
  refine sg_sald hx hb hZ 3 rfl hS (y := 8) (N := 32) (vp_in_iff.mpr (by decide)) dX3_ownerOf_22 ?_
  refine W.eq (g2 := F0 m 23 ls [.int 0]) (by rfl) ?_
  refine lv_if_eq (tgt := 28) hx hb dX3_ownerOf_23 (by decide) (fun c => ?_) (fun c => absurd c (by decide))
  refine sg_gets hx hb hZ 2 rfl hS hown (hts _ (List.mem_cons_of_mem _ mw_174)) (fun _ h9 => h9) dX3_ownerOf_28 ?_
  refine lv_iload_n hx hb dX3_ownerOf_31 rfl (lv_at hl 1 rfl) ?_
  refine sg_sald hx hb hZ 2 rfl hS (y := 2) (N := 8) (vp_in_iff.mpr (by decide)) dX3_ownerOf_32 ?_
  refine W.eq (g2 := F0 m 33 ls [.int 0]) (by rfl) ?_
  refine lv_istore_n (lv' := [(2, .int 0), (3, .int 1), (0, .int 3), (1, .int 0)]) hx hb dX3_ownerOf_33 rfl hl (by decide) rfl (fun ls hl => ?_)
  refine lv_iinc (v := 2) (lv' := [(3, .int 2), (2, .int 0), (0, .int 3), (1, .int 0)]) hx hb dX3_ownerOf_34 hl (k := 1) rfl (by decide) (by decide) rfl (fun ls hl => ?_)
  refine lv_goto (tgt := 4) hx hb dX3_ownerOf_37 (by decide) ?_
  refine lv_iload_n hx hb dX3_ownerOf_4 rfl (lv_at hl 0 rfl) ?_
  refine lv_bipush (v := 8) hx hb dX3_ownerOf_5 bp_8 ?_
  refine lv_icmp_ge (tgt := 40) hx hb dX3_ownerOf_7 (by decide) (fun c => absurd c (by decide)) (fun c => ?_)
  refine lv_iload_n hx hb dX3_ownerOf_10 rfl (lv_at hl 1 rfl) ?_
  refine lv_if_lt (tgt := 40) hx hb dX3_ownerOf_11 (by decide) (fun c => absurd c (by decide)) (fun c => ?_)
  refine sg_gets hx hb hZ 3 rfl hS hown (hts _ (List.mem_cons_of_mem _ mw_173)) (fun _ h9 => h9) dX3_ownerOf_14 ?_
  refine lv_iload_n hx hb dX3_ownerOf_17 rfl (lv_at hl 1 rfl) ?_
  refine lv_iconst (v := 4) hx hb dX3_ownerOf_18 ic_4 ?_
  refine lv_imul hx hb dX3_ownerOf_19 ?_
  refine W.eq (g2 := F0 m 20 ls [.int 0, .ref (za 3)]) (by rw [show (0 * 4 : Int32) = 0 from by decide]) ?_
  refine lv_iload_n hx hb dX3_ownerOf_20 rfl (lv_at hl 3 rfl) ?_
  refine lv_iadd hx hb dX3_ownerOf_21 ?_
  refine W.eq (g2 := F0 m 22 ls [.int 0, .ref (za 3)]) (by rw [show (0 + 0 : Int32) = 0 from by decide]) ?_
  refine sg_sald hx hb hZ 3 rfl hS (y := 0) (N := 32) (vp_in_iff.mpr (by decide)) dX3_ownerOf_22 ?_
  refine W.eq (g2 := F0 m 23 ls [.int 1]) (by rfl) ?_
  refine lv_if_eq (tgt := 28) hx hb dX3_ownerOf_23 (by decide) (fun c => absurd c (by decide)) (fun c => ?_)
  refine lv_iload_n hx hb dX3_ownerOf_26 rfl (lv_at hl 1 rfl) ?_
  have k99 : (0 : Int32).toInt = 0 := ti_0
  exact hret _ _ _ _ (0) f L Q dX3_ownerOf_27 hP hS ⟨⟨rfl, rfl, rfl⟩, (by decide), (Eq.trans (Eq.symm hs) hsp)⟩

set_option maxHeartbeats 4000000 in
set_option maxRecDepth 100000 in
theorem kX3_runs_1_m1_1_f1_f3 (l : Launch) (D : va_G) (ca : Nat → ClassId) (za h : Nat → Nat) (hh : sgH 52 h) (f : sg_F) (L : sg_L) (Q : sg_Q) (hI : sgI loX hiX f) (x2 : Int32) (hf_36_3 : f 36 3 = 1) (hf_36_4 : f 36 4 = 3) (p0 : 1 ≤ (f 36 3).toInt ∧ (f 36 3).toInt ≤ 1) (sz : Nat) : Met l yX3_runs gwX3_runs { frames := 0, cells := 0, slots := 0, locals := 0 } (sgP D vwCl (tyX ca) 52 h (eX ca h) zcX za f L Q sz [.ref (h 36), .int 1, .int (-1), .int x2, .int 1]) (sgQi D vwCl 52 h (eX ca h) sz (fun r f1 L1 Q1 => ((f1 = f ∧ L1 = L ∧ Q1 = Q) ∧ True ∧ (1 ≤ (f1 36 3).toInt ∧ (f1 36 3).toInt ≤ 1) ∧ (r) = sX3_runs_1_m1_1_f1_f3 x2 f L))) 0 0 (sgA 52 h sz) := by
  refine sg_ofWi (cc := cX3_runs) (maxL := 5) RX3 (by decide) rfl rfl (Nat.le_of_ble_eq_true rfl) ?_
  intro p e s m below meth cd Qz ls hx hb hml hown hts hK hZ hP hS hl hret
  have hA := sgY.self (n := 52) (h := h) (sz := s.heap.size)
  have hl : lv_has ls 5 [(0, .ref (h 36)), (1, .int 1), (2, .int (-1)), (3, .int x2), (4, .int 1)] := hl
  obtain ⟨H, hH⟩ : ∃ z : Heap, z = s.heap := ⟨_, rfl⟩
  obtain ⟨locs, hlo⟩ : ∃ z : List Loc, z = [] := ⟨_, rfl⟩
  have hP : va_P D vwCl (sgw 52 h (eX ca h) f L Q) H := by rw [hH]; exact hP
  have hS : va_S (sgA 52 h s.heap.size) s.heap H locs := by rw [hH, hlo]; exact hS
  suffices hgo : W p l e ({ frames := 0, cells := 0, slots := 0, locals := 0 }) s m ([.ref (h 36), .int 1, .int (-1), .int x2, .int 1] : List Value).toArray below meth cd H locs 0 0 Qz (F0 m 0 ls []) by rw [hH, hlo] at hgo; exact hgo
  clear hH hlo
  obtain ⟨sp, hsp⟩ : ∃ z : Int32, z = sX3_runs_1_m1_1_f1_f3 x2 f L := ⟨_, rfl⟩
  have hs : sp = sX3_runs_1_m1_1_f1_f3 x2 f L := hsp
  have o_1 : (f 36 3).toInt = 1 := (congrArg Int32.toInt (show f 36 3 = 1 from hf_36_3)).trans (by decide)
  refine lv_iload_n hx hb dX3_runs_0 rfl (lv_at hl 1 rfl) ?_
  refine lv_lookup (x := 1) (off := 115) (tgt := 116) hx hb dX3_runs_1 (by decide) (by decide) (by decide) ?_
  refine lv_iload_n hx hb dX3_runs_116 rfl (lv_at hl 3 rfl) ?_
  refine lv_aload_n hx hb dX3_runs_117 rfl (lv_at hl 0 rfl) ?_
  refine sl_gX_36_5_3 (v := (f 36 5)) hx hb hts hown hK hP rfl dX3_runs_118 ?_
  refine lv_topi (fun v_2 ev_2 => ?_)
  have q_3 : 0 ≤ v_2.toInt ∧ v_2.toInt ≤ 49 := by rw [ev_2]; exact hI 36 5
  refine lv_iadd hx hb dX3_runs_121 ?_
  refine lv_topi (fun v_4 ev_4 => ?_)
  have q_5 : (f 36 3).toInt = 1 := (congrArg Int32.toInt (show f 36 3 = 1 from hf_36_3)).trans (by decide)
  exact hret _ _ _ _ (v_4) f L Q dX3_runs_122 hP hS ⟨⟨rfl, rfl, rfl⟩, trivial, ⟨by omega, by omega⟩, (Eq.trans (Eq.symm (hs.trans ((spl_e ev_2 (spl_e ev_4 rfl))))) hsp)⟩

abbrev WkX3_does_3_0_0_f0_f3 : List (Nat × Nat × Option Nat) := [(36, 36, some 3), (38, 38, some 0)]
set_option maxHeartbeats 4000000 in
set_option maxRecDepth 100000 in
theorem kX3_does_3_0_0_f0_f3 (l : Launch) (D : va_G) (ca : Nat → ClassId) (za h : Nat → Nat) (hh : sgH 52 h) (f : sg_F) (L : sg_L) (Q : sg_Q) (hI : sgI loX hiX f) (x2 : Int32) (hf_36_3 : f 36 3 = 0) (hf_36_4 : f 36 4 = 3) (p0 : 0 ≤ (f 36 3).toInt ∧ (f 36 3).toInt ≤ 0) (sz : Nat) : Met l yX3_does gwX3_does { frames := 1, cells := 0, slots := 0, locals := 24 } (sgP D vwCl (tyX ca) 52 h (eX ca h) zcX za f L Q sz [.ref (h 36), .int 3, .int 0, .int x2, .int 0]) (sgQi D vwCl 52 h (eX ca h) sz (fun r f1 L1 Q1 => ((sgI loX hiX f1 ∧ sgK WkX3_does_3_0_0_f0_f3 f f1 ∧ L1 = L ∧ Q1 = Q) ∧ True ∧ (1 ≤ (f1 36 3).toInt ∧ (f1 36 3).toInt ≤ 1) ∧ (r, f1) = sX3_does_3_0_0_f0_f3 x2 f L))) 0 0 (sgA 52 h sz) := by
  refine sg_ofWi (cc := cX3_does) (maxL := 7) RX3 (by decide) rfl rfl (Nat.le_of_ble_eq_true rfl) ?_
  intro p e s m below meth cd Qz ls hx hb hml hown hts hK hZ hP hS hl hret
  have hA := sgY.self (n := 52) (h := h) (sz := s.heap.size)
  have hl : lv_has ls 7 [(0, .ref (h 36)), (1, .int 3), (2, .int 0), (3, .int x2), (4, .int 0)] := hl
  obtain ⟨H, hH⟩ : ∃ z : Heap, z = s.heap := ⟨_, rfl⟩
  obtain ⟨locs, hlo⟩ : ∃ z : List Loc, z = [] := ⟨_, rfl⟩
  have hP : va_P D vwCl (sgw 52 h (eX ca h) f L Q) H := by rw [hH]; exact hP
  have hS : va_S (sgA 52 h s.heap.size) s.heap H locs := by rw [hH, hlo]; exact hS
  suffices hgo : W p l e ({ frames := 1, cells := 0, slots := 0, locals := 24 }) s m ([.ref (h 36), .int 3, .int 0, .int x2, .int 0] : List Value).toArray below meth cd H locs 0 0 Qz (F0 m 0 ls []) by rw [hH, hlo] at hgo; exact hgo
  clear hH hlo
  obtain ⟨sp, hsp⟩ : ∃ z : Int32 × sg_F, z = sX3_does_3_0_0_f0_f3 x2 f L := ⟨_, rfl⟩
  have hs : sp = sX3_does_3_0_0_f0_f3 x2 f L := hsp
  have o_1 : (f 36 3).toInt = 0 := (congrArg Int32.toInt (show f 36 3 = 0 from hf_36_3)).trans (by decide)
  have hF : sgK WkX3_does_3_0_0_f0_f3 f f := sgK.rf
  have blk_53 : ∀ (fp_53 : sg_F) (H : Heap) (locs : List Loc) (ls : Array Slot), sp = sX3_does_3_0_0_f0_f3_b53 x2 fp_53 L → 0 ≤ (fp_53 36 3).toInt ∧ (fp_53 36 3).toInt ≤ 0 → 3 ≤ (fp_53 36 4).toInt ∧ (fp_53 36 4).toInt ≤ 3 → sgI loX hiX fp_53 → sgK WkX3_does_3_0_0_f0_f3 f fp_53 → va_P D vwCl (sgw 52 h (eX ca h) fp_53 L Q) H → va_S (sgA 52 h s.heap.size) s.heap H locs → lv_has ls 7 [(0, .ref (h 36)), (3, .int x2), (4, .int 0), (5, .int 0), (6, .int 1)] → W p l e ({ frames := 1, cells := 0, slots := 0, locals := 24 }) s m ([.ref (h 36), .int 3, .int 0, .int x2, .int 0] : List Value).toArray below meth cd H locs 0 0 Qz (F0 m 53 ls []) := by
    intro fp_53 H locs ls hs hy0_53 hy1_53 hI hF hP hS hl
    obtain ⟨v_2, ev_2⟩ : ∃ z : Int32, z = fp_53 36 3 := ⟨_, rfl⟩
    have q_3 : 0 ≤ v_2.toInt ∧ v_2.toInt ≤ 19 := by rw [ev_2]; exact hI 36 3
    have q_4 : (fp_53 36 3).toInt = v_2.toInt := by rw [ev_2]
    obtain ⟨v_5, ev_5⟩ : ∃ z : Int32, z = fp_53 36 4 := ⟨_, rfl⟩
    have q_6 : 0 ≤ v_5.toInt ∧ v_5.toInt ≤ 7 := by rw [ev_5]; exact hI 36 4
    have q_7 : (fp_53 36 4).toInt = v_5.toInt := by rw [ev_5]
    have m_8 : fp_53 36 4 = 3 := (hF 36 4 (by decide)).trans hf_36_4
    refine lv_aload_n hx hb dX3_does_53 rfl (lv_at hl 0 rfl) ?_
    refine lv_dup hx hb dX3_does_54 rfl ?_
    refine sl_gX_36_3_3 (v := v_2) hx hb hts hown hK hP (show fp_53 36 3 = v_2 from ev_2.symm) dX3_does_55 ?_
    refine lv_iconst (v := 1) hx hb dX3_does_58 ic_1 ?_
    refine lv_iadd hx hb dX3_does_59 ?_
    refine lv_topi (fun v_9 ev_9 => ?_)
    have q_10 : v_9.toInt = v_2.toInt + 1 := by rw [ev_9]; first | exact cm_add ti_1 (by omega) (by omega) | (have k1 : (1 : Int32).toInt = 1 := ti_1; exact (bn_addI (by omega) (by omega)).trans (by omega))
    refine sl_pX_36_3_3 (x := v_9) hx hb hts hown hh hA hK hP hS dX3_does_60 (fun f_11 H locs ef_11 hP hS => ?_)
    have hI : sgI loX hiX f_11 := by rw [ef_11]; exact sgI.put hI 36 3 (show 0 ≤ (v_9 : Int32).toInt ∧ (v_9 : Int32).toInt ≤ 19 from ⟨by omega, by omega⟩)
    have hF : sgK WkX3_does_3_0_0_f0_f3 f f_11 := sgK.put hF ef_11 (by rfl)
    refine lv_aload_n hx hb dX3_does_63 rfl (lv_at hl 0 rfl) ?_
    refine lv_iload hx hb dX3_does_64 (lv_at hl 4 rfl) ?_
    refine sg_gets hx hb hZ 2 rfl hS hown (hts _ (List.mem_cons_of_mem _ mw_174)) (fun _ h9 => h9) dX3_does_66 ?_
    refine lv_iload hx hb dX3_does_69 (lv_at hl 3 rfl) ?_
    refine sg_sald hx hb hZ 2 rfl hS (y := 0) (N := 8) (vp_in_iff.mpr (by decide)) dX3_does_71 ?_
    refine W.eq (g2 := F0 m 72 ls [.int (-1), .int 1, .ref (h 36)]) (by rfl) ?_
    refine lv_iload_n hx hb dX3_does_72 rfl (lv_at hl 1 rfl) ?_
    refine lv_iload hx hb dX3_does_73 (lv_at hl 2 rfl) ?_
    refine lv_iconst (v := 1) hx hb dX3_does_75 ic_1 ?_
    refine lv_iadd hx hb dX3_does_76 ?_
    refine W.eq (g2 := F0 m 77 ls [.int 1, .int x2, .int (-1), .int 1, .ref (h 36)]) (by rw [show (0 + 1 : Int32) = 1 from by decide]) ?_
    have c_12 : v_9 = 1 := Int32.toInt_inj.mp (by have k9 : (1 : Int32).toInt = 1 := ti_1; omega)
    have q_13 : (f_11 36 3).toInt = 1 := (congrArg Int32.toInt (show f_11 36 3 = 1 from (Eq.trans (by rw [ef_11, sg_up_s, sgu_s]) c_12))).trans (by decide)
    refine sg_calli (va_runV (As := [.int 1, .int (-1), .int x2, .int 1]) (rest := []) ⟨hx, hb, hml, hown, hts⟩ (kX3_runs_1_m1_1_f1_f3 l D ca za h hh f_11 L Q hI x2 (Eq.trans (by rw [ef_11, sg_up_s, sgu_s]) c_12) (by rw [ef_11, sg_up_s, sgu_n (by decide)]; exact m_8) (by have k0 : (1 : Int32).toInt = 1 := ti_1; have k1 : ((-1) : Int32).toInt = (-1) := ti_m1; have k3 : (1 : Int32).toInt = 1 := ti_1; omega) H.size) (sl_c3_runs_0_0_0_0_3 hts ⟨Nat.le_of_ble_eq_true rfl, Nat.le_of_ble_eq_true rfl⟩) (sl_vX_36 hA hK hP hS hZ) rfl rfl hl.1 rfl (lv_room (Nat.le_of_ble_eq_true rfl)) dX3_does_77 ⟨Nat.le_refl _, Nat.le_refl _⟩) hA hS (fun r_18 f_15 L_16 Q_17 H locs hq hP hS => ?_)
    obtain ⟨⟨ef9, eL9, eQ9⟩, hq, p_19, u_20⟩ := hq
    rw [ef9, eL9, eQ9] at hP; clear ef9 eL9 eQ9
    have k_23 : (1 : Int32).toInt = 1 := by decide
    have k_24 : ((-1) : Int32).toInt = (-1) := by decide
    have k_25 : (1 : Int32).toInt = 1 := by decide
    exact hret _ _ _ _ (r_18) f_11 L Q dX3_does_80 hP hS ⟨⟨hI, hF, rfl, rfl⟩, trivial, ⟨by omega, by omega⟩, (Eq.trans (Eq.symm (hs.trans ((spl_e ev_2 (spl_e ev_5 (spl_e ev_9 (spl_e ef_11 (spl_e u_20 rfl)))))))) hsp)⟩
  refine lv_iload_n hx hb dX3_does_0 rfl (lv_at hl 1 rfl) ?_
  refine lv_iload_n hx hb dX3_does_1 rfl (lv_at hl 2 rfl) ?_
  refine sg_calli (va_runS (As := [.int 3, .int 0]) (rest := []) ⟨hx, hb, hml, hown, hts⟩ (kX3_ownerOf_3_0 l D ca za h hh f L Q hI H.size) (va_cwS 2 hts (gw_S (fun _ h => List.mem_cons_of_mem _ h) mw_189 mw_190 mw_47 mw_188) rfl rfl rfl hd_yX3_ownerOf.2 ⟨Nat.le_of_ble_eq_true rfl, Nat.le_of_ble_eq_true rfl⟩) (sg_preS hA hK hP hS hZ) rfl rfl hl.1 rfl (lv_room (Nat.le_of_ble_eq_true rfl)) dX3_does_2 ⟨Nat.le_refl _, Nat.le_refl _⟩) hA hS (fun r_31 f_28 L_29 Q_30 H locs hq hP hS => ?_)
  obtain ⟨⟨ef9, eL9, eQ9⟩, hq, u_32⟩ := hq
  rw [ef9, eL9, eQ9] at hP; clear ef9 eL9 eQ9
  obtain rfl : r_31 = 0 := Int32.toInt_inj.mp (by have k9 : (0 : Int32).toInt = 0 := ti_0; omega)
  refine lv_istore (lv' := [(5, .int 0), (0, .ref (h 36)), (1, .int 3), (2, .int 0), (3, .int x2), (4, .int 0)]) hx hb dX3_does_5 hl (by decide) rfl (fun ls hl => ?_)
  refine lv_iload hx hb dX3_does_7 (lv_at hl 0 rfl) ?_
  refine lv_if_lt (tgt := 19) hx hb dX3_does_9 (by decide) (fun c => absurd c (by decide)) (fun c => ?_)
  refine lv_iload hx hb dX3_does_12 (lv_at hl 5 rfl) ?_
  refine lv_bipush (v := 40) hx hb dX3_does_14 bp_40 ?_
  refine lv_icmp_le (tgt := 21) hx hb dX3_does_16 (by decide) (fun c => ?_) (fun c => absurd c (by decide))
  refine sg_gets hx hb hZ 3 rfl hS hown (hts _ (List.mem_cons_of_mem _ mw_173)) (fun _ h9 => h9) dX3_does_21 ?_
  refine lv_iload hx hb dX3_does_24 (lv_at hl 0 rfl) ?_
  refine lv_iconst (v := 4) hx hb dX3_does_26 ic_4 ?_
  refine lv_imul hx hb dX3_does_27 ?_
  refine W.eq (g2 := F0 m 28 ls [.int 0, .ref (za 3)]) (by rw [show (0 * 4 : Int32) = 0 from by decide]) ?_
  refine lv_iload_n hx hb dX3_does_28 rfl (lv_at hl 3 rfl) ?_
  refine lv_iadd hx hb dX3_does_29 ?_
  refine W.eq (g2 := F0 m 30 ls [.int 0, .ref (za 3)]) (by rw [show (0 + 0 : Int32) = 0 from by decide]) ?_
  refine sg_sald hx hb hZ 3 rfl hS (y := 0) (N := 32) (vp_in_iff.mpr (by decide)) dX3_does_30 ?_
  refine W.eq (g2 := F0 m 31 ls [.int 1]) (by rfl) ?_
  refine lv_istore (lv' := [(6, .int 1), (5, .int 0), (0, .ref (h 36)), (1, .int 3), (2, .int 0), (3, .int x2), (4, .int 0)]) hx hb dX3_does_31 hl (by decide) rfl (fun ls hl => ?_)
  refine lv_aload_n hx hb dX3_does_33 rfl (lv_at hl 2 rfl) ?_
  refine sl_gX_36_3_3 (v := 0) hx hb hts hown hK hP (show f 36 3 = 0 from hf_36_3) dX3_does_34 ?_
  refine lv_bipush (v := 24) hx hb dX3_does_37 bp_24 ?_
  refine lv_icmp_ge (tgt := 53) hx hb dX3_does_39 (by decide) (fun c => absurd c (by decide)) (fun c => ?_)
  refine lv_aload_n hx hb dX3_does_42 rfl (lv_at hl 2 rfl) ?_
  refine sl_gX_36_1_3 hx hb hts hown hK hP dX3_does_43 ?_
  refine lv_aload_n hx hb dX3_does_46 rfl (lv_at hl 2 rfl) ?_
  refine sl_gX_36_3_3 (v := 0) hx hb hts hown hK hP (show f 36 3 = 0 from hf_36_3) dX3_does_47 ?_
  refine lv_iload hx hb dX3_does_50 (lv_at hl 0 rfl) ?_
  refine sg_iast hx hb hh hA hK hP hS 38 (by decide) 0 (fun _ => rfl) rfl (i := 0) (x := 1) (vp_in_iff.mpr (by decide)) dX3_does_52 (fun f_33 H locs ef_33 hP hS => ?_)
  have ef_33 : f_33 = sg_up f 38 (sgu (f 38) 0 1) := ef_33
  have hI : sgI loX hiX f_33 := by rw [ef_33]; exact sgI.put hI 38 0 (show 0 ≤ (1 : Int32).toInt ∧ (1 : Int32).toInt ≤ 81 from by decide)
  have hF : sgK WkX3_does_3_0_0_f0_f3 f f_33 := sgK.put hF ef_33 (by rfl)
  exact blk_53 f_33 _ _ _ (hs.trans ((spl_e u_32 (spl_e ef_33 rfl)))) (by have zz36_3 : (f_33 36 3).toInt = 0 := (congrArg Int32.toInt (show f_33 36 3 = 0 from (by rw [ef_33, sg_up_n (by decide)]; exact hf_36_3))).trans (by decide); exact ⟨by omega, by omega⟩) (by have zz36_4 : (f_33 36 4).toInt = 3 := (congrArg Int32.toInt (show f_33 36 4 = 3 from (by rw [ef_33, sg_up_n (by decide)]; exact hf_36_4))).trans (by decide); exact ⟨by omega, by omega⟩) hI hF hP hS (lv_sub hl [2, 5, 6, 1, 0] rfl)

set_option maxHeartbeats 4000000 in
set_option maxRecDepth 100000 in
theorem kX3_ownerOf_4_0 (l : Launch) (D : va_G) (ca : Nat → ClassId) (za h : Nat → Nat) (hh : sgH 52 h) (f : sg_F) (L : sg_L) (Q : sg_Q) (hI : sgI loX hiX f) (sz : Nat) : Met l yX3_ownerOf gwX3_ownerOf { frames := 0, cells := 0, slots := 0, locals := 0 } (sgP D vwCl (tyX ca) 52 h (eX ca h) zcX za f L Q sz [.int 4, .int 0]) (sgQi D vwCl 52 h (eX ca h) sz (fun r f1 L1 Q1 => ((f1 = f ∧ L1 = L ∧ Q1 = Q) ∧ (1 ≤ r.toInt ∧ r.toInt ≤ 1) ∧ (r) = sX3_ownerOf_4_0 f L))) 0 0 (sgA 52 h sz) := by
  refine sg_ofWi (cc := cX3_ownerOf) (maxL := 4) RX3 (by decide) rfl rfl (Nat.le_of_ble_eq_true rfl) ?_
  intro p e s m below meth cd Qz ls hx hb hml hown hts hK hZ hP hS hl hret
  have hA := sgY.self (n := 52) (h := h) (sz := s.heap.size)
  have hl : lv_has ls 4 [(0, .int 4), (1, .int 0)] := hl
  obtain ⟨H, hH⟩ : ∃ z : Heap, z = s.heap := ⟨_, rfl⟩
  obtain ⟨locs, hlo⟩ : ∃ z : List Loc, z = [] := ⟨_, rfl⟩
  have hP : va_P D vwCl (sgw 52 h (eX ca h) f L Q) H := by rw [hH]; exact hP
  have hS : va_S (sgA 52 h s.heap.size) s.heap H locs := by rw [hH, hlo]; exact hS
  suffices hgo : W p l e ({ frames := 0, cells := 0, slots := 0, locals := 0 }) s m ([.int 4, .int 0] : List Value).toArray below meth cd H locs 0 0 Qz (F0 m 0 ls []) by rw [hH, hlo] at hgo; exact hgo
  clear hH hlo
  obtain ⟨sp, hsp⟩ : ∃ z : Int32, z = sX3_ownerOf_4_0 f L := ⟨_, rfl⟩
  have hs : sp = sX3_ownerOf_4_0 f L := hsp
  refine lv_iload_n hx hb dX3_ownerOf_0 rfl (lv_at hl 0 rfl) ?_
  refine lv_istore_n (lv' := [(2, .int 4), (0, .int 4), (1, .int 0)]) hx hb dX3_ownerOf_1 rfl hl (by decide) rfl (fun ls hl => ?_)
  refine lv_iconst (v := 0) hx hb dX3_ownerOf_2 ic_0 ?_
  refine lv_istore_n (lv' := [(3, .int 0), (2, .int 4), (0, .int 4), (1, .int 0)]) hx hb dX3_ownerOf_3 rfl hl (by decide) rfl (fun ls hl => ?_)
  refine lv_iload_n hx hb dX3_ownerOf_4 rfl (lv_at hl 0 rfl) ?_
  refine lv_bipush (v := 8) hx hb dX3_ownerOf_5 bp_8 ?_
  refine lv_icmp_ge (tgt := 40) hx hb dX3_ownerOf_7 (by decide) (fun c => absurd c (by decide)) (fun c => ?_)
  refine lv_iload_n hx hb dX3_ownerOf_10 rfl (lv_at hl 1 rfl) ?_
  refine lv_if_lt (tgt := 40) hx hb dX3_ownerOf_11 (by decide) (fun c => absurd c (by decide)) (fun c => ?_)
  refine sg_gets hx hb hZ 3 rfl hS hown (hts _ (List.mem_cons_of_mem _ mw_173)) (fun _ h9 => h9) dX3_ownerOf_14 ?_
  refine lv_iload_n hx hb dX3_ownerOf_17 rfl (lv_at hl 1 rfl) ?_
  refine lv_iconst (v := 4) hx hb dX3_ownerOf_18 ic_4 ?_
  refine lv_imul hx hb dX3_ownerOf_19 ?_
  refine W.eq (g2 := F0 m 20 ls [.int 16, .ref (za 3)]) (by rw [show (4 * 4 : Int32) = 16 from by decide]) ?_
  refine lv_iload_n hx hb dX3_ownerOf_20 rfl (lv_at hl 3 rfl) ?_
  refine lv_iadd hx hb dX3_ownerOf_21 ?_
  refine W.eq (g2 := F0 m 22 ls [.int 16, .ref (za 3)]) (by rw [show (16 + 0 : Int32) = 16 from by decide]) ?_
  refine sg_sald hx hb hZ 3 rfl hS (y := 16) (N := 32) (vp_in_iff.mpr (by decide)) dX3_ownerOf_22 ?_
  refine W.eq (g2 := F0 m 23 ls [.int 0]) (by rfl) ?_
  refine lv_if_eq (tgt := 28) hx hb dX3_ownerOf_23 (by decide) (fun c => ?_) (fun c => absurd c (by decide))
  refine sg_gets hx hb hZ 2 rfl hS hown (hts _ (List.mem_cons_of_mem _ mw_174)) (fun _ h9 => h9) dX3_ownerOf_28 ?_
  refine lv_iload_n hx hb dX3_ownerOf_31 rfl (lv_at hl 1 rfl) ?_
  refine sg_sald hx hb hZ 2 rfl hS (y := 4) (N := 8) (vp_in_iff.mpr (by decide)) dX3_ownerOf_32 ?_
  refine W.eq (g2 := F0 m 33 ls [.int 1]) (by rfl) ?_
  refine lv_istore_n (lv' := [(2, .int 1), (3, .int 0), (0, .int 4), (1, .int 0)]) hx hb dX3_ownerOf_33 rfl hl (by decide) rfl (fun ls hl => ?_)
  refine lv_iinc (v := 1) (lv' := [(3, .int 1), (2, .int 1), (0, .int 4), (1, .int 0)]) hx hb dX3_ownerOf_34 hl (k := 1) rfl (by decide) (by decide) rfl (fun ls hl => ?_)
  refine lv_goto (tgt := 4) hx hb dX3_ownerOf_37 (by decide) ?_
  refine lv_iload_n hx hb dX3_ownerOf_4 rfl (lv_at hl 0 rfl) ?_
  refine lv_bipush (v := 8) hx hb dX3_ownerOf_5 bp_8 ?_
  refine lv_icmp_ge (tgt := 40) hx hb dX3_ownerOf_7 (by decide) (fun c => absurd c (by decide)) (fun c => ?_)
  refine lv_iload_n hx hb dX3_ownerOf_10 rfl (lv_at hl 1 rfl) ?_
  refine lv_if_lt (tgt := 40) hx hb dX3_ownerOf_11 (by decide) (fun c => absurd c (by decide)) (fun c => ?_)
  refine sg_gets hx hb hZ 3 rfl hS hown (hts _ (List.mem_cons_of_mem _ mw_173)) (fun _ h9 => h9) dX3_ownerOf_14 ?_
  refine lv_iload_n hx hb dX3_ownerOf_17 rfl (lv_at hl 1 rfl) ?_
  refine lv_iconst (v := 4) hx hb dX3_ownerOf_18 ic_4 ?_
  refine lv_imul hx hb dX3_ownerOf_19 ?_
  refine W.eq (g2 := F0 m 20 ls [.int 4, .ref (za 3)]) (by rw [show (1 * 4 : Int32) = 4 from by decide]) ?_
  refine lv_iload_n hx hb dX3_ownerOf_20 rfl (lv_at hl 3 rfl) ?_
  refine lv_iadd hx hb dX3_ownerOf_21 ?_
  refine W.eq (g2 := F0 m 22 ls [.int 4, .ref (za 3)]) (by rw [show (4 + 0 : Int32) = 4 from by decide]) ?_
  refine sg_sald hx hb hZ 3 rfl hS (y := 4) (N := 32) (vp_in_iff.mpr (by decide)) dX3_ownerOf_22 ?_
  refine W.eq (g2 := F0 m 23 ls [.int 20]) (by rfl) ?_
  refine lv_if_eq (tgt := 28) hx hb dX3_ownerOf_23 (by decide) (fun c => absurd c (by decide)) (fun c => ?_)
  refine lv_iload_n hx hb dX3_ownerOf_26 rfl (lv_at hl 1 rfl) ?_
  have k99 : (1 : Int32).toInt = 1 := ti_1
  exact hret _ _ _ _ (1) f L Q dX3_ownerOf_27 hP hS ⟨⟨rfl, rfl, rfl⟩, (by decide), (Eq.trans (Eq.symm hs) hsp)⟩

set_option maxHeartbeats 4000000 in
set_option maxRecDepth 100000 in
theorem kX3_runs_1_m1_2_f2_f4 (l : Launch) (D : va_G) (ca : Nat → ClassId) (za h : Nat → Nat) (hh : sgH 52 h) (f : sg_F) (L : sg_L) (Q : sg_Q) (hI : sgI loX hiX f) (x2 : Int32) (hf_36_3 : f 36 3 = 2) (hf_36_4 : f 36 4 = 4) (p0 : 2 ≤ (f 36 3).toInt ∧ (f 36 3).toInt ≤ 2) (sz : Nat) : Met l yX3_runs gwX3_runs { frames := 0, cells := 0, slots := 0, locals := 0 } (sgP D vwCl (tyX ca) 52 h (eX ca h) zcX za f L Q sz [.ref (h 36), .int 1, .int (-1), .int x2, .int 2]) (sgQi D vwCl 52 h (eX ca h) sz (fun r f1 L1 Q1 => ((f1 = f ∧ L1 = L ∧ Q1 = Q) ∧ True ∧ (2 ≤ (f1 36 3).toInt ∧ (f1 36 3).toInt ≤ 2) ∧ (r) = sX3_runs_1_m1_2_f2_f4 x2 f L))) 0 0 (sgA 52 h sz) := by
  refine sg_ofWi (cc := cX3_runs) (maxL := 5) RX3 (by decide) rfl rfl (Nat.le_of_ble_eq_true rfl) ?_
  intro p e s m below meth cd Qz ls hx hb hml hown hts hK hZ hP hS hl hret
  have hA := sgY.self (n := 52) (h := h) (sz := s.heap.size)
  have hl : lv_has ls 5 [(0, .ref (h 36)), (1, .int 1), (2, .int (-1)), (3, .int x2), (4, .int 2)] := hl
  obtain ⟨H, hH⟩ : ∃ z : Heap, z = s.heap := ⟨_, rfl⟩
  obtain ⟨locs, hlo⟩ : ∃ z : List Loc, z = [] := ⟨_, rfl⟩
  have hP : va_P D vwCl (sgw 52 h (eX ca h) f L Q) H := by rw [hH]; exact hP
  have hS : va_S (sgA 52 h s.heap.size) s.heap H locs := by rw [hH, hlo]; exact hS
  suffices hgo : W p l e ({ frames := 0, cells := 0, slots := 0, locals := 0 }) s m ([.ref (h 36), .int 1, .int (-1), .int x2, .int 2] : List Value).toArray below meth cd H locs 0 0 Qz (F0 m 0 ls []) by rw [hH, hlo] at hgo; exact hgo
  clear hH hlo
  obtain ⟨sp, hsp⟩ : ∃ z : Int32, z = sX3_runs_1_m1_2_f2_f4 x2 f L := ⟨_, rfl⟩
  have hs : sp = sX3_runs_1_m1_2_f2_f4 x2 f L := hsp
  have o_1 : (f 36 3).toInt = 2 := (congrArg Int32.toInt (show f 36 3 = 2 from hf_36_3)).trans (by decide)
  refine lv_iload_n hx hb dX3_runs_0 rfl (lv_at hl 1 rfl) ?_
  refine lv_lookup (x := 1) (off := 115) (tgt := 116) hx hb dX3_runs_1 (by decide) (by decide) (by decide) ?_
  refine lv_iload_n hx hb dX3_runs_116 rfl (lv_at hl 3 rfl) ?_
  refine lv_aload_n hx hb dX3_runs_117 rfl (lv_at hl 0 rfl) ?_
  refine sl_gX_36_5_3 (v := (f 36 5)) hx hb hts hown hK hP rfl dX3_runs_118 ?_
  refine lv_topi (fun v_2 ev_2 => ?_)
  have q_3 : 0 ≤ v_2.toInt ∧ v_2.toInt ≤ 49 := by rw [ev_2]; exact hI 36 5
  refine lv_iadd hx hb dX3_runs_121 ?_
  refine lv_topi (fun v_4 ev_4 => ?_)
  have q_5 : (f 36 3).toInt = 2 := (congrArg Int32.toInt (show f 36 3 = 2 from hf_36_3)).trans (by decide)
  exact hret _ _ _ _ (v_4) f L Q dX3_runs_122 hP hS ⟨⟨rfl, rfl, rfl⟩, trivial, ⟨by omega, by omega⟩, (Eq.trans (Eq.symm (hs.trans ((spl_e ev_2 (spl_e ev_4 rfl))))) hsp)⟩

abbrev WkX3_does_0_0_1_f1_f4 : List (Nat × Nat × Option Nat) := [(36, 36, some 3), (38, 38, some 1)]
set_option maxHeartbeats 4000000 in
set_option maxRecDepth 100000 in
theorem kX3_does_0_0_1_f1_f4 (l : Launch) (D : va_G) (ca : Nat → ClassId) (za h : Nat → Nat) (hh : sgH 52 h) (f : sg_F) (L : sg_L) (Q : sg_Q) (hI : sgI loX hiX f) (x2 : Int32) (hf_36_3 : f 36 3 = 1) (hf_36_4 : f 36 4 = 4) (p0 : 1 ≤ (f 36 3).toInt ∧ (f 36 3).toInt ≤ 1) (sz : Nat) : Met l yX3_does gwX3_does { frames := 1, cells := 0, slots := 0, locals := 24 } (sgP D vwCl (tyX ca) 52 h (eX ca h) zcX za f L Q sz [.ref (h 36), .int 0, .int 0, .int x2, .int 1]) (sgQi D vwCl 52 h (eX ca h) sz (fun r f1 L1 Q1 => ((sgI loX hiX f1 ∧ sgK WkX3_does_0_0_1_f1_f4 f f1 ∧ L1 = L ∧ Q1 = Q) ∧ True ∧ (2 ≤ (f1 36 3).toInt ∧ (f1 36 3).toInt ≤ 2) ∧ (r, f1) = sX3_does_0_0_1_f1_f4 x2 f L))) 0 0 (sgA 52 h sz) := by
  refine sg_ofWi (cc := cX3_does) (maxL := 7) RX3 (by decide) rfl rfl (Nat.le_of_ble_eq_true rfl) ?_
  intro p e s m below meth cd Qz ls hx hb hml hown hts hK hZ hP hS hl hret
  have hA := sgY.self (n := 52) (h := h) (sz := s.heap.size)
  have hl : lv_has ls 7 [(0, .ref (h 36)), (1, .int 0), (2, .int 0), (3, .int x2), (4, .int 1)] := hl
  obtain ⟨H, hH⟩ : ∃ z : Heap, z = s.heap := ⟨_, rfl⟩
  obtain ⟨locs, hlo⟩ : ∃ z : List Loc, z = [] := ⟨_, rfl⟩
  have hP : va_P D vwCl (sgw 52 h (eX ca h) f L Q) H := by rw [hH]; exact hP
  have hS : va_S (sgA 52 h s.heap.size) s.heap H locs := by rw [hH, hlo]; exact hS
  suffices hgo : W p l e ({ frames := 1, cells := 0, slots := 0, locals := 24 }) s m ([.ref (h 36), .int 0, .int 0, .int x2, .int 1] : List Value).toArray below meth cd H locs 0 0 Qz (F0 m 0 ls []) by rw [hH, hlo] at hgo; exact hgo
  clear hH hlo
  obtain ⟨sp, hsp⟩ : ∃ z : Int32 × sg_F, z = sX3_does_0_0_1_f1_f4 x2 f L := ⟨_, rfl⟩
  have hs : sp = sX3_does_0_0_1_f1_f4 x2 f L := hsp
  have o_1 : (f 36 3).toInt = 1 := (congrArg Int32.toInt (show f 36 3 = 1 from hf_36_3)).trans (by decide)
  have hF : sgK WkX3_does_0_0_1_f1_f4 f f := sgK.rf
  have blk_53 : ∀ (fp_53 : sg_F) (H : Heap) (locs : List Loc) (ls : Array Slot), sp = sX3_does_0_0_1_f1_f4_b53 x2 fp_53 L → 1 ≤ (fp_53 36 3).toInt ∧ (fp_53 36 3).toInt ≤ 1 → 4 ≤ (fp_53 36 4).toInt ∧ (fp_53 36 4).toInt ≤ 4 → sgI loX hiX fp_53 → sgK WkX3_does_0_0_1_f1_f4 f fp_53 → va_P D vwCl (sgw 52 h (eX ca h) fp_53 L Q) H → va_S (sgA 52 h s.heap.size) s.heap H locs → lv_has ls 7 [(0, .ref (h 36)), (3, .int x2), (4, .int 1), (5, .int 0), (6, .int 1)] → W p l e ({ frames := 1, cells := 0, slots := 0, locals := 24 }) s m ([.ref (h 36), .int 0, .int 0, .int x2, .int 1] : List Value).toArray below meth cd H locs 0 0 Qz (F0 m 53 ls []) := by
    intro fp_53 H locs ls hs hy0_53 hy1_53 hI hF hP hS hl
    obtain ⟨v_2, ev_2⟩ : ∃ z : Int32, z = fp_53 36 3 := ⟨_, rfl⟩
    have q_3 : 0 ≤ v_2.toInt ∧ v_2.toInt ≤ 19 := by rw [ev_2]; exact hI 36 3
    have q_4 : (fp_53 36 3).toInt = v_2.toInt := by rw [ev_2]
    obtain ⟨v_5, ev_5⟩ : ∃ z : Int32, z = fp_53 36 4 := ⟨_, rfl⟩
    have q_6 : 0 ≤ v_5.toInt ∧ v_5.toInt ≤ 7 := by rw [ev_5]; exact hI 36 4
    have q_7 : (fp_53 36 4).toInt = v_5.toInt := by rw [ev_5]
    have m_8 : fp_53 36 4 = 4 := (hF 36 4 (by decide)).trans hf_36_4
    refine lv_aload_n hx hb dX3_does_53 rfl (lv_at hl 0 rfl) ?_
    refine lv_dup hx hb dX3_does_54 rfl ?_
    refine sl_gX_36_3_3 (v := v_2) hx hb hts hown hK hP (show fp_53 36 3 = v_2 from ev_2.symm) dX3_does_55 ?_
    refine lv_iconst (v := 1) hx hb dX3_does_58 ic_1 ?_
    refine lv_iadd hx hb dX3_does_59 ?_
    refine lv_topi (fun v_9 ev_9 => ?_)
    have q_10 : v_9.toInt = v_2.toInt + 1 := by rw [ev_9]; first | exact cm_add ti_1 (by omega) (by omega) | (have k1 : (1 : Int32).toInt = 1 := ti_1; exact (bn_addI (by omega) (by omega)).trans (by omega))
    refine sl_pX_36_3_3 (x := v_9) hx hb hts hown hh hA hK hP hS dX3_does_60 (fun f_11 H locs ef_11 hP hS => ?_)
    have hI : sgI loX hiX f_11 := by rw [ef_11]; exact sgI.put hI 36 3 (show 0 ≤ (v_9 : Int32).toInt ∧ (v_9 : Int32).toInt ≤ 19 from ⟨by omega, by omega⟩)
    have hF : sgK WkX3_does_0_0_1_f1_f4 f f_11 := sgK.put hF ef_11 (by rfl)
    refine lv_aload_n hx hb dX3_does_63 rfl (lv_at hl 0 rfl) ?_
    refine lv_iload hx hb dX3_does_64 (lv_at hl 4 rfl) ?_
    refine sg_gets hx hb hZ 2 rfl hS hown (hts _ (List.mem_cons_of_mem _ mw_174)) (fun _ h9 => h9) dX3_does_66 ?_
    refine lv_iload hx hb dX3_does_69 (lv_at hl 3 rfl) ?_
    refine sg_sald hx hb hZ 2 rfl hS (y := 0) (N := 8) (vp_in_iff.mpr (by decide)) dX3_does_71 ?_
    refine W.eq (g2 := F0 m 72 ls [.int (-1), .int 1, .ref (h 36)]) (by rfl) ?_
    refine lv_iload_n hx hb dX3_does_72 rfl (lv_at hl 1 rfl) ?_
    refine lv_iload hx hb dX3_does_73 (lv_at hl 2 rfl) ?_
    refine lv_iconst (v := 1) hx hb dX3_does_75 ic_1 ?_
    refine lv_iadd hx hb dX3_does_76 ?_
    refine W.eq (g2 := F0 m 77 ls [.int 2, .int x2, .int (-1), .int 1, .ref (h 36)]) (by rw [show (1 + 1 : Int32) = 2 from by decide]) ?_
    have c_12 : v_9 = 2 := Int32.toInt_inj.mp (by have k9 : (2 : Int32).toInt = 2 := ti_2; omega)
    have q_13 : (f_11 36 3).toInt = 2 := (congrArg Int32.toInt (show f_11 36 3 = 2 from (Eq.trans (by rw [ef_11, sg_up_s, sgu_s]) c_12))).trans (by decide)
    refine sg_calli (va_runV (As := [.int 1, .int (-1), .int x2, .int 2]) (rest := []) ⟨hx, hb, hml, hown, hts⟩ (kX3_runs_1_m1_2_f2_f4 l D ca za h hh f_11 L Q hI x2 (Eq.trans (by rw [ef_11, sg_up_s, sgu_s]) c_12) (by rw [ef_11, sg_up_s, sgu_n (by decide)]; exact m_8) (by have k0 : (1 : Int32).toInt = 1 := ti_1; have k1 : ((-1) : Int32).toInt = (-1) := ti_m1; have k3 : (2 : Int32).toInt = 2 := ti_2; omega) H.size) (sl_c3_runs_0_0_0_0_3 hts ⟨Nat.le_of_ble_eq_true rfl, Nat.le_of_ble_eq_true rfl⟩) (sl_vX_36 hA hK hP hS hZ) rfl rfl hl.1 rfl (lv_room (Nat.le_of_ble_eq_true rfl)) dX3_does_77 ⟨Nat.le_refl _, Nat.le_refl _⟩) hA hS (fun r_18 f_15 L_16 Q_17 H locs hq hP hS => ?_)
    obtain ⟨⟨ef9, eL9, eQ9⟩, hq, p_19, u_20⟩ := hq
    rw [ef9, eL9, eQ9] at hP; clear ef9 eL9 eQ9
    have k_23 : (1 : Int32).toInt = 1 := by decide
    have k_24 : ((-1) : Int32).toInt = (-1) := by decide
    have k_25 : (2 : Int32).toInt = 2 := by decide
    exact hret _ _ _ _ (r_18) f_11 L Q dX3_does_80 hP hS ⟨⟨hI, hF, rfl, rfl⟩, trivial, ⟨by omega, by omega⟩, (Eq.trans (Eq.symm (hs.trans ((spl_e ev_2 (spl_e ev_5 (spl_e ev_9 (spl_e ef_11 (spl_e u_20 rfl)))))))) hsp)⟩
  refine lv_iload_n hx hb dX3_does_0 rfl (lv_at hl 1 rfl) ?_
  refine lv_iload_n hx hb dX3_does_1 rfl (lv_at hl 2 rfl) ?_
  refine sg_calli (va_runS (As := [.int 0, .int 0]) (rest := []) ⟨hx, hb, hml, hown, hts⟩ (kX3_ownerOf_0_0 l D ca za h hh f L Q hI H.size) (va_cwS 2 hts (gw_S (fun _ h => List.mem_cons_of_mem _ h) mw_189 mw_190 mw_47 mw_188) rfl rfl rfl hd_yX3_ownerOf.2 ⟨Nat.le_of_ble_eq_true rfl, Nat.le_of_ble_eq_true rfl⟩) (sg_preS hA hK hP hS hZ) rfl rfl hl.1 rfl (lv_room (Nat.le_of_ble_eq_true rfl)) dX3_does_2 ⟨Nat.le_refl _, Nat.le_refl _⟩) hA hS (fun r_31 f_28 L_29 Q_30 H locs hq hP hS => ?_)
  obtain ⟨⟨ef9, eL9, eQ9⟩, hq, u_32⟩ := hq
  rw [ef9, eL9, eQ9] at hP; clear ef9 eL9 eQ9
  obtain rfl : r_31 = 0 := Int32.toInt_inj.mp (by have k9 : (0 : Int32).toInt = 0 := ti_0; omega)
  refine lv_istore (lv' := [(5, .int 0), (0, .ref (h 36)), (1, .int 0), (2, .int 0), (3, .int x2), (4, .int 1)]) hx hb dX3_does_5 hl (by decide) rfl (fun ls hl => ?_)
  refine lv_iload hx hb dX3_does_7 (lv_at hl 0 rfl) ?_
  refine lv_if_lt (tgt := 19) hx hb dX3_does_9 (by decide) (fun c => absurd c (by decide)) (fun c => ?_)
  refine lv_iload hx hb dX3_does_12 (lv_at hl 5 rfl) ?_
  refine lv_bipush (v := 40) hx hb dX3_does_14 bp_40 ?_
  refine lv_icmp_le (tgt := 21) hx hb dX3_does_16 (by decide) (fun c => ?_) (fun c => absurd c (by decide))
  refine sg_gets hx hb hZ 3 rfl hS hown (hts _ (List.mem_cons_of_mem _ mw_173)) (fun _ h9 => h9) dX3_does_21 ?_
  refine lv_iload hx hb dX3_does_24 (lv_at hl 0 rfl) ?_
  refine lv_iconst (v := 4) hx hb dX3_does_26 ic_4 ?_
  refine lv_imul hx hb dX3_does_27 ?_
  refine W.eq (g2 := F0 m 28 ls [.int 0, .ref (za 3)]) (by rw [show (0 * 4 : Int32) = 0 from by decide]) ?_
  refine lv_iload_n hx hb dX3_does_28 rfl (lv_at hl 3 rfl) ?_
  refine lv_iadd hx hb dX3_does_29 ?_
  refine W.eq (g2 := F0 m 30 ls [.int 0, .ref (za 3)]) (by rw [show (0 + 0 : Int32) = 0 from by decide]) ?_
  refine sg_sald hx hb hZ 3 rfl hS (y := 0) (N := 32) (vp_in_iff.mpr (by decide)) dX3_does_30 ?_
  refine W.eq (g2 := F0 m 31 ls [.int 1]) (by rfl) ?_
  refine lv_istore (lv' := [(6, .int 1), (5, .int 0), (0, .ref (h 36)), (1, .int 0), (2, .int 0), (3, .int x2), (4, .int 1)]) hx hb dX3_does_31 hl (by decide) rfl (fun ls hl => ?_)
  refine lv_aload_n hx hb dX3_does_33 rfl (lv_at hl 2 rfl) ?_
  refine sl_gX_36_3_3 (v := 1) hx hb hts hown hK hP (show f 36 3 = 1 from hf_36_3) dX3_does_34 ?_
  refine lv_bipush (v := 24) hx hb dX3_does_37 bp_24 ?_
  refine lv_icmp_ge (tgt := 53) hx hb dX3_does_39 (by decide) (fun c => absurd c (by decide)) (fun c => ?_)
  refine lv_aload_n hx hb dX3_does_42 rfl (lv_at hl 2 rfl) ?_
  refine sl_gX_36_1_3 hx hb hts hown hK hP dX3_does_43 ?_
  refine lv_aload_n hx hb dX3_does_46 rfl (lv_at hl 2 rfl) ?_
  refine sl_gX_36_3_3 (v := 1) hx hb hts hown hK hP (show f 36 3 = 1 from hf_36_3) dX3_does_47 ?_
  refine lv_iload hx hb dX3_does_50 (lv_at hl 0 rfl) ?_
  refine sg_iast hx hb hh hA hK hP hS 38 (by decide) 0 (fun _ => rfl) rfl (i := 1) (x := 1) (vp_in_iff.mpr (by decide)) dX3_does_52 (fun f_33 H locs ef_33 hP hS => ?_)
  have ef_33 : f_33 = sg_up f 38 (sgu (f 38) 1 1) := ef_33
  have hI : sgI loX hiX f_33 := by rw [ef_33]; exact sgI.put hI 38 1 (show 0 ≤ (1 : Int32).toInt ∧ (1 : Int32).toInt ≤ 81 from by decide)
  have hF : sgK WkX3_does_0_0_1_f1_f4 f f_33 := sgK.put hF ef_33 (by rfl)
  exact blk_53 f_33 _ _ _ (hs.trans ((spl_e u_32 (spl_e ef_33 rfl)))) (by have zz36_3 : (f_33 36 3).toInt = 1 := (congrArg Int32.toInt (show f_33 36 3 = 1 from (by rw [ef_33, sg_up_n (by decide)]; exact hf_36_3))).trans (by decide); exact ⟨by omega, by omega⟩) (by have zz36_4 : (f_33 36 4).toInt = 4 := (congrArg Int32.toInt (show f_33 36 4 = 4 from (by rw [ef_33, sg_up_n (by decide)]; exact hf_36_4))).trans (by decide); exact ⟨by omega, by omega⟩) hI hF hP hS (lv_sub hl [2, 5, 6, 1, 0] rfl)

abbrev WkX3_runs_20_0_1_f1_f4 : List (Nat × Nat × Option Nat) := [(36, 36, some 3), (38, 38, some 1)]
set_option maxHeartbeats 4000000 in
set_option maxRecDepth 100000 in
theorem kX3_runs_20_0_1_f1_f4 (l : Launch) (D : va_G) (ca : Nat → ClassId) (za h : Nat → Nat) (hh : sgH 52 h) (f : sg_F) (L : sg_L) (Q : sg_Q) (hI : sgI loX hiX f) (x2 : Int32) (hf_36_3 : f 36 3 = 1) (hf_36_4 : f 36 4 = 4) (p0 : 1 ≤ (f 36 3).toInt ∧ (f 36 3).toInt ≤ 1) (sz : Nat) : Met l yX3_runs gwX3_runs { frames := 2, cells := 0, slots := 0, locals := 50 } (sgP D vwCl (tyX ca) 52 h (eX ca h) zcX za f L Q sz [.ref (h 36), .int 20, .int 0, .int x2, .int 1]) (sgQi D vwCl 52 h (eX ca h) sz (fun r f1 L1 Q1 => ((sgI loX hiX f1 ∧ sgK WkX3_runs_20_0_1_f1_f4 f f1 ∧ L1 = L ∧ Q1 = Q) ∧ True ∧ (2 ≤ (f1 36 3).toInt ∧ (f1 36 3).toInt ≤ 2) ∧ (r, f1) = sX3_runs_20_0_1_f1_f4 x2 f L))) 0 0 (sgA 52 h sz) := by
  refine sg_ofWi (cc := cX3_runs) (maxL := 5) RX3 (by decide) rfl rfl (Nat.le_of_ble_eq_true rfl) ?_
  intro p e s m below meth cd Qz ls hx hb hml hown hts hK hZ hP hS hl hret
  have hA := sgY.self (n := 52) (h := h) (sz := s.heap.size)
  have hl : lv_has ls 5 [(0, .ref (h 36)), (1, .int 20), (2, .int 0), (3, .int x2), (4, .int 1)] := hl
  obtain ⟨H, hH⟩ : ∃ z : Heap, z = s.heap := ⟨_, rfl⟩
  obtain ⟨locs, hlo⟩ : ∃ z : List Loc, z = [] := ⟨_, rfl⟩
  have hP : va_P D vwCl (sgw 52 h (eX ca h) f L Q) H := by rw [hH]; exact hP
  have hS : va_S (sgA 52 h s.heap.size) s.heap H locs := by rw [hH, hlo]; exact hS
  suffices hgo : W p l e ({ frames := 2, cells := 0, slots := 0, locals := 50 }) s m ([.ref (h 36), .int 20, .int 0, .int x2, .int 1] : List Value).toArray below meth cd H locs 0 0 Qz (F0 m 0 ls []) by rw [hH, hlo] at hgo; exact hgo
  clear hH hlo
  obtain ⟨sp, hsp⟩ : ∃ z : Int32 × sg_F, z = sX3_runs_20_0_1_f1_f4 x2 f L := ⟨_, rfl⟩
  have hs : sp = sX3_runs_20_0_1_f1_f4 x2 f L := hsp
  have o_1 : (f 36 3).toInt = 1 := (congrArg Int32.toInt (show f 36 3 = 1 from hf_36_3)).trans (by decide)
  have hF : sgK WkX3_runs_20_0_1_f1_f4 f f := sgK.rf
  refine lv_iload_n hx hb dX3_runs_0 rfl (lv_at hl 1 rfl) ?_
  refine lv_lookup (x := 20) (off := 170) (tgt := 171) hx hb dX3_runs_1 (by decide) (by decide) (by decide) ?_
  refine lv_aload_n hx hb dX3_runs_171 rfl (lv_at hl 0 rfl) ?_
  refine lv_iload_n hx hb dX3_runs_172 rfl (lv_at hl 2 rfl) ?_
  refine lv_iconst (v := 0) hx hb dX3_runs_173 ic_0 ?_
  refine lv_iload_n hx hb dX3_runs_174 rfl (lv_at hl 3 rfl) ?_
  refine lv_iload hx hb dX3_runs_175 (lv_at hl 4 rfl) ?_
  have q_2 : (f 36 3).toInt = 1 := (congrArg Int32.toInt (show f 36 3 = 1 from hf_36_3)).trans (by decide)
  refine sg_calli (va_runV (As := [.int 0, .int 0, .int x2, .int 1]) (rest := []) ⟨hx, hb, hml, hown, hts⟩ (kX3_does_0_0_1_f1_f4 l D ca za h hh f L Q hI x2 hf_36_3 hf_36_4 (by have k0 : (0 : Int32).toInt = 0 := ti_0; have k1 : (0 : Int32).toInt = 0 := ti_0; have k3 : (1 : Int32).toInt = 1 := ti_1; omega) H.size) (sl_c3_does_1_0_0_24_3 hts ⟨Nat.le_of_ble_eq_true rfl, Nat.le_of_ble_eq_true rfl⟩) (sl_vX_36 hA hK hP hS hZ) rfl rfl hl.1 rfl (lv_room (Nat.le_of_ble_eq_true rfl)) dX3_runs_177 ⟨Nat.le_refl _, Nat.le_refl _⟩) hA hS (fun r_7 f_4 L_5 Q_6 H locs hq hP hS => ?_)
  obtain ⟨⟨hI, hk_f_4, eL9, eQ9⟩, hq, p_8, u_9⟩ := hq
  rw [eL9, eQ9] at hP; clear eL9 eQ9
  have hF : sgK WkX3_runs_20_0_1_f1_f4 f f_4 := sgK.tr hF hk_f_4 (by decide +kernel)
  obtain ⟨v_10, ev_10⟩ : ∃ z : Int32, z = f_4 36 3 := ⟨_, rfl⟩
  have q_11 : 0 ≤ v_10.toInt ∧ v_10.toInt ≤ 19 := by rw [ev_10]; exact hI 36 3
  have q_12 : (f_4 36 3).toInt = v_10.toInt := (congrArg Int32.toInt (show f_4 36 3 = v_10 from ev_10.symm))
  have k_14 : (0 : Int32).toInt = 0 := by decide
  have k_15 : (0 : Int32).toInt = 0 := by decide
  have k_16 : (1 : Int32).toInt = 1 := by decide
  refine lv_iconst (v := 3) hx hb dX3_runs_180 ic_3 ?_
  refine lv_iadd hx hb dX3_runs_181 ?_
  refine lv_topi (fun v_17 ev_17 => ?_)
  exact hret _ _ _ _ (v_17) f_4 L Q dX3_runs_182 hP hS ⟨⟨hI, hF, rfl, rfl⟩, trivial, ⟨by omega, by omega⟩, (Eq.trans (Eq.symm (hs.trans ((spl2_e u_9 (spl_e ev_10 (spl_e ev_17 rfl)))))) hsp)⟩

abbrev WkX3_does_4_0_0_f0_f4 : List (Nat × Nat × Option Nat) := [(36, 36, some 3), (38, 38, some 0), (38, 38, some 1)]
set_option maxHeartbeats 4000000 in
set_option maxRecDepth 100000 in
theorem kX3_does_4_0_0_f0_f4 (l : Launch) (D : va_G) (ca : Nat → ClassId) (za h : Nat → Nat) (hh : sgH 52 h) (f : sg_F) (L : sg_L) (Q : sg_Q) (hI : sgI loX hiX f) (x2 : Int32) (hf_36_3 : f 36 3 = 0) (hf_36_4 : f 36 4 = 4) (p0 : 0 ≤ (f 36 3).toInt ∧ (f 36 3).toInt ≤ 0) (sz : Nat) : Met l yX3_does gwX3_does { frames := 3, cells := 0, slots := 0, locals := 74 } (sgP D vwCl (tyX ca) 52 h (eX ca h) zcX za f L Q sz [.ref (h 36), .int 4, .int 0, .int x2, .int 0]) (sgQi D vwCl 52 h (eX ca h) sz (fun r f1 L1 Q1 => ((sgI loX hiX f1 ∧ sgK WkX3_does_4_0_0_f0_f4 f f1 ∧ L1 = L ∧ Q1 = Q) ∧ True ∧ (2 ≤ (f1 36 3).toInt ∧ (f1 36 3).toInt ≤ 2) ∧ (r, f1) = sX3_does_4_0_0_f0_f4 x2 f L))) 0 0 (sgA 52 h sz) := by
  refine sg_ofWi (cc := cX3_does) (maxL := 7) RX3 (by decide) rfl rfl (Nat.le_of_ble_eq_true rfl) ?_
  intro p e s m below meth cd Qz ls hx hb hml hown hts hK hZ hP hS hl hret
  have hA := sgY.self (n := 52) (h := h) (sz := s.heap.size)
  have hl : lv_has ls 7 [(0, .ref (h 36)), (1, .int 4), (2, .int 0), (3, .int x2), (4, .int 0)] := hl
  obtain ⟨H, hH⟩ : ∃ z : Heap, z = s.heap := ⟨_, rfl⟩
  obtain ⟨locs, hlo⟩ : ∃ z : List Loc, z = [] := ⟨_, rfl⟩
  have hP : va_P D vwCl (sgw 52 h (eX ca h) f L Q) H := by rw [hH]; exact hP
  have hS : va_S (sgA 52 h s.heap.size) s.heap H locs := by rw [hH, hlo]; exact hS
  suffices hgo : W p l e ({ frames := 3, cells := 0, slots := 0, locals := 74 }) s m ([.ref (h 36), .int 4, .int 0, .int x2, .int 0] : List Value).toArray below meth cd H locs 0 0 Qz (F0 m 0 ls []) by rw [hH, hlo] at hgo; exact hgo
  clear hH hlo
  obtain ⟨sp, hsp⟩ : ∃ z : Int32 × sg_F, z = sX3_does_4_0_0_f0_f4 x2 f L := ⟨_, rfl⟩
  have hs : sp = sX3_does_4_0_0_f0_f4 x2 f L := hsp
  have o_1 : (f 36 3).toInt = 0 := (congrArg Int32.toInt (show f 36 3 = 0 from hf_36_3)).trans (by decide)
  have hF : sgK WkX3_does_4_0_0_f0_f4 f f := sgK.rf
  have blk_53 : ∀ (fp_53 : sg_F) (H : Heap) (locs : List Loc) (ls : Array Slot), sp = sX3_does_4_0_0_f0_f4_b53 x2 fp_53 L → 0 ≤ (fp_53 36 3).toInt ∧ (fp_53 36 3).toInt ≤ 0 → 4 ≤ (fp_53 36 4).toInt ∧ (fp_53 36 4).toInt ≤ 4 → sgI loX hiX fp_53 → sgK WkX3_does_4_0_0_f0_f4 f fp_53 → va_P D vwCl (sgw 52 h (eX ca h) fp_53 L Q) H → va_S (sgA 52 h s.heap.size) s.heap H locs → lv_has ls 7 [(0, .ref (h 36)), (3, .int x2), (4, .int 0), (5, .int 1), (6, .int 20)] → W p l e ({ frames := 3, cells := 0, slots := 0, locals := 74 }) s m ([.ref (h 36), .int 4, .int 0, .int x2, .int 0] : List Value).toArray below meth cd H locs 0 0 Qz (F0 m 53 ls []) := by
    intro fp_53 H locs ls hs hy0_53 hy1_53 hI hF hP hS hl
    obtain ⟨v_2, ev_2⟩ : ∃ z : Int32, z = fp_53 36 3 := ⟨_, rfl⟩
    have q_3 : 0 ≤ v_2.toInt ∧ v_2.toInt ≤ 19 := by rw [ev_2]; exact hI 36 3
    have q_4 : (fp_53 36 3).toInt = v_2.toInt := by rw [ev_2]
    obtain ⟨v_5, ev_5⟩ : ∃ z : Int32, z = fp_53 36 4 := ⟨_, rfl⟩
    have q_6 : 0 ≤ v_5.toInt ∧ v_5.toInt ≤ 7 := by rw [ev_5]; exact hI 36 4
    have q_7 : (fp_53 36 4).toInt = v_5.toInt := by rw [ev_5]
    have m_8 : fp_53 36 4 = 4 := (hF 36 4 (by decide)).trans hf_36_4
    refine lv_aload_n hx hb dX3_does_53 rfl (lv_at hl 0 rfl) ?_
    refine lv_dup hx hb dX3_does_54 rfl ?_
    refine sl_gX_36_3_3 (v := v_2) hx hb hts hown hK hP (show fp_53 36 3 = v_2 from ev_2.symm) dX3_does_55 ?_
    refine lv_iconst (v := 1) hx hb dX3_does_58 ic_1 ?_
    refine lv_iadd hx hb dX3_does_59 ?_
    refine lv_topi (fun v_9 ev_9 => ?_)
    have q_10 : v_9.toInt = v_2.toInt + 1 := by rw [ev_9]; first | exact cm_add ti_1 (by omega) (by omega) | (have k1 : (1 : Int32).toInt = 1 := ti_1; exact (bn_addI (by omega) (by omega)).trans (by omega))
    refine sl_pX_36_3_3 (x := v_9) hx hb hts hown hh hA hK hP hS dX3_does_60 (fun f_11 H locs ef_11 hP hS => ?_)
    have hI : sgI loX hiX f_11 := by rw [ef_11]; exact sgI.put hI 36 3 (show 0 ≤ (v_9 : Int32).toInt ∧ (v_9 : Int32).toInt ≤ 19 from ⟨by omega, by omega⟩)
    have hF : sgK WkX3_does_4_0_0_f0_f4 f f_11 := sgK.put hF ef_11 (by rfl)
    refine lv_aload_n hx hb dX3_does_63 rfl (lv_at hl 0 rfl) ?_
    refine lv_iload hx hb dX3_does_64 (lv_at hl 4 rfl) ?_
    refine sg_gets hx hb hZ 2 rfl hS hown (hts _ (List.mem_cons_of_mem _ mw_174)) (fun _ h9 => h9) dX3_does_66 ?_
    refine lv_iload hx hb dX3_does_69 (lv_at hl 3 rfl) ?_
    refine sg_sald hx hb hZ 2 rfl hS (y := 1) (N := 8) (vp_in_iff.mpr (by decide)) dX3_does_71 ?_
    refine W.eq (g2 := F0 m 72 ls [.int 0, .int 20, .ref (h 36)]) (by rfl) ?_
    refine lv_iload_n hx hb dX3_does_72 rfl (lv_at hl 1 rfl) ?_
    refine lv_iload hx hb dX3_does_73 (lv_at hl 2 rfl) ?_
    refine lv_iconst (v := 1) hx hb dX3_does_75 ic_1 ?_
    refine lv_iadd hx hb dX3_does_76 ?_
    refine W.eq (g2 := F0 m 77 ls [.int 1, .int x2, .int 0, .int 20, .ref (h 36)]) (by rw [show (0 + 1 : Int32) = 1 from by decide]) ?_
    have c_12 : v_9 = 1 := Int32.toInt_inj.mp (by have k9 : (1 : Int32).toInt = 1 := ti_1; omega)
    have q_13 : (f_11 36 3).toInt = 1 := (congrArg Int32.toInt (show f_11 36 3 = 1 from (Eq.trans (by rw [ef_11, sg_up_s, sgu_s]) c_12))).trans (by decide)
    refine sg_calli (va_runV (As := [.int 20, .int 0, .int x2, .int 1]) (rest := []) ⟨hx, hb, hml, hown, hts⟩ (kX3_runs_20_0_1_f1_f4 l D ca za h hh f_11 L Q hI x2 (Eq.trans (by rw [ef_11, sg_up_s, sgu_s]) c_12) (by rw [ef_11, sg_up_s, sgu_n (by decide)]; exact m_8) (by have k0 : (20 : Int32).toInt = 20 := ti_20; have k1 : (0 : Int32).toInt = 0 := ti_0; have k3 : (1 : Int32).toInt = 1 := ti_1; omega) H.size) (sl_c3_runs_2_0_0_50_3 hts ⟨Nat.le_of_ble_eq_true rfl, Nat.le_of_ble_eq_true rfl⟩) (sl_vX_36 hA hK hP hS hZ) rfl rfl hl.1 rfl (lv_room (Nat.le_of_ble_eq_true rfl)) dX3_does_77 ⟨Nat.le_refl _, Nat.le_refl _⟩) hA hS (fun r_18 f_15 L_16 Q_17 H locs hq hP hS => ?_)
    obtain ⟨⟨hI, hk_f_15, eL9, eQ9⟩, hq, p_19, u_20⟩ := hq
    rw [eL9, eQ9] at hP; clear eL9 eQ9
    have hF : sgK WkX3_does_4_0_0_f0_f4 f f_15 := sgK.tr hF hk_f_15 (by decide +kernel)
    obtain ⟨v_21, ev_21⟩ : ∃ z : Int32, z = f_15 36 3 := ⟨_, rfl⟩
    have q_22 : 0 ≤ v_21.toInt ∧ v_21.toInt ≤ 19 := by rw [ev_21]; exact hI 36 3
    have q_23 : (f_15 36 3).toInt = v_21.toInt := (congrArg Int32.toInt (show f_15 36 3 = v_21 from ev_21.symm))
    have k_25 : (20 : Int32).toInt = 20 := by decide
    have k_26 : (0 : Int32).toInt = 0 := by decide
    have k_27 : (1 : Int32).toInt = 1 := by decide
    exact hret _ _ _ _ (r_18) f_15 L Q dX3_does_80 hP hS ⟨⟨hI, hF, rfl, rfl⟩, trivial, ⟨by omega, by omega⟩, (Eq.trans (Eq.symm (hs.trans ((spl_e ev_2 (spl_e ev_5 (spl_e ev_9 (spl_e ef_11 (spl2_e u_20 (spl_e ev_21 rfl))))))))) hsp)⟩
  refine lv_iload_n hx hb dX3_does_0 rfl (lv_at hl 1 rfl) ?_
  refine lv_iload_n hx hb dX3_does_1 rfl (lv_at hl 2 rfl) ?_
  refine sg_calli (va_runS (As := [.int 4, .int 0]) (rest := []) ⟨hx, hb, hml, hown, hts⟩ (kX3_ownerOf_4_0 l D ca za h hh f L Q hI H.size) (va_cwS 2 hts (gw_S (fun _ h => List.mem_cons_of_mem _ h) mw_189 mw_190 mw_47 mw_188) rfl rfl rfl hd_yX3_ownerOf.2 ⟨Nat.le_of_ble_eq_true rfl, Nat.le_of_ble_eq_true rfl⟩) (sg_preS hA hK hP hS hZ) rfl rfl hl.1 rfl (lv_room (Nat.le_of_ble_eq_true rfl)) dX3_does_2 ⟨Nat.le_refl _, Nat.le_refl _⟩) hA hS (fun r_33 f_30 L_31 Q_32 H locs hq hP hS => ?_)
  obtain ⟨⟨ef9, eL9, eQ9⟩, hq, u_34⟩ := hq
  rw [ef9, eL9, eQ9] at hP; clear ef9 eL9 eQ9
  obtain rfl : r_33 = 1 := Int32.toInt_inj.mp (by have k9 : (1 : Int32).toInt = 1 := ti_1; omega)
  refine lv_istore (lv' := [(5, .int 1), (0, .ref (h 36)), (1, .int 4), (2, .int 0), (3, .int x2), (4, .int 0)]) hx hb dX3_does_5 hl (by decide) rfl (fun ls hl => ?_)
  refine lv_iload hx hb dX3_does_7 (lv_at hl 0 rfl) ?_
  refine lv_if_lt (tgt := 19) hx hb dX3_does_9 (by decide) (fun c => absurd c (by decide)) (fun c => ?_)
  refine lv_iload hx hb dX3_does_12 (lv_at hl 5 rfl) ?_
  refine lv_bipush (v := 40) hx hb dX3_does_14 bp_40 ?_
  refine lv_icmp_le (tgt := 21) hx hb dX3_does_16 (by decide) (fun c => ?_) (fun c => absurd c (by decide))
  refine sg_gets hx hb hZ 3 rfl hS hown (hts _ (List.mem_cons_of_mem _ mw_173)) (fun _ h9 => h9) dX3_does_21 ?_
  refine lv_iload hx hb dX3_does_24 (lv_at hl 0 rfl) ?_
  refine lv_iconst (v := 4) hx hb dX3_does_26 ic_4 ?_
  refine lv_imul hx hb dX3_does_27 ?_
  refine W.eq (g2 := F0 m 28 ls [.int 4, .ref (za 3)]) (by rw [show (1 * 4 : Int32) = 4 from by decide]) ?_
  refine lv_iload_n hx hb dX3_does_28 rfl (lv_at hl 3 rfl) ?_
  refine lv_iadd hx hb dX3_does_29 ?_
  refine W.eq (g2 := F0 m 30 ls [.int 4, .ref (za 3)]) (by rw [show (4 + 0 : Int32) = 4 from by decide]) ?_
  refine sg_sald hx hb hZ 3 rfl hS (y := 4) (N := 32) (vp_in_iff.mpr (by decide)) dX3_does_30 ?_
  refine W.eq (g2 := F0 m 31 ls [.int 20]) (by rfl) ?_
  refine lv_istore (lv' := [(6, .int 20), (5, .int 1), (0, .ref (h 36)), (1, .int 4), (2, .int 0), (3, .int x2), (4, .int 0)]) hx hb dX3_does_31 hl (by decide) rfl (fun ls hl => ?_)
  refine lv_aload_n hx hb dX3_does_33 rfl (lv_at hl 2 rfl) ?_
  refine sl_gX_36_3_3 (v := 0) hx hb hts hown hK hP (show f 36 3 = 0 from hf_36_3) dX3_does_34 ?_
  refine lv_bipush (v := 24) hx hb dX3_does_37 bp_24 ?_
  refine lv_icmp_ge (tgt := 53) hx hb dX3_does_39 (by decide) (fun c => absurd c (by decide)) (fun c => ?_)
  refine lv_aload_n hx hb dX3_does_42 rfl (lv_at hl 2 rfl) ?_
  refine sl_gX_36_1_3 hx hb hts hown hK hP dX3_does_43 ?_
  refine lv_aload_n hx hb dX3_does_46 rfl (lv_at hl 2 rfl) ?_
  refine sl_gX_36_3_3 (v := 0) hx hb hts hown hK hP (show f 36 3 = 0 from hf_36_3) dX3_does_47 ?_
  refine lv_iload hx hb dX3_does_50 (lv_at hl 0 rfl) ?_
  refine sg_iast hx hb hh hA hK hP hS 38 (by decide) 0 (fun _ => rfl) rfl (i := 0) (x := 20) (vp_in_iff.mpr (by decide)) dX3_does_52 (fun f_35 H locs ef_35 hP hS => ?_)
  have ef_35 : f_35 = sg_up f 38 (sgu (f 38) 0 20) := ef_35
  have hI : sgI loX hiX f_35 := by rw [ef_35]; exact sgI.put hI 38 0 (show 0 ≤ (20 : Int32).toInt ∧ (20 : Int32).toInt ≤ 81 from by decide)
  have hF : sgK WkX3_does_4_0_0_f0_f4 f f_35 := sgK.put hF ef_35 (by rfl)
  exact blk_53 f_35 _ _ _ (hs.trans ((spl_e u_34 (spl_e ef_35 rfl)))) (by have zz36_3 : (f_35 36 3).toInt = 0 := (congrArg Int32.toInt (show f_35 36 3 = 0 from (by rw [ef_35, sg_up_n (by decide)]; exact hf_36_3))).trans (by decide); exact ⟨by omega, by omega⟩) (by have zz36_4 : (f_35 36 4).toInt = 4 := (congrArg Int32.toInt (show f_35 36 4 = 4 from (by rw [ef_35, sg_up_n (by decide)]; exact hf_36_4))).trans (by decide); exact ⟨by omega, by omega⟩) hI hF hP hS (lv_sub hl [2, 5, 6, 1, 0] rfl)

set_option maxHeartbeats 4000000 in
set_option maxRecDepth 100000 in
theorem kX3_ownerOf_5_0 (l : Launch) (D : va_G) (ca : Nat → ClassId) (za h : Nat → Nat) (hh : sgH 52 h) (f : sg_F) (L : sg_L) (Q : sg_Q) (hI : sgI loX hiX f) (sz : Nat) : Met l yX3_ownerOf gwX3_ownerOf { frames := 0, cells := 0, slots := 0, locals := 0 } (sgP D vwCl (tyX ca) 52 h (eX ca h) zcX za f L Q sz [.int 5, .int 0]) (sgQi D vwCl 52 h (eX ca h) sz (fun r f1 L1 Q1 => ((f1 = f ∧ L1 = L ∧ Q1 = Q) ∧ (0 ≤ r.toInt ∧ r.toInt ≤ 0) ∧ (r) = sX3_ownerOf_5_0 f L))) 0 0 (sgA 52 h sz) := by
  refine sg_ofWi (cc := cX3_ownerOf) (maxL := 4) RX3 (by decide) rfl rfl (Nat.le_of_ble_eq_true rfl) ?_
  intro p e s m below meth cd Qz ls hx hb hml hown hts hK hZ hP hS hl hret
  have hA := sgY.self (n := 52) (h := h) (sz := s.heap.size)
  have hl : lv_has ls 4 [(0, .int 5), (1, .int 0)] := hl
  obtain ⟨H, hH⟩ : ∃ z : Heap, z = s.heap := ⟨_, rfl⟩
  obtain ⟨locs, hlo⟩ : ∃ z : List Loc, z = [] := ⟨_, rfl⟩
  have hP : va_P D vwCl (sgw 52 h (eX ca h) f L Q) H := by rw [hH]; exact hP
  have hS : va_S (sgA 52 h s.heap.size) s.heap H locs := by rw [hH, hlo]; exact hS
  suffices hgo : W p l e ({ frames := 0, cells := 0, slots := 0, locals := 0 }) s m ([.int 5, .int 0] : List Value).toArray below meth cd H locs 0 0 Qz (F0 m 0 ls []) by rw [hH, hlo] at hgo; exact hgo
  clear hH hlo
  obtain ⟨sp, hsp⟩ : ∃ z : Int32, z = sX3_ownerOf_5_0 f L := ⟨_, rfl⟩
  have hs : sp = sX3_ownerOf_5_0 f L := hsp
  refine lv_iload_n hx hb dX3_ownerOf_0 rfl (lv_at hl 0 rfl) ?_
  refine lv_istore_n (lv' := [(2, .int 5), (0, .int 5), (1, .int 0)]) hx hb dX3_ownerOf_1 rfl hl (by decide) rfl (fun ls hl => ?_)
  refine lv_iconst (v := 0) hx hb dX3_ownerOf_2 ic_0 ?_
  refine lv_istore_n (lv' := [(3, .int 0), (2, .int 5), (0, .int 5), (1, .int 0)]) hx hb dX3_ownerOf_3 rfl hl (by decide) rfl (fun ls hl => ?_)
  refine lv_iload_n hx hb dX3_ownerOf_4 rfl (lv_at hl 0 rfl) ?_
  refine lv_bipush (v := 8) hx hb dX3_ownerOf_5 bp_8 ?_
  refine lv_icmp_ge (tgt := 40) hx hb dX3_ownerOf_7 (by decide) (fun c => absurd c (by decide)) (fun c => ?_)
  refine lv_iload_n hx hb dX3_ownerOf_10 rfl (lv_at hl 1 rfl) ?_
  refine lv_if_lt (tgt := 40) hx hb dX3_ownerOf_11 (by decide) (fun c => absurd c (by decide)) (fun c => ?_)
  refine sg_gets hx hb hZ 3 rfl hS hown (hts _ (List.mem_cons_of_mem _ mw_173)) (fun _ h9 => h9) dX3_ownerOf_14 ?_
  refine lv_iload_n hx hb dX3_ownerOf_17 rfl (lv_at hl 1 rfl) ?_
  refine lv_iconst (v := 4) hx hb dX3_ownerOf_18 ic_4 ?_
  refine lv_imul hx hb dX3_ownerOf_19 ?_
  refine W.eq (g2 := F0 m 20 ls [.int 20, .ref (za 3)]) (by rw [show (5 * 4 : Int32) = 20 from by decide]) ?_
  refine lv_iload_n hx hb dX3_ownerOf_20 rfl (lv_at hl 3 rfl) ?_
  refine lv_iadd hx hb dX3_ownerOf_21 ?_
  refine W.eq (g2 := F0 m 22 ls [.int 20, .ref (za 3)]) (by rw [show (20 + 0 : Int32) = 20 from by decide]) ?_
  refine sg_sald hx hb hZ 3 rfl hS (y := 20) (N := 32) (vp_in_iff.mpr (by decide)) dX3_ownerOf_22 ?_
  refine W.eq (g2 := F0 m 23 ls [.int 0]) (by rfl) ?_
  refine lv_if_eq (tgt := 28) hx hb dX3_ownerOf_23 (by decide) (fun c => ?_) (fun c => absurd c (by decide))
  refine sg_gets hx hb hZ 2 rfl hS hown (hts _ (List.mem_cons_of_mem _ mw_174)) (fun _ h9 => h9) dX3_ownerOf_28 ?_
  refine lv_iload_n hx hb dX3_ownerOf_31 rfl (lv_at hl 1 rfl) ?_
  refine sg_sald hx hb hZ 2 rfl hS (y := 5) (N := 8) (vp_in_iff.mpr (by decide)) dX3_ownerOf_32 ?_
  refine W.eq (g2 := F0 m 33 ls [.int 3]) (by rfl) ?_
  refine lv_istore_n (lv' := [(2, .int 3), (3, .int 0), (0, .int 5), (1, .int 0)]) hx hb dX3_ownerOf_33 rfl hl (by decide) rfl (fun ls hl => ?_)
  refine lv_iinc (v := 1) (lv' := [(3, .int 1), (2, .int 3), (0, .int 5), (1, .int 0)]) hx hb dX3_ownerOf_34 hl (k := 1) rfl (by decide) (by decide) rfl (fun ls hl => ?_)
  refine lv_goto (tgt := 4) hx hb dX3_ownerOf_37 (by decide) ?_
  refine lv_iload_n hx hb dX3_ownerOf_4 rfl (lv_at hl 0 rfl) ?_
  refine lv_bipush (v := 8) hx hb dX3_ownerOf_5 bp_8 ?_
  refine lv_icmp_ge (tgt := 40) hx hb dX3_ownerOf_7 (by decide) (fun c => absurd c (by decide)) (fun c => ?_)
  refine lv_iload_n hx hb dX3_ownerOf_10 rfl (lv_at hl 1 rfl) ?_
  refine lv_if_lt (tgt := 40) hx hb dX3_ownerOf_11 (by decide) (fun c => absurd c (by decide)) (fun c => ?_)
  refine sg_gets hx hb hZ 3 rfl hS hown (hts _ (List.mem_cons_of_mem _ mw_173)) (fun _ h9 => h9) dX3_ownerOf_14 ?_
  refine lv_iload_n hx hb dX3_ownerOf_17 rfl (lv_at hl 1 rfl) ?_
  refine lv_iconst (v := 4) hx hb dX3_ownerOf_18 ic_4 ?_
  refine lv_imul hx hb dX3_ownerOf_19 ?_
  refine W.eq (g2 := F0 m 20 ls [.int 12, .ref (za 3)]) (by rw [show (3 * 4 : Int32) = 12 from by decide]) ?_
  refine lv_iload_n hx hb dX3_ownerOf_20 rfl (lv_at hl 3 rfl) ?_
  refine lv_iadd hx hb dX3_ownerOf_21 ?_
  refine W.eq (g2 := F0 m 22 ls [.int 12, .ref (za 3)]) (by rw [show (12 + 0 : Int32) = 12 from by decide]) ?_
  refine sg_sald hx hb hZ 3 rfl hS (y := 12) (N := 32) (vp_in_iff.mpr (by decide)) dX3_ownerOf_22 ?_
  refine W.eq (g2 := F0 m 23 ls [.int 0]) (by rfl) ?_
  refine lv_if_eq (tgt := 28) hx hb dX3_ownerOf_23 (by decide) (fun c => ?_) (fun c => absurd c (by decide))
  refine sg_gets hx hb hZ 2 rfl hS hown (hts _ (List.mem_cons_of_mem _ mw_174)) (fun _ h9 => h9) dX3_ownerOf_28 ?_
  refine lv_iload_n hx hb dX3_ownerOf_31 rfl (lv_at hl 1 rfl) ?_
  refine sg_sald hx hb hZ 2 rfl hS (y := 3) (N := 8) (vp_in_iff.mpr (by decide)) dX3_ownerOf_32 ?_
  refine W.eq (g2 := F0 m 33 ls [.int 2]) (by rfl) ?_
  refine lv_istore_n (lv' := [(2, .int 2), (3, .int 1), (0, .int 5), (1, .int 0)]) hx hb dX3_ownerOf_33 rfl hl (by decide) rfl (fun ls hl => ?_)
  refine lv_iinc (v := 2) (lv' := [(3, .int 2), (2, .int 2), (0, .int 5), (1, .int 0)]) hx hb dX3_ownerOf_34 hl (k := 1) rfl (by decide) (by decide) rfl (fun ls hl => ?_)
  refine lv_goto (tgt := 4) hx hb dX3_ownerOf_37 (by decide) ?_
  refine lv_iload_n hx hb dX3_ownerOf_4 rfl (lv_at hl 0 rfl) ?_
  refine lv_bipush (v := 8) hx hb dX3_ownerOf_5 bp_8 ?_
  refine lv_icmp_ge (tgt := 40) hx hb dX3_ownerOf_7 (by decide) (fun c => absurd c (by decide)) (fun c => ?_)
  refine lv_iload_n hx hb dX3_ownerOf_10 rfl (lv_at hl 1 rfl) ?_
  refine lv_if_lt (tgt := 40) hx hb dX3_ownerOf_11 (by decide) (fun c => absurd c (by decide)) (fun c => ?_)
  refine sg_gets hx hb hZ 3 rfl hS hown (hts _ (List.mem_cons_of_mem _ mw_173)) (fun _ h9 => h9) dX3_ownerOf_14 ?_
  refine lv_iload_n hx hb dX3_ownerOf_17 rfl (lv_at hl 1 rfl) ?_
  refine lv_iconst (v := 4) hx hb dX3_ownerOf_18 ic_4 ?_
  refine lv_imul hx hb dX3_ownerOf_19 ?_
  refine W.eq (g2 := F0 m 20 ls [.int 8, .ref (za 3)]) (by rw [show (2 * 4 : Int32) = 8 from by decide]) ?_
  refine lv_iload_n hx hb dX3_ownerOf_20 rfl (lv_at hl 3 rfl) ?_
  refine lv_iadd hx hb dX3_ownerOf_21 ?_
  refine W.eq (g2 := F0 m 22 ls [.int 8, .ref (za 3)]) (by rw [show (8 + 0 : Int32) = 8 from by decide]) ?_
  refine sg_sald hx hb hZ 3 rfl hS (y := 8) (N := 32) (vp_in_iff.mpr (by decide)) dX3_ownerOf_22 ?_
  refine W.eq (g2 := F0 m 23 ls [.int 0]) (by rfl) ?_
  refine lv_if_eq (tgt := 28) hx hb dX3_ownerOf_23 (by decide) (fun c => ?_) (fun c => absurd c (by decide))
  refine sg_gets hx hb hZ 2 rfl hS hown (hts _ (List.mem_cons_of_mem _ mw_174)) (fun _ h9 => h9) dX3_ownerOf_28 ?_
  refine lv_iload_n hx hb dX3_ownerOf_31 rfl (lv_at hl 1 rfl) ?_
  refine sg_sald hx hb hZ 2 rfl hS (y := 2) (N := 8) (vp_in_iff.mpr (by decide)) dX3_ownerOf_32 ?_
  refine W.eq (g2 := F0 m 33 ls [.int 0]) (by rfl) ?_
  refine lv_istore_n (lv' := [(2, .int 0), (3, .int 2), (0, .int 5), (1, .int 0)]) hx hb dX3_ownerOf_33 rfl hl (by decide) rfl (fun ls hl => ?_)
  refine lv_iinc (v := 3) (lv' := [(3, .int 3), (2, .int 0), (0, .int 5), (1, .int 0)]) hx hb dX3_ownerOf_34 hl (k := 1) rfl (by decide) (by decide) rfl (fun ls hl => ?_)
  refine lv_goto (tgt := 4) hx hb dX3_ownerOf_37 (by decide) ?_
  refine lv_iload_n hx hb dX3_ownerOf_4 rfl (lv_at hl 0 rfl) ?_
  refine lv_bipush (v := 8) hx hb dX3_ownerOf_5 bp_8 ?_
  refine lv_icmp_ge (tgt := 40) hx hb dX3_ownerOf_7 (by decide) (fun c => absurd c (by decide)) (fun c => ?_)
  refine lv_iload_n hx hb dX3_ownerOf_10 rfl (lv_at hl 1 rfl) ?_
  refine lv_if_lt (tgt := 40) hx hb dX3_ownerOf_11 (by decide) (fun c => absurd c (by decide)) (fun c => ?_)
  refine sg_gets hx hb hZ 3 rfl hS hown (hts _ (List.mem_cons_of_mem _ mw_173)) (fun _ h9 => h9) dX3_ownerOf_14 ?_
  refine lv_iload_n hx hb dX3_ownerOf_17 rfl (lv_at hl 1 rfl) ?_
  refine lv_iconst (v := 4) hx hb dX3_ownerOf_18 ic_4 ?_
  refine lv_imul hx hb dX3_ownerOf_19 ?_
  refine W.eq (g2 := F0 m 20 ls [.int 0, .ref (za 3)]) (by rw [show (0 * 4 : Int32) = 0 from by decide]) ?_
  refine lv_iload_n hx hb dX3_ownerOf_20 rfl (lv_at hl 3 rfl) ?_
  refine lv_iadd hx hb dX3_ownerOf_21 ?_
  refine W.eq (g2 := F0 m 22 ls [.int 0, .ref (za 3)]) (by rw [show (0 + 0 : Int32) = 0 from by decide]) ?_
  refine sg_sald hx hb hZ 3 rfl hS (y := 0) (N := 32) (vp_in_iff.mpr (by decide)) dX3_ownerOf_22 ?_
  refine W.eq (g2 := F0 m 23 ls [.int 1]) (by rfl) ?_
  refine lv_if_eq (tgt := 28) hx hb dX3_ownerOf_23 (by decide) (fun c => absurd c (by decide)) (fun c => ?_)
  refine lv_iload_n hx hb dX3_ownerOf_26 rfl (lv_at hl 1 rfl) ?_
  have k99 : (0 : Int32).toInt = 0 := ti_0
  exact hret _ _ _ _ (0) f L Q dX3_ownerOf_27 hP hS ⟨⟨rfl, rfl, rfl⟩, (by decide), (Eq.trans (Eq.symm hs) hsp)⟩

set_option maxHeartbeats 4000000 in
set_option maxRecDepth 100000 in
theorem kX3_runs_1_m1_1_f1_f5 (l : Launch) (D : va_G) (ca : Nat → ClassId) (za h : Nat → Nat) (hh : sgH 52 h) (f : sg_F) (L : sg_L) (Q : sg_Q) (hI : sgI loX hiX f) (x2 : Int32) (hf_36_3 : f 36 3 = 1) (hf_36_4 : f 36 4 = 5) (p0 : 1 ≤ (f 36 3).toInt ∧ (f 36 3).toInt ≤ 1) (sz : Nat) : Met l yX3_runs gwX3_runs { frames := 0, cells := 0, slots := 0, locals := 0 } (sgP D vwCl (tyX ca) 52 h (eX ca h) zcX za f L Q sz [.ref (h 36), .int 1, .int (-1), .int x2, .int 1]) (sgQi D vwCl 52 h (eX ca h) sz (fun r f1 L1 Q1 => ((f1 = f ∧ L1 = L ∧ Q1 = Q) ∧ True ∧ (1 ≤ (f1 36 3).toInt ∧ (f1 36 3).toInt ≤ 1) ∧ (r) = sX3_runs_1_m1_1_f1_f5 x2 f L))) 0 0 (sgA 52 h sz) := by
  refine sg_ofWi (cc := cX3_runs) (maxL := 5) RX3 (by decide) rfl rfl (Nat.le_of_ble_eq_true rfl) ?_
  intro p e s m below meth cd Qz ls hx hb hml hown hts hK hZ hP hS hl hret
  have hA := sgY.self (n := 52) (h := h) (sz := s.heap.size)
  have hl : lv_has ls 5 [(0, .ref (h 36)), (1, .int 1), (2, .int (-1)), (3, .int x2), (4, .int 1)] := hl
  obtain ⟨H, hH⟩ : ∃ z : Heap, z = s.heap := ⟨_, rfl⟩
  obtain ⟨locs, hlo⟩ : ∃ z : List Loc, z = [] := ⟨_, rfl⟩
  have hP : va_P D vwCl (sgw 52 h (eX ca h) f L Q) H := by rw [hH]; exact hP
  have hS : va_S (sgA 52 h s.heap.size) s.heap H locs := by rw [hH, hlo]; exact hS
  suffices hgo : W p l e ({ frames := 0, cells := 0, slots := 0, locals := 0 }) s m ([.ref (h 36), .int 1, .int (-1), .int x2, .int 1] : List Value).toArray below meth cd H locs 0 0 Qz (F0 m 0 ls []) by rw [hH, hlo] at hgo; exact hgo
  clear hH hlo
  obtain ⟨sp, hsp⟩ : ∃ z : Int32, z = sX3_runs_1_m1_1_f1_f5 x2 f L := ⟨_, rfl⟩
  have hs : sp = sX3_runs_1_m1_1_f1_f5 x2 f L := hsp
  have o_1 : (f 36 3).toInt = 1 := (congrArg Int32.toInt (show f 36 3 = 1 from hf_36_3)).trans (by decide)
  refine lv_iload_n hx hb dX3_runs_0 rfl (lv_at hl 1 rfl) ?_
  refine lv_lookup (x := 1) (off := 115) (tgt := 116) hx hb dX3_runs_1 (by decide) (by decide) (by decide) ?_
  refine lv_iload_n hx hb dX3_runs_116 rfl (lv_at hl 3 rfl) ?_
  refine lv_aload_n hx hb dX3_runs_117 rfl (lv_at hl 0 rfl) ?_
  refine sl_gX_36_5_3 (v := (f 36 5)) hx hb hts hown hK hP rfl dX3_runs_118 ?_
  refine lv_topi (fun v_2 ev_2 => ?_)
  have q_3 : 0 ≤ v_2.toInt ∧ v_2.toInt ≤ 49 := by rw [ev_2]; exact hI 36 5
  refine lv_iadd hx hb dX3_runs_121 ?_
  refine lv_topi (fun v_4 ev_4 => ?_)
  have q_5 : (f 36 3).toInt = 1 := (congrArg Int32.toInt (show f 36 3 = 1 from hf_36_3)).trans (by decide)
  exact hret _ _ _ _ (v_4) f L Q dX3_runs_122 hP hS ⟨⟨rfl, rfl, rfl⟩, trivial, ⟨by omega, by omega⟩, (Eq.trans (Eq.symm (hs.trans ((spl_e ev_2 (spl_e ev_4 rfl))))) hsp)⟩

abbrev WkX3_does_5_0_0_f0_f5 : List (Nat × Nat × Option Nat) := [(36, 36, some 3), (38, 38, some 0)]
set_option maxHeartbeats 4000000 in
set_option maxRecDepth 100000 in
theorem kX3_does_5_0_0_f0_f5 (l : Launch) (D : va_G) (ca : Nat → ClassId) (za h : Nat → Nat) (hh : sgH 52 h) (f : sg_F) (L : sg_L) (Q : sg_Q) (hI : sgI loX hiX f) (x2 : Int32) (hf_36_3 : f 36 3 = 0) (hf_36_4 : f 36 4 = 5) (p0 : 0 ≤ (f 36 3).toInt ∧ (f 36 3).toInt ≤ 0) (sz : Nat) : Met l yX3_does gwX3_does { frames := 1, cells := 0, slots := 0, locals := 24 } (sgP D vwCl (tyX ca) 52 h (eX ca h) zcX za f L Q sz [.ref (h 36), .int 5, .int 0, .int x2, .int 0]) (sgQi D vwCl 52 h (eX ca h) sz (fun r f1 L1 Q1 => ((sgI loX hiX f1 ∧ sgK WkX3_does_5_0_0_f0_f5 f f1 ∧ L1 = L ∧ Q1 = Q) ∧ True ∧ (1 ≤ (f1 36 3).toInt ∧ (f1 36 3).toInt ≤ 1) ∧ (r, f1) = sX3_does_5_0_0_f0_f5 x2 f L))) 0 0 (sgA 52 h sz) := by
  refine sg_ofWi (cc := cX3_does) (maxL := 7) RX3 (by decide) rfl rfl (Nat.le_of_ble_eq_true rfl) ?_
  intro p e s m below meth cd Qz ls hx hb hml hown hts hK hZ hP hS hl hret
  have hA := sgY.self (n := 52) (h := h) (sz := s.heap.size)
  have hl : lv_has ls 7 [(0, .ref (h 36)), (1, .int 5), (2, .int 0), (3, .int x2), (4, .int 0)] := hl
  obtain ⟨H, hH⟩ : ∃ z : Heap, z = s.heap := ⟨_, rfl⟩
  obtain ⟨locs, hlo⟩ : ∃ z : List Loc, z = [] := ⟨_, rfl⟩
  have hP : va_P D vwCl (sgw 52 h (eX ca h) f L Q) H := by rw [hH]; exact hP
  have hS : va_S (sgA 52 h s.heap.size) s.heap H locs := by rw [hH, hlo]; exact hS
  suffices hgo : W p l e ({ frames := 1, cells := 0, slots := 0, locals := 24 }) s m ([.ref (h 36), .int 5, .int 0, .int x2, .int 0] : List Value).toArray below meth cd H locs 0 0 Qz (F0 m 0 ls []) by rw [hH, hlo] at hgo; exact hgo
  clear hH hlo
  obtain ⟨sp, hsp⟩ : ∃ z : Int32 × sg_F, z = sX3_does_5_0_0_f0_f5 x2 f L := ⟨_, rfl⟩
  have hs : sp = sX3_does_5_0_0_f0_f5 x2 f L := hsp
  have o_1 : (f 36 3).toInt = 0 := (congrArg Int32.toInt (show f 36 3 = 0 from hf_36_3)).trans (by decide)
  have hF : sgK WkX3_does_5_0_0_f0_f5 f f := sgK.rf
  have blk_53 : ∀ (fp_53 : sg_F) (H : Heap) (locs : List Loc) (ls : Array Slot), sp = sX3_does_5_0_0_f0_f5_b53 x2 fp_53 L → 0 ≤ (fp_53 36 3).toInt ∧ (fp_53 36 3).toInt ≤ 0 → 5 ≤ (fp_53 36 4).toInt ∧ (fp_53 36 4).toInt ≤ 5 → sgI loX hiX fp_53 → sgK WkX3_does_5_0_0_f0_f5 f fp_53 → va_P D vwCl (sgw 52 h (eX ca h) fp_53 L Q) H → va_S (sgA 52 h s.heap.size) s.heap H locs → lv_has ls 7 [(0, .ref (h 36)), (3, .int x2), (4, .int 0), (5, .int 0), (6, .int 1)] → W p l e ({ frames := 1, cells := 0, slots := 0, locals := 24 }) s m ([.ref (h 36), .int 5, .int 0, .int x2, .int 0] : List Value).toArray below meth cd H locs 0 0 Qz (F0 m 53 ls []) := by
    intro fp_53 H locs ls hs hy0_53 hy1_53 hI hF hP hS hl
    obtain ⟨v_2, ev_2⟩ : ∃ z : Int32, z = fp_53 36 3 := ⟨_, rfl⟩
    have q_3 : 0 ≤ v_2.toInt ∧ v_2.toInt ≤ 19 := by rw [ev_2]; exact hI 36 3
    have q_4 : (fp_53 36 3).toInt = v_2.toInt := by rw [ev_2]
    obtain ⟨v_5, ev_5⟩ : ∃ z : Int32, z = fp_53 36 4 := ⟨_, rfl⟩
    have q_6 : 0 ≤ v_5.toInt ∧ v_5.toInt ≤ 7 := by rw [ev_5]; exact hI 36 4
    have q_7 : (fp_53 36 4).toInt = v_5.toInt := by rw [ev_5]
    have m_8 : fp_53 36 4 = 5 := (hF 36 4 (by decide)).trans hf_36_4
    refine lv_aload_n hx hb dX3_does_53 rfl (lv_at hl 0 rfl) ?_
    refine lv_dup hx hb dX3_does_54 rfl ?_
    refine sl_gX_36_3_3 (v := v_2) hx hb hts hown hK hP (show fp_53 36 3 = v_2 from ev_2.symm) dX3_does_55 ?_
    refine lv_iconst (v := 1) hx hb dX3_does_58 ic_1 ?_
    refine lv_iadd hx hb dX3_does_59 ?_
    refine lv_topi (fun v_9 ev_9 => ?_)
    have q_10 : v_9.toInt = v_2.toInt + 1 := by rw [ev_9]; first | exact cm_add ti_1 (by omega) (by omega) | (have k1 : (1 : Int32).toInt = 1 := ti_1; exact (bn_addI (by omega) (by omega)).trans (by omega))
    refine sl_pX_36_3_3 (x := v_9) hx hb hts hown hh hA hK hP hS dX3_does_60 (fun f_11 H locs ef_11 hP hS => ?_)
    have hI : sgI loX hiX f_11 := by rw [ef_11]; exact sgI.put hI 36 3 (show 0 ≤ (v_9 : Int32).toInt ∧ (v_9 : Int32).toInt ≤ 19 from ⟨by omega, by omega⟩)
    have hF : sgK WkX3_does_5_0_0_f0_f5 f f_11 := sgK.put hF ef_11 (by rfl)
    refine lv_aload_n hx hb dX3_does_63 rfl (lv_at hl 0 rfl) ?_
    refine lv_iload hx hb dX3_does_64 (lv_at hl 4 rfl) ?_
    refine sg_gets hx hb hZ 2 rfl hS hown (hts _ (List.mem_cons_of_mem _ mw_174)) (fun _ h9 => h9) dX3_does_66 ?_
    refine lv_iload hx hb dX3_does_69 (lv_at hl 3 rfl) ?_
    refine sg_sald hx hb hZ 2 rfl hS (y := 0) (N := 8) (vp_in_iff.mpr (by decide)) dX3_does_71 ?_
    refine W.eq (g2 := F0 m 72 ls [.int (-1), .int 1, .ref (h 36)]) (by rfl) ?_
    refine lv_iload_n hx hb dX3_does_72 rfl (lv_at hl 1 rfl) ?_
    refine lv_iload hx hb dX3_does_73 (lv_at hl 2 rfl) ?_
    refine lv_iconst (v := 1) hx hb dX3_does_75 ic_1 ?_
    refine lv_iadd hx hb dX3_does_76 ?_
    refine W.eq (g2 := F0 m 77 ls [.int 1, .int x2, .int (-1), .int 1, .ref (h 36)]) (by rw [show (0 + 1 : Int32) = 1 from by decide]) ?_
    have c_12 : v_9 = 1 := Int32.toInt_inj.mp (by have k9 : (1 : Int32).toInt = 1 := ti_1; omega)
    have q_13 : (f_11 36 3).toInt = 1 := (congrArg Int32.toInt (show f_11 36 3 = 1 from (Eq.trans (by rw [ef_11, sg_up_s, sgu_s]) c_12))).trans (by decide)
    refine sg_calli (va_runV (As := [.int 1, .int (-1), .int x2, .int 1]) (rest := []) ⟨hx, hb, hml, hown, hts⟩ (kX3_runs_1_m1_1_f1_f5 l D ca za h hh f_11 L Q hI x2 (Eq.trans (by rw [ef_11, sg_up_s, sgu_s]) c_12) (by rw [ef_11, sg_up_s, sgu_n (by decide)]; exact m_8) (by have k0 : (1 : Int32).toInt = 1 := ti_1; have k1 : ((-1) : Int32).toInt = (-1) := ti_m1; have k3 : (1 : Int32).toInt = 1 := ti_1; omega) H.size) (sl_c3_runs_0_0_0_0_3 hts ⟨Nat.le_of_ble_eq_true rfl, Nat.le_of_ble_eq_true rfl⟩) (sl_vX_36 hA hK hP hS hZ) rfl rfl hl.1 rfl (lv_room (Nat.le_of_ble_eq_true rfl)) dX3_does_77 ⟨Nat.le_refl _, Nat.le_refl _⟩) hA hS (fun r_18 f_15 L_16 Q_17 H locs hq hP hS => ?_)
    obtain ⟨⟨ef9, eL9, eQ9⟩, hq, p_19, u_20⟩ := hq
    rw [ef9, eL9, eQ9] at hP; clear ef9 eL9 eQ9
    have k_23 : (1 : Int32).toInt = 1 := by decide
    have k_24 : ((-1) : Int32).toInt = (-1) := by decide
    have k_25 : (1 : Int32).toInt = 1 := by decide
    exact hret _ _ _ _ (r_18) f_11 L Q dX3_does_80 hP hS ⟨⟨hI, hF, rfl, rfl⟩, trivial, ⟨by omega, by omega⟩, (Eq.trans (Eq.symm (hs.trans ((spl_e ev_2 (spl_e ev_5 (spl_e ev_9 (spl_e ef_11 (spl_e u_20 rfl)))))))) hsp)⟩
  refine lv_iload_n hx hb dX3_does_0 rfl (lv_at hl 1 rfl) ?_
  refine lv_iload_n hx hb dX3_does_1 rfl (lv_at hl 2 rfl) ?_
  refine sg_calli (va_runS (As := [.int 5, .int 0]) (rest := []) ⟨hx, hb, hml, hown, hts⟩ (kX3_ownerOf_5_0 l D ca za h hh f L Q hI H.size) (va_cwS 2 hts (gw_S (fun _ h => List.mem_cons_of_mem _ h) mw_189 mw_190 mw_47 mw_188) rfl rfl rfl hd_yX3_ownerOf.2 ⟨Nat.le_of_ble_eq_true rfl, Nat.le_of_ble_eq_true rfl⟩) (sg_preS hA hK hP hS hZ) rfl rfl hl.1 rfl (lv_room (Nat.le_of_ble_eq_true rfl)) dX3_does_2 ⟨Nat.le_refl _, Nat.le_refl _⟩) hA hS (fun r_31 f_28 L_29 Q_30 H locs hq hP hS => ?_)
  obtain ⟨⟨ef9, eL9, eQ9⟩, hq, u_32⟩ := hq
  rw [ef9, eL9, eQ9] at hP; clear ef9 eL9 eQ9
  obtain rfl : r_31 = 0 := Int32.toInt_inj.mp (by have k9 : (0 : Int32).toInt = 0 := ti_0; omega)
  refine lv_istore (lv' := [(5, .int 0), (0, .ref (h 36)), (1, .int 5), (2, .int 0), (3, .int x2), (4, .int 0)]) hx hb dX3_does_5 hl (by decide) rfl (fun ls hl => ?_)
  refine lv_iload hx hb dX3_does_7 (lv_at hl 0 rfl) ?_
  refine lv_if_lt (tgt := 19) hx hb dX3_does_9 (by decide) (fun c => absurd c (by decide)) (fun c => ?_)
  refine lv_iload hx hb dX3_does_12 (lv_at hl 5 rfl) ?_
  refine lv_bipush (v := 40) hx hb dX3_does_14 bp_40 ?_
  refine lv_icmp_le (tgt := 21) hx hb dX3_does_16 (by decide) (fun c => ?_) (fun c => absurd c (by decide))
  refine sg_gets hx hb hZ 3 rfl hS hown (hts _ (List.mem_cons_of_mem _ mw_173)) (fun _ h9 => h9) dX3_does_21 ?_
  refine lv_iload hx hb dX3_does_24 (lv_at hl 0 rfl) ?_
  refine lv_iconst (v := 4) hx hb dX3_does_26 ic_4 ?_
  refine lv_imul hx hb dX3_does_27 ?_
  refine W.eq (g2 := F0 m 28 ls [.int 0, .ref (za 3)]) (by rw [show (0 * 4 : Int32) = 0 from by decide]) ?_
  refine lv_iload_n hx hb dX3_does_28 rfl (lv_at hl 3 rfl) ?_
  refine lv_iadd hx hb dX3_does_29 ?_
  refine W.eq (g2 := F0 m 30 ls [.int 0, .ref (za 3)]) (by rw [show (0 + 0 : Int32) = 0 from by decide]) ?_
  refine sg_sald hx hb hZ 3 rfl hS (y := 0) (N := 32) (vp_in_iff.mpr (by decide)) dX3_does_30 ?_
  refine W.eq (g2 := F0 m 31 ls [.int 1]) (by rfl) ?_
  refine lv_istore (lv' := [(6, .int 1), (5, .int 0), (0, .ref (h 36)), (1, .int 5), (2, .int 0), (3, .int x2), (4, .int 0)]) hx hb dX3_does_31 hl (by decide) rfl (fun ls hl => ?_)
  refine lv_aload_n hx hb dX3_does_33 rfl (lv_at hl 2 rfl) ?_
  refine sl_gX_36_3_3 (v := 0) hx hb hts hown hK hP (show f 36 3 = 0 from hf_36_3) dX3_does_34 ?_
  refine lv_bipush (v := 24) hx hb dX3_does_37 bp_24 ?_
  refine lv_icmp_ge (tgt := 53) hx hb dX3_does_39 (by decide) (fun c => absurd c (by decide)) (fun c => ?_)
  refine lv_aload_n hx hb dX3_does_42 rfl (lv_at hl 2 rfl) ?_
  refine sl_gX_36_1_3 hx hb hts hown hK hP dX3_does_43 ?_
  refine lv_aload_n hx hb dX3_does_46 rfl (lv_at hl 2 rfl) ?_
  refine sl_gX_36_3_3 (v := 0) hx hb hts hown hK hP (show f 36 3 = 0 from hf_36_3) dX3_does_47 ?_
  refine lv_iload hx hb dX3_does_50 (lv_at hl 0 rfl) ?_
  refine sg_iast hx hb hh hA hK hP hS 38 (by decide) 0 (fun _ => rfl) rfl (i := 0) (x := 1) (vp_in_iff.mpr (by decide)) dX3_does_52 (fun f_33 H locs ef_33 hP hS => ?_)
  have ef_33 : f_33 = sg_up f 38 (sgu (f 38) 0 1) := ef_33
  have hI : sgI loX hiX f_33 := by rw [ef_33]; exact sgI.put hI 38 0 (show 0 ≤ (1 : Int32).toInt ∧ (1 : Int32).toInt ≤ 81 from by decide)
  have hF : sgK WkX3_does_5_0_0_f0_f5 f f_33 := sgK.put hF ef_33 (by rfl)
  exact blk_53 f_33 _ _ _ (hs.trans ((spl_e u_32 (spl_e ef_33 rfl)))) (by have zz36_3 : (f_33 36 3).toInt = 0 := (congrArg Int32.toInt (show f_33 36 3 = 0 from (by rw [ef_33, sg_up_n (by decide)]; exact hf_36_3))).trans (by decide); exact ⟨by omega, by omega⟩) (by have zz36_4 : (f_33 36 4).toInt = 5 := (congrArg Int32.toInt (show f_33 36 4 = 5 from (by rw [ef_33, sg_up_n (by decide)]; exact hf_36_4))).trans (by decide); exact ⟨by omega, by omega⟩) hI hF hP hS (lv_sub hl [2, 5, 6, 1, 0] rfl)

set_option maxHeartbeats 4000000 in
set_option maxRecDepth 100000 in
theorem kX3_ownerOf_6_0 (l : Launch) (D : va_G) (ca : Nat → ClassId) (za h : Nat → Nat) (hh : sgH 52 h) (f : sg_F) (L : sg_L) (Q : sg_Q) (hI : sgI loX hiX f) (sz : Nat) : Met l yX3_ownerOf gwX3_ownerOf { frames := 0, cells := 0, slots := 0, locals := 0 } (sgP D vwCl (tyX ca) 52 h (eX ca h) zcX za f L Q sz [.int 6, .int 0]) (sgQi D vwCl 52 h (eX ca h) sz (fun r f1 L1 Q1 => ((f1 = f ∧ L1 = L ∧ Q1 = Q) ∧ (6 ≤ r.toInt ∧ r.toInt ≤ 6) ∧ (r) = sX3_ownerOf_6_0 f L))) 0 0 (sgA 52 h sz) := by
  refine sg_ofWi (cc := cX3_ownerOf) (maxL := 4) RX3 (by decide) rfl rfl (Nat.le_of_ble_eq_true rfl) ?_
  intro p e s m below meth cd Qz ls hx hb hml hown hts hK hZ hP hS hl hret
  have hA := sgY.self (n := 52) (h := h) (sz := s.heap.size)
  have hl : lv_has ls 4 [(0, .int 6), (1, .int 0)] := hl
  obtain ⟨H, hH⟩ : ∃ z : Heap, z = s.heap := ⟨_, rfl⟩
  obtain ⟨locs, hlo⟩ : ∃ z : List Loc, z = [] := ⟨_, rfl⟩
  have hP : va_P D vwCl (sgw 52 h (eX ca h) f L Q) H := by rw [hH]; exact hP
  have hS : va_S (sgA 52 h s.heap.size) s.heap H locs := by rw [hH, hlo]; exact hS
  suffices hgo : W p l e ({ frames := 0, cells := 0, slots := 0, locals := 0 }) s m ([.int 6, .int 0] : List Value).toArray below meth cd H locs 0 0 Qz (F0 m 0 ls []) by rw [hH, hlo] at hgo; exact hgo
  clear hH hlo
  obtain ⟨sp, hsp⟩ : ∃ z : Int32, z = sX3_ownerOf_6_0 f L := ⟨_, rfl⟩
  have hs : sp = sX3_ownerOf_6_0 f L := hsp
  refine lv_iload_n hx hb dX3_ownerOf_0 rfl (lv_at hl 0 rfl) ?_
  refine lv_istore_n (lv' := [(2, .int 6), (0, .int 6), (1, .int 0)]) hx hb dX3_ownerOf_1 rfl hl (by decide) rfl (fun ls hl => ?_)
  refine lv_iconst (v := 0) hx hb dX3_ownerOf_2 ic_0 ?_
  refine lv_istore_n (lv' := [(3, .int 0), (2, .int 6), (0, .int 6), (1, .int 0)]) hx hb dX3_ownerOf_3 rfl hl (by decide) rfl (fun ls hl => ?_)
  refine lv_iload_n hx hb dX3_ownerOf_4 rfl (lv_at hl 0 rfl) ?_
  refine lv_bipush (v := 8) hx hb dX3_ownerOf_5 bp_8 ?_
  refine lv_icmp_ge (tgt := 40) hx hb dX3_ownerOf_7 (by decide) (fun c => absurd c (by decide)) (fun c => ?_)
  refine lv_iload_n hx hb dX3_ownerOf_10 rfl (lv_at hl 1 rfl) ?_
  refine lv_if_lt (tgt := 40) hx hb dX3_ownerOf_11 (by decide) (fun c => absurd c (by decide)) (fun c => ?_)
  refine sg_gets hx hb hZ 3 rfl hS hown (hts _ (List.mem_cons_of_mem _ mw_173)) (fun _ h9 => h9) dX3_ownerOf_14 ?_
  refine lv_iload_n hx hb dX3_ownerOf_17 rfl (lv_at hl 1 rfl) ?_
  refine lv_iconst (v := 4) hx hb dX3_ownerOf_18 ic_4 ?_
  refine lv_imul hx hb dX3_ownerOf_19 ?_
  refine W.eq (g2 := F0 m 20 ls [.int 24, .ref (za 3)]) (by rw [show (6 * 4 : Int32) = 24 from by decide]) ?_
  refine lv_iload_n hx hb dX3_ownerOf_20 rfl (lv_at hl 3 rfl) ?_
  refine lv_iadd hx hb dX3_ownerOf_21 ?_
  refine W.eq (g2 := F0 m 22 ls [.int 24, .ref (za 3)]) (by rw [show (24 + 0 : Int32) = 24 from by decide]) ?_
  refine sg_sald hx hb hZ 3 rfl hS (y := 24) (N := 32) (vp_in_iff.mpr (by decide)) dX3_ownerOf_22 ?_
  refine W.eq (g2 := F0 m 23 ls [.int 70]) (by rfl) ?_
  refine lv_if_eq (tgt := 28) hx hb dX3_ownerOf_23 (by decide) (fun c => absurd c (by decide)) (fun c => ?_)
  refine lv_iload_n hx hb dX3_ownerOf_26 rfl (lv_at hl 1 rfl) ?_
  have k99 : (6 : Int32).toInt = 6 := ti_6
  exact hret _ _ _ _ (6) f L Q dX3_ownerOf_27 hP hS ⟨⟨rfl, rfl, rfl⟩, (by decide), (Eq.trans (Eq.symm hs) hsp)⟩

set_option maxHeartbeats 4000000 in
set_option maxRecDepth 100000 in
theorem kX3_runs_1_m1_2_f2_f6 (l : Launch) (D : va_G) (ca : Nat → ClassId) (za h : Nat → Nat) (hh : sgH 52 h) (f : sg_F) (L : sg_L) (Q : sg_Q) (hI : sgI loX hiX f) (x2 : Int32) (hf_36_3 : f 36 3 = 2) (hf_36_4 : f 36 4 = 6) (p0 : 2 ≤ (f 36 3).toInt ∧ (f 36 3).toInt ≤ 2) (sz : Nat) : Met l yX3_runs gwX3_runs { frames := 0, cells := 0, slots := 0, locals := 0 } (sgP D vwCl (tyX ca) 52 h (eX ca h) zcX za f L Q sz [.ref (h 36), .int 1, .int (-1), .int x2, .int 2]) (sgQi D vwCl 52 h (eX ca h) sz (fun r f1 L1 Q1 => ((f1 = f ∧ L1 = L ∧ Q1 = Q) ∧ True ∧ (2 ≤ (f1 36 3).toInt ∧ (f1 36 3).toInt ≤ 2) ∧ (r) = sX3_runs_1_m1_2_f2_f6 x2 f L))) 0 0 (sgA 52 h sz) := by
  refine sg_ofWi (cc := cX3_runs) (maxL := 5) RX3 (by decide) rfl rfl (Nat.le_of_ble_eq_true rfl) ?_
  intro p e s m below meth cd Qz ls hx hb hml hown hts hK hZ hP hS hl hret
  have hA := sgY.self (n := 52) (h := h) (sz := s.heap.size)
  have hl : lv_has ls 5 [(0, .ref (h 36)), (1, .int 1), (2, .int (-1)), (3, .int x2), (4, .int 2)] := hl
  obtain ⟨H, hH⟩ : ∃ z : Heap, z = s.heap := ⟨_, rfl⟩
  obtain ⟨locs, hlo⟩ : ∃ z : List Loc, z = [] := ⟨_, rfl⟩
  have hP : va_P D vwCl (sgw 52 h (eX ca h) f L Q) H := by rw [hH]; exact hP
  have hS : va_S (sgA 52 h s.heap.size) s.heap H locs := by rw [hH, hlo]; exact hS
  suffices hgo : W p l e ({ frames := 0, cells := 0, slots := 0, locals := 0 }) s m ([.ref (h 36), .int 1, .int (-1), .int x2, .int 2] : List Value).toArray below meth cd H locs 0 0 Qz (F0 m 0 ls []) by rw [hH, hlo] at hgo; exact hgo
  clear hH hlo
  obtain ⟨sp, hsp⟩ : ∃ z : Int32, z = sX3_runs_1_m1_2_f2_f6 x2 f L := ⟨_, rfl⟩
  have hs : sp = sX3_runs_1_m1_2_f2_f6 x2 f L := hsp
  have o_1 : (f 36 3).toInt = 2 := (congrArg Int32.toInt (show f 36 3 = 2 from hf_36_3)).trans (by decide)
  refine lv_iload_n hx hb dX3_runs_0 rfl (lv_at hl 1 rfl) ?_
  refine lv_lookup (x := 1) (off := 115) (tgt := 116) hx hb dX3_runs_1 (by decide) (by decide) (by decide) ?_
  refine lv_iload_n hx hb dX3_runs_116 rfl (lv_at hl 3 rfl) ?_
  refine lv_aload_n hx hb dX3_runs_117 rfl (lv_at hl 0 rfl) ?_
  refine sl_gX_36_5_3 (v := (f 36 5)) hx hb hts hown hK hP rfl dX3_runs_118 ?_
  refine lv_topi (fun v_2 ev_2 => ?_)
  have q_3 : 0 ≤ v_2.toInt ∧ v_2.toInt ≤ 49 := by rw [ev_2]; exact hI 36 5
  refine lv_iadd hx hb dX3_runs_121 ?_
  refine lv_topi (fun v_4 ev_4 => ?_)
  have q_5 : (f 36 3).toInt = 2 := (congrArg Int32.toInt (show f 36 3 = 2 from hf_36_3)).trans (by decide)
  exact hret _ _ _ _ (v_4) f L Q dX3_runs_122 hP hS ⟨⟨rfl, rfl, rfl⟩, trivial, ⟨by omega, by omega⟩, (Eq.trans (Eq.symm (hs.trans ((spl_e ev_2 (spl_e ev_4 rfl))))) hsp)⟩

abbrev WkX3_does_0_0_1_f1_f6 : List (Nat × Nat × Option Nat) := [(36, 36, some 3), (38, 38, some 1)]
set_option maxHeartbeats 4000000 in
set_option maxRecDepth 100000 in
theorem kX3_does_0_0_1_f1_f6 (l : Launch) (D : va_G) (ca : Nat → ClassId) (za h : Nat → Nat) (hh : sgH 52 h) (f : sg_F) (L : sg_L) (Q : sg_Q) (hI : sgI loX hiX f) (x2 : Int32) (hf_36_3 : f 36 3 = 1) (hf_36_4 : f 36 4 = 6) (p0 : 1 ≤ (f 36 3).toInt ∧ (f 36 3).toInt ≤ 1) (sz : Nat) : Met l yX3_does gwX3_does { frames := 1, cells := 0, slots := 0, locals := 24 } (sgP D vwCl (tyX ca) 52 h (eX ca h) zcX za f L Q sz [.ref (h 36), .int 0, .int 0, .int x2, .int 1]) (sgQi D vwCl 52 h (eX ca h) sz (fun r f1 L1 Q1 => ((sgI loX hiX f1 ∧ sgK WkX3_does_0_0_1_f1_f6 f f1 ∧ L1 = L ∧ Q1 = Q) ∧ True ∧ (2 ≤ (f1 36 3).toInt ∧ (f1 36 3).toInt ≤ 2) ∧ (r, f1) = sX3_does_0_0_1_f1_f6 x2 f L))) 0 0 (sgA 52 h sz) := by
  refine sg_ofWi (cc := cX3_does) (maxL := 7) RX3 (by decide) rfl rfl (Nat.le_of_ble_eq_true rfl) ?_
  intro p e s m below meth cd Qz ls hx hb hml hown hts hK hZ hP hS hl hret
  have hA := sgY.self (n := 52) (h := h) (sz := s.heap.size)
  have hl : lv_has ls 7 [(0, .ref (h 36)), (1, .int 0), (2, .int 0), (3, .int x2), (4, .int 1)] := hl
  obtain ⟨H, hH⟩ : ∃ z : Heap, z = s.heap := ⟨_, rfl⟩
  obtain ⟨locs, hlo⟩ : ∃ z : List Loc, z = [] := ⟨_, rfl⟩
  have hP : va_P D vwCl (sgw 52 h (eX ca h) f L Q) H := by rw [hH]; exact hP
  have hS : va_S (sgA 52 h s.heap.size) s.heap H locs := by rw [hH, hlo]; exact hS
  suffices hgo : W p l e ({ frames := 1, cells := 0, slots := 0, locals := 24 }) s m ([.ref (h 36), .int 0, .int 0, .int x2, .int 1] : List Value).toArray below meth cd H locs 0 0 Qz (F0 m 0 ls []) by rw [hH, hlo] at hgo; exact hgo
  clear hH hlo
  obtain ⟨sp, hsp⟩ : ∃ z : Int32 × sg_F, z = sX3_does_0_0_1_f1_f6 x2 f L := ⟨_, rfl⟩
  have hs : sp = sX3_does_0_0_1_f1_f6 x2 f L := hsp
  have o_1 : (f 36 3).toInt = 1 := (congrArg Int32.toInt (show f 36 3 = 1 from hf_36_3)).trans (by decide)
  have hF : sgK WkX3_does_0_0_1_f1_f6 f f := sgK.rf
  have blk_53 : ∀ (fp_53 : sg_F) (H : Heap) (locs : List Loc) (ls : Array Slot), sp = sX3_does_0_0_1_f1_f6_b53 x2 fp_53 L → 1 ≤ (fp_53 36 3).toInt ∧ (fp_53 36 3).toInt ≤ 1 → 6 ≤ (fp_53 36 4).toInt ∧ (fp_53 36 4).toInt ≤ 6 → sgI loX hiX fp_53 → sgK WkX3_does_0_0_1_f1_f6 f fp_53 → va_P D vwCl (sgw 52 h (eX ca h) fp_53 L Q) H → va_S (sgA 52 h s.heap.size) s.heap H locs → lv_has ls 7 [(0, .ref (h 36)), (3, .int x2), (4, .int 1), (5, .int 0), (6, .int 1)] → W p l e ({ frames := 1, cells := 0, slots := 0, locals := 24 }) s m ([.ref (h 36), .int 0, .int 0, .int x2, .int 1] : List Value).toArray below meth cd H locs 0 0 Qz (F0 m 53 ls []) := by
    intro fp_53 H locs ls hs hy0_53 hy1_53 hI hF hP hS hl
    obtain ⟨v_2, ev_2⟩ : ∃ z : Int32, z = fp_53 36 3 := ⟨_, rfl⟩
    have q_3 : 0 ≤ v_2.toInt ∧ v_2.toInt ≤ 19 := by rw [ev_2]; exact hI 36 3
    have q_4 : (fp_53 36 3).toInt = v_2.toInt := by rw [ev_2]
    obtain ⟨v_5, ev_5⟩ : ∃ z : Int32, z = fp_53 36 4 := ⟨_, rfl⟩
    have q_6 : 0 ≤ v_5.toInt ∧ v_5.toInt ≤ 7 := by rw [ev_5]; exact hI 36 4
    have q_7 : (fp_53 36 4).toInt = v_5.toInt := by rw [ev_5]
    have m_8 : fp_53 36 4 = 6 := (hF 36 4 (by decide)).trans hf_36_4
    refine lv_aload_n hx hb dX3_does_53 rfl (lv_at hl 0 rfl) ?_
    refine lv_dup hx hb dX3_does_54 rfl ?_
    refine sl_gX_36_3_3 (v := v_2) hx hb hts hown hK hP (show fp_53 36 3 = v_2 from ev_2.symm) dX3_does_55 ?_
    refine lv_iconst (v := 1) hx hb dX3_does_58 ic_1 ?_
    refine lv_iadd hx hb dX3_does_59 ?_
    refine lv_topi (fun v_9 ev_9 => ?_)
    have q_10 : v_9.toInt = v_2.toInt + 1 := by rw [ev_9]; first | exact cm_add ti_1 (by omega) (by omega) | (have k1 : (1 : Int32).toInt = 1 := ti_1; exact (bn_addI (by omega) (by omega)).trans (by omega))
    refine sl_pX_36_3_3 (x := v_9) hx hb hts hown hh hA hK hP hS dX3_does_60 (fun f_11 H locs ef_11 hP hS => ?_)
    have hI : sgI loX hiX f_11 := by rw [ef_11]; exact sgI.put hI 36 3 (show 0 ≤ (v_9 : Int32).toInt ∧ (v_9 : Int32).toInt ≤ 19 from ⟨by omega, by omega⟩)
    have hF : sgK WkX3_does_0_0_1_f1_f6 f f_11 := sgK.put hF ef_11 (by rfl)
    refine lv_aload_n hx hb dX3_does_63 rfl (lv_at hl 0 rfl) ?_
    refine lv_iload hx hb dX3_does_64 (lv_at hl 4 rfl) ?_
    refine sg_gets hx hb hZ 2 rfl hS hown (hts _ (List.mem_cons_of_mem _ mw_174)) (fun _ h9 => h9) dX3_does_66 ?_
    refine lv_iload hx hb dX3_does_69 (lv_at hl 3 rfl) ?_
    refine sg_sald hx hb hZ 2 rfl hS (y := 0) (N := 8) (vp_in_iff.mpr (by decide)) dX3_does_71 ?_
    refine W.eq (g2 := F0 m 72 ls [.int (-1), .int 1, .ref (h 36)]) (by rfl) ?_
    refine lv_iload_n hx hb dX3_does_72 rfl (lv_at hl 1 rfl) ?_
    refine lv_iload hx hb dX3_does_73 (lv_at hl 2 rfl) ?_
    refine lv_iconst (v := 1) hx hb dX3_does_75 ic_1 ?_
    refine lv_iadd hx hb dX3_does_76 ?_
    refine W.eq (g2 := F0 m 77 ls [.int 2, .int x2, .int (-1), .int 1, .ref (h 36)]) (by rw [show (1 + 1 : Int32) = 2 from by decide]) ?_
    have c_12 : v_9 = 2 := Int32.toInt_inj.mp (by have k9 : (2 : Int32).toInt = 2 := ti_2; omega)
    have q_13 : (f_11 36 3).toInt = 2 := (congrArg Int32.toInt (show f_11 36 3 = 2 from (Eq.trans (by rw [ef_11, sg_up_s, sgu_s]) c_12))).trans (by decide)
    refine sg_calli (va_runV (As := [.int 1, .int (-1), .int x2, .int 2]) (rest := []) ⟨hx, hb, hml, hown, hts⟩ (kX3_runs_1_m1_2_f2_f6 l D ca za h hh f_11 L Q hI x2 (Eq.trans (by rw [ef_11, sg_up_s, sgu_s]) c_12) (by rw [ef_11, sg_up_s, sgu_n (by decide)]; exact m_8) (by have k0 : (1 : Int32).toInt = 1 := ti_1; have k1 : ((-1) : Int32).toInt = (-1) := ti_m1; have k3 : (2 : Int32).toInt = 2 := ti_2; omega) H.size) (sl_c3_runs_0_0_0_0_3 hts ⟨Nat.le_of_ble_eq_true rfl, Nat.le_of_ble_eq_true rfl⟩) (sl_vX_36 hA hK hP hS hZ) rfl rfl hl.1 rfl (lv_room (Nat.le_of_ble_eq_true rfl)) dX3_does_77 ⟨Nat.le_refl _, Nat.le_refl _⟩) hA hS (fun r_18 f_15 L_16 Q_17 H locs hq hP hS => ?_)
    obtain ⟨⟨ef9, eL9, eQ9⟩, hq, p_19, u_20⟩ := hq
    rw [ef9, eL9, eQ9] at hP; clear ef9 eL9 eQ9
    have k_23 : (1 : Int32).toInt = 1 := by decide
    have k_24 : ((-1) : Int32).toInt = (-1) := by decide
    have k_25 : (2 : Int32).toInt = 2 := by decide
    exact hret _ _ _ _ (r_18) f_11 L Q dX3_does_80 hP hS ⟨⟨hI, hF, rfl, rfl⟩, trivial, ⟨by omega, by omega⟩, (Eq.trans (Eq.symm (hs.trans ((spl_e ev_2 (spl_e ev_5 (spl_e ev_9 (spl_e ef_11 (spl_e u_20 rfl)))))))) hsp)⟩
  refine lv_iload_n hx hb dX3_does_0 rfl (lv_at hl 1 rfl) ?_
  refine lv_iload_n hx hb dX3_does_1 rfl (lv_at hl 2 rfl) ?_
  refine sg_calli (va_runS (As := [.int 0, .int 0]) (rest := []) ⟨hx, hb, hml, hown, hts⟩ (kX3_ownerOf_0_0 l D ca za h hh f L Q hI H.size) (va_cwS 2 hts (gw_S (fun _ h => List.mem_cons_of_mem _ h) mw_189 mw_190 mw_47 mw_188) rfl rfl rfl hd_yX3_ownerOf.2 ⟨Nat.le_of_ble_eq_true rfl, Nat.le_of_ble_eq_true rfl⟩) (sg_preS hA hK hP hS hZ) rfl rfl hl.1 rfl (lv_room (Nat.le_of_ble_eq_true rfl)) dX3_does_2 ⟨Nat.le_refl _, Nat.le_refl _⟩) hA hS (fun r_31 f_28 L_29 Q_30 H locs hq hP hS => ?_)
  obtain ⟨⟨ef9, eL9, eQ9⟩, hq, u_32⟩ := hq
  rw [ef9, eL9, eQ9] at hP; clear ef9 eL9 eQ9
  obtain rfl : r_31 = 0 := Int32.toInt_inj.mp (by have k9 : (0 : Int32).toInt = 0 := ti_0; omega)
  refine lv_istore (lv' := [(5, .int 0), (0, .ref (h 36)), (1, .int 0), (2, .int 0), (3, .int x2), (4, .int 1)]) hx hb dX3_does_5 hl (by decide) rfl (fun ls hl => ?_)
  refine lv_iload hx hb dX3_does_7 (lv_at hl 0 rfl) ?_
  refine lv_if_lt (tgt := 19) hx hb dX3_does_9 (by decide) (fun c => absurd c (by decide)) (fun c => ?_)
  refine lv_iload hx hb dX3_does_12 (lv_at hl 5 rfl) ?_
  refine lv_bipush (v := 40) hx hb dX3_does_14 bp_40 ?_
  refine lv_icmp_le (tgt := 21) hx hb dX3_does_16 (by decide) (fun c => ?_) (fun c => absurd c (by decide))
  refine sg_gets hx hb hZ 3 rfl hS hown (hts _ (List.mem_cons_of_mem _ mw_173)) (fun _ h9 => h9) dX3_does_21 ?_
  refine lv_iload hx hb dX3_does_24 (lv_at hl 0 rfl) ?_
  refine lv_iconst (v := 4) hx hb dX3_does_26 ic_4 ?_
  refine lv_imul hx hb dX3_does_27 ?_
  refine W.eq (g2 := F0 m 28 ls [.int 0, .ref (za 3)]) (by rw [show (0 * 4 : Int32) = 0 from by decide]) ?_
  refine lv_iload_n hx hb dX3_does_28 rfl (lv_at hl 3 rfl) ?_
  refine lv_iadd hx hb dX3_does_29 ?_
  refine W.eq (g2 := F0 m 30 ls [.int 0, .ref (za 3)]) (by rw [show (0 + 0 : Int32) = 0 from by decide]) ?_
  refine sg_sald hx hb hZ 3 rfl hS (y := 0) (N := 32) (vp_in_iff.mpr (by decide)) dX3_does_30 ?_
  refine W.eq (g2 := F0 m 31 ls [.int 1]) (by rfl) ?_
  refine lv_istore (lv' := [(6, .int 1), (5, .int 0), (0, .ref (h 36)), (1, .int 0), (2, .int 0), (3, .int x2), (4, .int 1)]) hx hb dX3_does_31 hl (by decide) rfl (fun ls hl => ?_)
  refine lv_aload_n hx hb dX3_does_33 rfl (lv_at hl 2 rfl) ?_
  refine sl_gX_36_3_3 (v := 1) hx hb hts hown hK hP (show f 36 3 = 1 from hf_36_3) dX3_does_34 ?_
  refine lv_bipush (v := 24) hx hb dX3_does_37 bp_24 ?_
  refine lv_icmp_ge (tgt := 53) hx hb dX3_does_39 (by decide) (fun c => absurd c (by decide)) (fun c => ?_)
  refine lv_aload_n hx hb dX3_does_42 rfl (lv_at hl 2 rfl) ?_
  refine sl_gX_36_1_3 hx hb hts hown hK hP dX3_does_43 ?_
  refine lv_aload_n hx hb dX3_does_46 rfl (lv_at hl 2 rfl) ?_
  refine sl_gX_36_3_3 (v := 1) hx hb hts hown hK hP (show f 36 3 = 1 from hf_36_3) dX3_does_47 ?_
  refine lv_iload hx hb dX3_does_50 (lv_at hl 0 rfl) ?_
  refine sg_iast hx hb hh hA hK hP hS 38 (by decide) 0 (fun _ => rfl) rfl (i := 1) (x := 1) (vp_in_iff.mpr (by decide)) dX3_does_52 (fun f_33 H locs ef_33 hP hS => ?_)
  have ef_33 : f_33 = sg_up f 38 (sgu (f 38) 1 1) := ef_33
  have hI : sgI loX hiX f_33 := by rw [ef_33]; exact sgI.put hI 38 1 (show 0 ≤ (1 : Int32).toInt ∧ (1 : Int32).toInt ≤ 81 from by decide)
  have hF : sgK WkX3_does_0_0_1_f1_f6 f f_33 := sgK.put hF ef_33 (by rfl)
  exact blk_53 f_33 _ _ _ (hs.trans ((spl_e u_32 (spl_e ef_33 rfl)))) (by have zz36_3 : (f_33 36 3).toInt = 1 := (congrArg Int32.toInt (show f_33 36 3 = 1 from (by rw [ef_33, sg_up_n (by decide)]; exact hf_36_3))).trans (by decide); exact ⟨by omega, by omega⟩) (by have zz36_4 : (f_33 36 4).toInt = 6 := (congrArg Int32.toInt (show f_33 36 4 = 6 from (by rw [ef_33, sg_up_n (by decide)]; exact hf_36_4))).trans (by decide); exact ⟨by omega, by omega⟩) hI hF hP hS (lv_sub hl [2, 5, 6, 1, 0] rfl)

abbrev WkX3_runs_70_0_1_f1_f6 : List (Nat × Nat × Option Nat) := [(36, 36, some 3), (38, 38, some 1)]
set_option maxHeartbeats 4000000 in
set_option maxRecDepth 100000 in
theorem kX3_runs_70_0_1_f1_f6 (l : Launch) (D : va_G) (ca : Nat → ClassId) (za h : Nat → Nat) (hh : sgH 52 h) (f : sg_F) (L : sg_L) (Q : sg_Q) (hI : sgI loX hiX f) (x2 : Int32) (hf_36_3 : f 36 3 = 1) (hf_36_4 : f 36 4 = 6) (p0 : 1 ≤ (f 36 3).toInt ∧ (f 36 3).toInt ≤ 1) (sz : Nat) : Met l yX3_runs gwX3_runs { frames := 2, cells := 0, slots := 0, locals := 50 } (sgP D vwCl (tyX ca) 52 h (eX ca h) zcX za f L Q sz [.ref (h 36), .int 70, .int 0, .int x2, .int 1]) (sgQi D vwCl 52 h (eX ca h) sz (fun r f1 L1 Q1 => ((sgI loX hiX f1 ∧ sgK WkX3_runs_70_0_1_f1_f6 f f1 ∧ L1 = L ∧ Q1 = Q) ∧ True ∧ (2 ≤ (f1 36 3).toInt ∧ (f1 36 3).toInt ≤ 2) ∧ (r, f1) = sX3_runs_70_0_1_f1_f6 x2 f L))) 0 0 (sgA 52 h sz) := by
  refine sg_ofWi (cc := cX3_runs) (maxL := 5) RX3 (by decide) rfl rfl (Nat.le_of_ble_eq_true rfl) ?_
  intro p e s m below meth cd Qz ls hx hb hml hown hts hK hZ hP hS hl hret
  have hA := sgY.self (n := 52) (h := h) (sz := s.heap.size)
  have hl : lv_has ls 5 [(0, .ref (h 36)), (1, .int 70), (2, .int 0), (3, .int x2), (4, .int 1)] := hl
  obtain ⟨H, hH⟩ : ∃ z : Heap, z = s.heap := ⟨_, rfl⟩
  obtain ⟨locs, hlo⟩ : ∃ z : List Loc, z = [] := ⟨_, rfl⟩
  have hP : va_P D vwCl (sgw 52 h (eX ca h) f L Q) H := by rw [hH]; exact hP
  have hS : va_S (sgA 52 h s.heap.size) s.heap H locs := by rw [hH, hlo]; exact hS
  suffices hgo : W p l e ({ frames := 2, cells := 0, slots := 0, locals := 50 }) s m ([.ref (h 36), .int 70, .int 0, .int x2, .int 1] : List Value).toArray below meth cd H locs 0 0 Qz (F0 m 0 ls []) by rw [hH, hlo] at hgo; exact hgo
  clear hH hlo
  obtain ⟨sp, hsp⟩ : ∃ z : Int32 × sg_F, z = sX3_runs_70_0_1_f1_f6 x2 f L := ⟨_, rfl⟩
  have hs : sp = sX3_runs_70_0_1_f1_f6 x2 f L := hsp
  have o_1 : (f 36 3).toInt = 1 := (congrArg Int32.toInt (show f 36 3 = 1 from hf_36_3)).trans (by decide)
  have hF : sgK WkX3_runs_70_0_1_f1_f6 f f := sgK.rf
  refine lv_iload_n hx hb dX3_runs_0 rfl (lv_at hl 1 rfl) ?_
  refine lv_lookup (x := 70) (off := 252) (tgt := 253) hx hb dX3_runs_1 (by decide) (by decide) (by decide) ?_
  refine lv_aload_n hx hb dX3_runs_253 rfl (lv_at hl 0 rfl) ?_
  refine lv_iload_n hx hb dX3_runs_254 rfl (lv_at hl 2 rfl) ?_
  refine lv_iconst (v := 0) hx hb dX3_runs_255 ic_0 ?_
  refine lv_iload_n hx hb dX3_runs_256 rfl (lv_at hl 3 rfl) ?_
  refine lv_iload hx hb dX3_runs_257 (lv_at hl 4 rfl) ?_
  have q_2 : (f 36 3).toInt = 1 := (congrArg Int32.toInt (show f 36 3 = 1 from hf_36_3)).trans (by decide)
  refine sg_calli (va_runV (As := [.int 0, .int 0, .int x2, .int 1]) (rest := []) ⟨hx, hb, hml, hown, hts⟩ (kX3_does_0_0_1_f1_f6 l D ca za h hh f L Q hI x2 hf_36_3 hf_36_4 (by have k0 : (0 : Int32).toInt = 0 := ti_0; have k1 : (0 : Int32).toInt = 0 := ti_0; have k3 : (1 : Int32).toInt = 1 := ti_1; omega) H.size) (sl_c3_does_1_0_0_24_3 hts ⟨Nat.le_of_ble_eq_true rfl, Nat.le_of_ble_eq_true rfl⟩) (sl_vX_36 hA hK hP hS hZ) rfl rfl hl.1 rfl (lv_room (Nat.le_of_ble_eq_true rfl)) dX3_runs_259 ⟨Nat.le_refl _, Nat.le_refl _⟩) hA hS (fun r_7 f_4 L_5 Q_6 H locs hq hP hS => ?_)
  obtain ⟨⟨hI, hk_f_4, eL9, eQ9⟩, hq, p_8, u_9⟩ := hq
  rw [eL9, eQ9] at hP; clear eL9 eQ9
  have hF : sgK WkX3_runs_70_0_1_f1_f6 f f_4 := sgK.tr hF hk_f_4 (by decide +kernel)
  obtain ⟨v_10, ev_10⟩ : ∃ z : Int32, z = f_4 36 3 := ⟨_, rfl⟩
  have q_11 : 0 ≤ v_10.toInt ∧ v_10.toInt ≤ 19 := by rw [ev_10]; exact hI 36 3
  have q_12 : (f_4 36 3).toInt = v_10.toInt := (congrArg Int32.toInt (show f_4 36 3 = v_10 from ev_10.symm))
  have k_14 : (0 : Int32).toInt = 0 := by decide
  have k_15 : (0 : Int32).toInt = 0 := by decide
  have k_16 : (1 : Int32).toInt = 1 := by decide
  refine lv_iconst (v := 2) hx hb dX3_runs_262 ic_2 ?_
  refine lv_imul hx hb dX3_runs_263 ?_
  refine lv_topi (fun v_17 ev_17 => ?_)
  exact hret _ _ _ _ (v_17) f_4 L Q dX3_runs_264 hP hS ⟨⟨hI, hF, rfl, rfl⟩, trivial, ⟨by omega, by omega⟩, (Eq.trans (Eq.symm (hs.trans ((spl2_e u_9 (spl_e ev_10 (spl_e ev_17 rfl)))))) hsp)⟩

abbrev WkX3_does_6_0_0_f0_f6 : List (Nat × Nat × Option Nat) := [(36, 36, some 3), (38, 38, some 0), (38, 38, some 1)]
set_option maxHeartbeats 4000000 in
set_option maxRecDepth 100000 in
theorem kX3_does_6_0_0_f0_f6 (l : Launch) (D : va_G) (ca : Nat → ClassId) (za h : Nat → Nat) (hh : sgH 52 h) (f : sg_F) (L : sg_L) (Q : sg_Q) (hI : sgI loX hiX f) (x2 : Int32) (hf_36_3 : f 36 3 = 0) (hf_36_4 : f 36 4 = 6) (p0 : 0 ≤ (f 36 3).toInt ∧ (f 36 3).toInt ≤ 0) (sz : Nat) : Met l yX3_does gwX3_does { frames := 3, cells := 0, slots := 0, locals := 74 } (sgP D vwCl (tyX ca) 52 h (eX ca h) zcX za f L Q sz [.ref (h 36), .int 6, .int 0, .int x2, .int 0]) (sgQi D vwCl 52 h (eX ca h) sz (fun r f1 L1 Q1 => ((sgI loX hiX f1 ∧ sgK WkX3_does_6_0_0_f0_f6 f f1 ∧ L1 = L ∧ Q1 = Q) ∧ True ∧ (2 ≤ (f1 36 3).toInt ∧ (f1 36 3).toInt ≤ 2) ∧ (r, f1) = sX3_does_6_0_0_f0_f6 x2 f L))) 0 0 (sgA 52 h sz) := by
  refine sg_ofWi (cc := cX3_does) (maxL := 7) RX3 (by decide) rfl rfl (Nat.le_of_ble_eq_true rfl) ?_
  intro p e s m below meth cd Qz ls hx hb hml hown hts hK hZ hP hS hl hret
  have hA := sgY.self (n := 52) (h := h) (sz := s.heap.size)
  have hl : lv_has ls 7 [(0, .ref (h 36)), (1, .int 6), (2, .int 0), (3, .int x2), (4, .int 0)] := hl
  obtain ⟨H, hH⟩ : ∃ z : Heap, z = s.heap := ⟨_, rfl⟩
  obtain ⟨locs, hlo⟩ : ∃ z : List Loc, z = [] := ⟨_, rfl⟩
  have hP : va_P D vwCl (sgw 52 h (eX ca h) f L Q) H := by rw [hH]; exact hP
  have hS : va_S (sgA 52 h s.heap.size) s.heap H locs := by rw [hH, hlo]; exact hS
  suffices hgo : W p l e ({ frames := 3, cells := 0, slots := 0, locals := 74 }) s m ([.ref (h 36), .int 6, .int 0, .int x2, .int 0] : List Value).toArray below meth cd H locs 0 0 Qz (F0 m 0 ls []) by rw [hH, hlo] at hgo; exact hgo
  clear hH hlo
  obtain ⟨sp, hsp⟩ : ∃ z : Int32 × sg_F, z = sX3_does_6_0_0_f0_f6 x2 f L := ⟨_, rfl⟩
  have hs : sp = sX3_does_6_0_0_f0_f6 x2 f L := hsp
  have o_1 : (f 36 3).toInt = 0 := (congrArg Int32.toInt (show f 36 3 = 0 from hf_36_3)).trans (by decide)
  have hF : sgK WkX3_does_6_0_0_f0_f6 f f := sgK.rf
  have blk_53 : ∀ (fp_53 : sg_F) (H : Heap) (locs : List Loc) (ls : Array Slot), sp = sX3_does_6_0_0_f0_f6_b53 x2 fp_53 L → 0 ≤ (fp_53 36 3).toInt ∧ (fp_53 36 3).toInt ≤ 0 → 6 ≤ (fp_53 36 4).toInt ∧ (fp_53 36 4).toInt ≤ 6 → sgI loX hiX fp_53 → sgK WkX3_does_6_0_0_f0_f6 f fp_53 → va_P D vwCl (sgw 52 h (eX ca h) fp_53 L Q) H → va_S (sgA 52 h s.heap.size) s.heap H locs → lv_has ls 7 [(0, .ref (h 36)), (3, .int x2), (4, .int 0), (5, .int 6), (6, .int 70)] → W p l e ({ frames := 3, cells := 0, slots := 0, locals := 74 }) s m ([.ref (h 36), .int 6, .int 0, .int x2, .int 0] : List Value).toArray below meth cd H locs 0 0 Qz (F0 m 53 ls []) := by
    intro fp_53 H locs ls hs hy0_53 hy1_53 hI hF hP hS hl
    obtain ⟨v_2, ev_2⟩ : ∃ z : Int32, z = fp_53 36 3 := ⟨_, rfl⟩
    have q_3 : 0 ≤ v_2.toInt ∧ v_2.toInt ≤ 19 := by rw [ev_2]; exact hI 36 3
    have q_4 : (fp_53 36 3).toInt = v_2.toInt := by rw [ev_2]
    obtain ⟨v_5, ev_5⟩ : ∃ z : Int32, z = fp_53 36 4 := ⟨_, rfl⟩
    have q_6 : 0 ≤ v_5.toInt ∧ v_5.toInt ≤ 7 := by rw [ev_5]; exact hI 36 4
    have q_7 : (fp_53 36 4).toInt = v_5.toInt := by rw [ev_5]
    have m_8 : fp_53 36 4 = 6 := (hF 36 4 (by decide)).trans hf_36_4
    refine lv_aload_n hx hb dX3_does_53 rfl (lv_at hl 0 rfl) ?_
    refine lv_dup hx hb dX3_does_54 rfl ?_
    refine sl_gX_36_3_3 (v := v_2) hx hb hts hown hK hP (show fp_53 36 3 = v_2 from ev_2.symm) dX3_does_55 ?_
    refine lv_iconst (v := 1) hx hb dX3_does_58 ic_1 ?_
    refine lv_iadd hx hb dX3_does_59 ?_
    refine lv_topi (fun v_9 ev_9 => ?_)
    have q_10 : v_9.toInt = v_2.toInt + 1 := by rw [ev_9]; first | exact cm_add ti_1 (by omega) (by omega) | (have k1 : (1 : Int32).toInt = 1 := ti_1; exact (bn_addI (by omega) (by omega)).trans (by omega))
    refine sl_pX_36_3_3 (x := v_9) hx hb hts hown hh hA hK hP hS dX3_does_60 (fun f_11 H locs ef_11 hP hS => ?_)
    have hI : sgI loX hiX f_11 := by rw [ef_11]; exact sgI.put hI 36 3 (show 0 ≤ (v_9 : Int32).toInt ∧ (v_9 : Int32).toInt ≤ 19 from ⟨by omega, by omega⟩)
    have hF : sgK WkX3_does_6_0_0_f0_f6 f f_11 := sgK.put hF ef_11 (by rfl)
    refine lv_aload_n hx hb dX3_does_63 rfl (lv_at hl 0 rfl) ?_
    refine lv_iload hx hb dX3_does_64 (lv_at hl 4 rfl) ?_
    refine sg_gets hx hb hZ 2 rfl hS hown (hts _ (List.mem_cons_of_mem _ mw_174)) (fun _ h9 => h9) dX3_does_66 ?_
    refine lv_iload hx hb dX3_does_69 (lv_at hl 3 rfl) ?_
    refine sg_sald hx hb hZ 2 rfl hS (y := 6) (N := 8) (vp_in_iff.mpr (by decide)) dX3_does_71 ?_
    refine W.eq (g2 := F0 m 72 ls [.int 0, .int 70, .ref (h 36)]) (by rfl) ?_
    refine lv_iload_n hx hb dX3_does_72 rfl (lv_at hl 1 rfl) ?_
    refine lv_iload hx hb dX3_does_73 (lv_at hl 2 rfl) ?_
    refine lv_iconst (v := 1) hx hb dX3_does_75 ic_1 ?_
    refine lv_iadd hx hb dX3_does_76 ?_
    refine W.eq (g2 := F0 m 77 ls [.int 1, .int x2, .int 0, .int 70, .ref (h 36)]) (by rw [show (0 + 1 : Int32) = 1 from by decide]) ?_
    have c_12 : v_9 = 1 := Int32.toInt_inj.mp (by have k9 : (1 : Int32).toInt = 1 := ti_1; omega)
    have q_13 : (f_11 36 3).toInt = 1 := (congrArg Int32.toInt (show f_11 36 3 = 1 from (Eq.trans (by rw [ef_11, sg_up_s, sgu_s]) c_12))).trans (by decide)
    refine sg_calli (va_runV (As := [.int 70, .int 0, .int x2, .int 1]) (rest := []) ⟨hx, hb, hml, hown, hts⟩ (kX3_runs_70_0_1_f1_f6 l D ca za h hh f_11 L Q hI x2 (Eq.trans (by rw [ef_11, sg_up_s, sgu_s]) c_12) (by rw [ef_11, sg_up_s, sgu_n (by decide)]; exact m_8) (by have k0 : (70 : Int32).toInt = 70 := ti_70; have k1 : (0 : Int32).toInt = 0 := ti_0; have k3 : (1 : Int32).toInt = 1 := ti_1; omega) H.size) (sl_c3_runs_2_0_0_50_3 hts ⟨Nat.le_of_ble_eq_true rfl, Nat.le_of_ble_eq_true rfl⟩) (sl_vX_36 hA hK hP hS hZ) rfl rfl hl.1 rfl (lv_room (Nat.le_of_ble_eq_true rfl)) dX3_does_77 ⟨Nat.le_refl _, Nat.le_refl _⟩) hA hS (fun r_18 f_15 L_16 Q_17 H locs hq hP hS => ?_)
    obtain ⟨⟨hI, hk_f_15, eL9, eQ9⟩, hq, p_19, u_20⟩ := hq
    rw [eL9, eQ9] at hP; clear eL9 eQ9
    have hF : sgK WkX3_does_6_0_0_f0_f6 f f_15 := sgK.tr hF hk_f_15 (by decide +kernel)
    obtain ⟨v_21, ev_21⟩ : ∃ z : Int32, z = f_15 36 3 := ⟨_, rfl⟩
    have q_22 : 0 ≤ v_21.toInt ∧ v_21.toInt ≤ 19 := by rw [ev_21]; exact hI 36 3
    have q_23 : (f_15 36 3).toInt = v_21.toInt := (congrArg Int32.toInt (show f_15 36 3 = v_21 from ev_21.symm))
    have k_25 : (70 : Int32).toInt = 70 := by decide
    have k_26 : (0 : Int32).toInt = 0 := by decide
    have k_27 : (1 : Int32).toInt = 1 := by decide
    exact hret _ _ _ _ (r_18) f_15 L Q dX3_does_80 hP hS ⟨⟨hI, hF, rfl, rfl⟩, trivial, ⟨by omega, by omega⟩, (Eq.trans (Eq.symm (hs.trans ((spl_e ev_2 (spl_e ev_5 (spl_e ev_9 (spl_e ef_11 (spl2_e u_20 (spl_e ev_21 rfl))))))))) hsp)⟩
  refine lv_iload_n hx hb dX3_does_0 rfl (lv_at hl 1 rfl) ?_
  refine lv_iload_n hx hb dX3_does_1 rfl (lv_at hl 2 rfl) ?_
  refine sg_calli (va_runS (As := [.int 6, .int 0]) (rest := []) ⟨hx, hb, hml, hown, hts⟩ (kX3_ownerOf_6_0 l D ca za h hh f L Q hI H.size) (va_cwS 2 hts (gw_S (fun _ h => List.mem_cons_of_mem _ h) mw_189 mw_190 mw_47 mw_188) rfl rfl rfl hd_yX3_ownerOf.2 ⟨Nat.le_of_ble_eq_true rfl, Nat.le_of_ble_eq_true rfl⟩) (sg_preS hA hK hP hS hZ) rfl rfl hl.1 rfl (lv_room (Nat.le_of_ble_eq_true rfl)) dX3_does_2 ⟨Nat.le_refl _, Nat.le_refl _⟩) hA hS (fun r_33 f_30 L_31 Q_32 H locs hq hP hS => ?_)
  obtain ⟨⟨ef9, eL9, eQ9⟩, hq, u_34⟩ := hq
  rw [ef9, eL9, eQ9] at hP; clear ef9 eL9 eQ9
  obtain rfl : r_33 = 6 := Int32.toInt_inj.mp (by have k9 : (6 : Int32).toInt = 6 := ti_6; omega)
  refine lv_istore (lv' := [(5, .int 6), (0, .ref (h 36)), (1, .int 6), (2, .int 0), (3, .int x2), (4, .int 0)]) hx hb dX3_does_5 hl (by decide) rfl (fun ls hl => ?_)
  refine lv_iload hx hb dX3_does_7 (lv_at hl 0 rfl) ?_
  refine lv_if_lt (tgt := 19) hx hb dX3_does_9 (by decide) (fun c => absurd c (by decide)) (fun c => ?_)
  refine lv_iload hx hb dX3_does_12 (lv_at hl 5 rfl) ?_
  refine lv_bipush (v := 40) hx hb dX3_does_14 bp_40 ?_
  refine lv_icmp_le (tgt := 21) hx hb dX3_does_16 (by decide) (fun c => ?_) (fun c => absurd c (by decide))
  refine sg_gets hx hb hZ 3 rfl hS hown (hts _ (List.mem_cons_of_mem _ mw_173)) (fun _ h9 => h9) dX3_does_21 ?_
  refine lv_iload hx hb dX3_does_24 (lv_at hl 0 rfl) ?_
  refine lv_iconst (v := 4) hx hb dX3_does_26 ic_4 ?_
  refine lv_imul hx hb dX3_does_27 ?_
  refine W.eq (g2 := F0 m 28 ls [.int 24, .ref (za 3)]) (by rw [show (6 * 4 : Int32) = 24 from by decide]) ?_
  refine lv_iload_n hx hb dX3_does_28 rfl (lv_at hl 3 rfl) ?_
  refine lv_iadd hx hb dX3_does_29 ?_
  refine W.eq (g2 := F0 m 30 ls [.int 24, .ref (za 3)]) (by rw [show (24 + 0 : Int32) = 24 from by decide]) ?_
  refine sg_sald hx hb hZ 3 rfl hS (y := 24) (N := 32) (vp_in_iff.mpr (by decide)) dX3_does_30 ?_
  refine W.eq (g2 := F0 m 31 ls [.int 70]) (by rfl) ?_
  refine lv_istore (lv' := [(6, .int 70), (5, .int 6), (0, .ref (h 36)), (1, .int 6), (2, .int 0), (3, .int x2), (4, .int 0)]) hx hb dX3_does_31 hl (by decide) rfl (fun ls hl => ?_)
  refine lv_aload_n hx hb dX3_does_33 rfl (lv_at hl 2 rfl) ?_
  refine sl_gX_36_3_3 (v := 0) hx hb hts hown hK hP (show f 36 3 = 0 from hf_36_3) dX3_does_34 ?_
  refine lv_bipush (v := 24) hx hb dX3_does_37 bp_24 ?_
  refine lv_icmp_ge (tgt := 53) hx hb dX3_does_39 (by decide) (fun c => absurd c (by decide)) (fun c => ?_)
  refine lv_aload_n hx hb dX3_does_42 rfl (lv_at hl 2 rfl) ?_
  refine sl_gX_36_1_3 hx hb hts hown hK hP dX3_does_43 ?_
  refine lv_aload_n hx hb dX3_does_46 rfl (lv_at hl 2 rfl) ?_
  refine sl_gX_36_3_3 (v := 0) hx hb hts hown hK hP (show f 36 3 = 0 from hf_36_3) dX3_does_47 ?_
  refine lv_iload hx hb dX3_does_50 (lv_at hl 0 rfl) ?_
  refine sg_iast hx hb hh hA hK hP hS 38 (by decide) 0 (fun _ => rfl) rfl (i := 0) (x := 70) (vp_in_iff.mpr (by decide)) dX3_does_52 (fun f_35 H locs ef_35 hP hS => ?_)
  have ef_35 : f_35 = sg_up f 38 (sgu (f 38) 0 70) := ef_35
  have hI : sgI loX hiX f_35 := by rw [ef_35]; exact sgI.put hI 38 0 (show 0 ≤ (70 : Int32).toInt ∧ (70 : Int32).toInt ≤ 81 from by decide)
  have hF : sgK WkX3_does_6_0_0_f0_f6 f f_35 := sgK.put hF ef_35 (by rfl)
  exact blk_53 f_35 _ _ _ (hs.trans ((spl_e u_34 (spl_e ef_35 rfl)))) (by have zz36_3 : (f_35 36 3).toInt = 0 := (congrArg Int32.toInt (show f_35 36 3 = 0 from (by rw [ef_35, sg_up_n (by decide)]; exact hf_36_3))).trans (by decide); exact ⟨by omega, by omega⟩) (by have zz36_4 : (f_35 36 4).toInt = 6 := (congrArg Int32.toInt (show f_35 36 4 = 6 from (by rw [ef_35, sg_up_n (by decide)]; exact hf_36_4))).trans (by decide); exact ⟨by omega, by omega⟩) hI hF hP hS (lv_sub hl [2, 5, 6, 1, 0] rfl)

set_option maxHeartbeats 4000000 in
set_option maxRecDepth 100000 in
theorem kX3_ownerOf_7_0 (l : Launch) (D : va_G) (ca : Nat → ClassId) (za h : Nat → Nat) (hh : sgH 52 h) (f : sg_F) (L : sg_L) (Q : sg_Q) (hI : sgI loX hiX f) (sz : Nat) : Met l yX3_ownerOf gwX3_ownerOf { frames := 0, cells := 0, slots := 0, locals := 0 } (sgP D vwCl (tyX ca) 52 h (eX ca h) zcX za f L Q sz [.int 7, .int 0]) (sgQi D vwCl 52 h (eX ca h) sz (fun r f1 L1 Q1 => ((f1 = f ∧ L1 = L ∧ Q1 = Q) ∧ (1 ≤ r.toInt ∧ r.toInt ≤ 1) ∧ (r) = sX3_ownerOf_7_0 f L))) 0 0 (sgA 52 h sz) := by
  refine sg_ofWi (cc := cX3_ownerOf) (maxL := 4) RX3 (by decide) rfl rfl (Nat.le_of_ble_eq_true rfl) ?_
  intro p e s m below meth cd Qz ls hx hb hml hown hts hK hZ hP hS hl hret
  have hA := sgY.self (n := 52) (h := h) (sz := s.heap.size)
  have hl : lv_has ls 4 [(0, .int 7), (1, .int 0)] := hl
  obtain ⟨H, hH⟩ : ∃ z : Heap, z = s.heap := ⟨_, rfl⟩
  obtain ⟨locs, hlo⟩ : ∃ z : List Loc, z = [] := ⟨_, rfl⟩
  have hP : va_P D vwCl (sgw 52 h (eX ca h) f L Q) H := by rw [hH]; exact hP
  have hS : va_S (sgA 52 h s.heap.size) s.heap H locs := by rw [hH, hlo]; exact hS
  suffices hgo : W p l e ({ frames := 0, cells := 0, slots := 0, locals := 0 }) s m ([.int 7, .int 0] : List Value).toArray below meth cd H locs 0 0 Qz (F0 m 0 ls []) by rw [hH, hlo] at hgo; exact hgo
  clear hH hlo
  obtain ⟨sp, hsp⟩ : ∃ z : Int32, z = sX3_ownerOf_7_0 f L := ⟨_, rfl⟩
  have hs : sp = sX3_ownerOf_7_0 f L := hsp
  refine lv_iload_n hx hb dX3_ownerOf_0 rfl (lv_at hl 0 rfl) ?_
  refine lv_istore_n (lv' := [(2, .int 7), (0, .int 7), (1, .int 0)]) hx hb dX3_ownerOf_1 rfl hl (by decide) rfl (fun ls hl => ?_)
  refine lv_iconst (v := 0) hx hb dX3_ownerOf_2 ic_0 ?_
  refine lv_istore_n (lv' := [(3, .int 0), (2, .int 7), (0, .int 7), (1, .int 0)]) hx hb dX3_ownerOf_3 rfl hl (by decide) rfl (fun ls hl => ?_)
  refine lv_iload_n hx hb dX3_ownerOf_4 rfl (lv_at hl 0 rfl) ?_
  refine lv_bipush (v := 8) hx hb dX3_ownerOf_5 bp_8 ?_
  refine lv_icmp_ge (tgt := 40) hx hb dX3_ownerOf_7 (by decide) (fun c => absurd c (by decide)) (fun c => ?_)
  refine lv_iload_n hx hb dX3_ownerOf_10 rfl (lv_at hl 1 rfl) ?_
  refine lv_if_lt (tgt := 40) hx hb dX3_ownerOf_11 (by decide) (fun c => absurd c (by decide)) (fun c => ?_)
  refine sg_gets hx hb hZ 3 rfl hS hown (hts _ (List.mem_cons_of_mem _ mw_173)) (fun _ h9 => h9) dX3_ownerOf_14 ?_
  refine lv_iload_n hx hb dX3_ownerOf_17 rfl (lv_at hl 1 rfl) ?_
  refine lv_iconst (v := 4) hx hb dX3_ownerOf_18 ic_4 ?_
  refine lv_imul hx hb dX3_ownerOf_19 ?_
  refine W.eq (g2 := F0 m 20 ls [.int 28, .ref (za 3)]) (by rw [show (7 * 4 : Int32) = 28 from by decide]) ?_
  refine lv_iload_n hx hb dX3_ownerOf_20 rfl (lv_at hl 3 rfl) ?_
  refine lv_iadd hx hb dX3_ownerOf_21 ?_
  refine W.eq (g2 := F0 m 22 ls [.int 28, .ref (za 3)]) (by rw [show (28 + 0 : Int32) = 28 from by decide]) ?_
  refine sg_sald hx hb hZ 3 rfl hS (y := 28) (N := 32) (vp_in_iff.mpr (by decide)) dX3_ownerOf_22 ?_
  refine W.eq (g2 := F0 m 23 ls [.int 0]) (by rfl) ?_
  refine lv_if_eq (tgt := 28) hx hb dX3_ownerOf_23 (by decide) (fun c => ?_) (fun c => absurd c (by decide))
  refine sg_gets hx hb hZ 2 rfl hS hown (hts _ (List.mem_cons_of_mem _ mw_174)) (fun _ h9 => h9) dX3_ownerOf_28 ?_
  refine lv_iload_n hx hb dX3_ownerOf_31 rfl (lv_at hl 1 rfl) ?_
  refine sg_sald hx hb hZ 2 rfl hS (y := 7) (N := 8) (vp_in_iff.mpr (by decide)) dX3_ownerOf_32 ?_
  refine W.eq (g2 := F0 m 33 ls [.int 4]) (by rfl) ?_
  refine lv_istore_n (lv' := [(2, .int 4), (3, .int 0), (0, .int 7), (1, .int 0)]) hx hb dX3_ownerOf_33 rfl hl (by decide) rfl (fun ls hl => ?_)
  refine lv_iinc (v := 1) (lv' := [(3, .int 1), (2, .int 4), (0, .int 7), (1, .int 0)]) hx hb dX3_ownerOf_34 hl (k := 1) rfl (by decide) (by decide) rfl (fun ls hl => ?_)
  refine lv_goto (tgt := 4) hx hb dX3_ownerOf_37 (by decide) ?_
  refine lv_iload_n hx hb dX3_ownerOf_4 rfl (lv_at hl 0 rfl) ?_
  refine lv_bipush (v := 8) hx hb dX3_ownerOf_5 bp_8 ?_
  refine lv_icmp_ge (tgt := 40) hx hb dX3_ownerOf_7 (by decide) (fun c => absurd c (by decide)) (fun c => ?_)
  refine lv_iload_n hx hb dX3_ownerOf_10 rfl (lv_at hl 1 rfl) ?_
  refine lv_if_lt (tgt := 40) hx hb dX3_ownerOf_11 (by decide) (fun c => absurd c (by decide)) (fun c => ?_)
  refine sg_gets hx hb hZ 3 rfl hS hown (hts _ (List.mem_cons_of_mem _ mw_173)) (fun _ h9 => h9) dX3_ownerOf_14 ?_
  refine lv_iload_n hx hb dX3_ownerOf_17 rfl (lv_at hl 1 rfl) ?_
  refine lv_iconst (v := 4) hx hb dX3_ownerOf_18 ic_4 ?_
  refine lv_imul hx hb dX3_ownerOf_19 ?_
  refine W.eq (g2 := F0 m 20 ls [.int 16, .ref (za 3)]) (by rw [show (4 * 4 : Int32) = 16 from by decide]) ?_
  refine lv_iload_n hx hb dX3_ownerOf_20 rfl (lv_at hl 3 rfl) ?_
  refine lv_iadd hx hb dX3_ownerOf_21 ?_
  refine W.eq (g2 := F0 m 22 ls [.int 16, .ref (za 3)]) (by rw [show (16 + 0 : Int32) = 16 from by decide]) ?_
  refine sg_sald hx hb hZ 3 rfl hS (y := 16) (N := 32) (vp_in_iff.mpr (by decide)) dX3_ownerOf_22 ?_
  refine W.eq (g2 := F0 m 23 ls [.int 0]) (by rfl) ?_
  refine lv_if_eq (tgt := 28) hx hb dX3_ownerOf_23 (by decide) (fun c => ?_) (fun c => absurd c (by decide))
  refine sg_gets hx hb hZ 2 rfl hS hown (hts _ (List.mem_cons_of_mem _ mw_174)) (fun _ h9 => h9) dX3_ownerOf_28 ?_
  refine lv_iload_n hx hb dX3_ownerOf_31 rfl (lv_at hl 1 rfl) ?_
  refine sg_sald hx hb hZ 2 rfl hS (y := 4) (N := 8) (vp_in_iff.mpr (by decide)) dX3_ownerOf_32 ?_
  refine W.eq (g2 := F0 m 33 ls [.int 1]) (by rfl) ?_
  refine lv_istore_n (lv' := [(2, .int 1), (3, .int 1), (0, .int 7), (1, .int 0)]) hx hb dX3_ownerOf_33 rfl hl (by decide) rfl (fun ls hl => ?_)
  refine lv_iinc (v := 2) (lv' := [(3, .int 2), (2, .int 1), (0, .int 7), (1, .int 0)]) hx hb dX3_ownerOf_34 hl (k := 1) rfl (by decide) (by decide) rfl (fun ls hl => ?_)
  refine lv_goto (tgt := 4) hx hb dX3_ownerOf_37 (by decide) ?_
  refine lv_iload_n hx hb dX3_ownerOf_4 rfl (lv_at hl 0 rfl) ?_
  refine lv_bipush (v := 8) hx hb dX3_ownerOf_5 bp_8 ?_
  refine lv_icmp_ge (tgt := 40) hx hb dX3_ownerOf_7 (by decide) (fun c => absurd c (by decide)) (fun c => ?_)
  refine lv_iload_n hx hb dX3_ownerOf_10 rfl (lv_at hl 1 rfl) ?_
  refine lv_if_lt (tgt := 40) hx hb dX3_ownerOf_11 (by decide) (fun c => absurd c (by decide)) (fun c => ?_)
  refine sg_gets hx hb hZ 3 rfl hS hown (hts _ (List.mem_cons_of_mem _ mw_173)) (fun _ h9 => h9) dX3_ownerOf_14 ?_
  refine lv_iload_n hx hb dX3_ownerOf_17 rfl (lv_at hl 1 rfl) ?_
  refine lv_iconst (v := 4) hx hb dX3_ownerOf_18 ic_4 ?_
  refine lv_imul hx hb dX3_ownerOf_19 ?_
  refine W.eq (g2 := F0 m 20 ls [.int 4, .ref (za 3)]) (by rw [show (1 * 4 : Int32) = 4 from by decide]) ?_
  refine lv_iload_n hx hb dX3_ownerOf_20 rfl (lv_at hl 3 rfl) ?_
  refine lv_iadd hx hb dX3_ownerOf_21 ?_
  refine W.eq (g2 := F0 m 22 ls [.int 4, .ref (za 3)]) (by rw [show (4 + 0 : Int32) = 4 from by decide]) ?_
  refine sg_sald hx hb hZ 3 rfl hS (y := 4) (N := 32) (vp_in_iff.mpr (by decide)) dX3_ownerOf_22 ?_
  refine W.eq (g2 := F0 m 23 ls [.int 20]) (by rfl) ?_
  refine lv_if_eq (tgt := 28) hx hb dX3_ownerOf_23 (by decide) (fun c => absurd c (by decide)) (fun c => ?_)
  refine lv_iload_n hx hb dX3_ownerOf_26 rfl (lv_at hl 1 rfl) ?_
  have k99 : (1 : Int32).toInt = 1 := ti_1
  exact hret _ _ _ _ (1) f L Q dX3_ownerOf_27 hP hS ⟨⟨rfl, rfl, rfl⟩, (by decide), (Eq.trans (Eq.symm hs) hsp)⟩

set_option maxHeartbeats 4000000 in
set_option maxRecDepth 100000 in
theorem kX3_runs_1_m1_2_f2_f7 (l : Launch) (D : va_G) (ca : Nat → ClassId) (za h : Nat → Nat) (hh : sgH 52 h) (f : sg_F) (L : sg_L) (Q : sg_Q) (hI : sgI loX hiX f) (x2 : Int32) (hf_36_3 : f 36 3 = 2) (hf_36_4 : f 36 4 = 7) (p0 : 2 ≤ (f 36 3).toInt ∧ (f 36 3).toInt ≤ 2) (sz : Nat) : Met l yX3_runs gwX3_runs { frames := 0, cells := 0, slots := 0, locals := 0 } (sgP D vwCl (tyX ca) 52 h (eX ca h) zcX za f L Q sz [.ref (h 36), .int 1, .int (-1), .int x2, .int 2]) (sgQi D vwCl 52 h (eX ca h) sz (fun r f1 L1 Q1 => ((f1 = f ∧ L1 = L ∧ Q1 = Q) ∧ True ∧ (2 ≤ (f1 36 3).toInt ∧ (f1 36 3).toInt ≤ 2) ∧ (r) = sX3_runs_1_m1_2_f2_f7 x2 f L))) 0 0 (sgA 52 h sz) := by
  refine sg_ofWi (cc := cX3_runs) (maxL := 5) RX3 (by decide) rfl rfl (Nat.le_of_ble_eq_true rfl) ?_
  intro p e s m below meth cd Qz ls hx hb hml hown hts hK hZ hP hS hl hret
  have hA := sgY.self (n := 52) (h := h) (sz := s.heap.size)
  have hl : lv_has ls 5 [(0, .ref (h 36)), (1, .int 1), (2, .int (-1)), (3, .int x2), (4, .int 2)] := hl
  obtain ⟨H, hH⟩ : ∃ z : Heap, z = s.heap := ⟨_, rfl⟩
  obtain ⟨locs, hlo⟩ : ∃ z : List Loc, z = [] := ⟨_, rfl⟩
  have hP : va_P D vwCl (sgw 52 h (eX ca h) f L Q) H := by rw [hH]; exact hP
  have hS : va_S (sgA 52 h s.heap.size) s.heap H locs := by rw [hH, hlo]; exact hS
  suffices hgo : W p l e ({ frames := 0, cells := 0, slots := 0, locals := 0 }) s m ([.ref (h 36), .int 1, .int (-1), .int x2, .int 2] : List Value).toArray below meth cd H locs 0 0 Qz (F0 m 0 ls []) by rw [hH, hlo] at hgo; exact hgo
  clear hH hlo
  obtain ⟨sp, hsp⟩ : ∃ z : Int32, z = sX3_runs_1_m1_2_f2_f7 x2 f L := ⟨_, rfl⟩
  have hs : sp = sX3_runs_1_m1_2_f2_f7 x2 f L := hsp
  have o_1 : (f 36 3).toInt = 2 := (congrArg Int32.toInt (show f 36 3 = 2 from hf_36_3)).trans (by decide)
  refine lv_iload_n hx hb dX3_runs_0 rfl (lv_at hl 1 rfl) ?_
  refine lv_lookup (x := 1) (off := 115) (tgt := 116) hx hb dX3_runs_1 (by decide) (by decide) (by decide) ?_
  refine lv_iload_n hx hb dX3_runs_116 rfl (lv_at hl 3 rfl) ?_
  refine lv_aload_n hx hb dX3_runs_117 rfl (lv_at hl 0 rfl) ?_
  refine sl_gX_36_5_3 (v := (f 36 5)) hx hb hts hown hK hP rfl dX3_runs_118 ?_
  refine lv_topi (fun v_2 ev_2 => ?_)
  have q_3 : 0 ≤ v_2.toInt ∧ v_2.toInt ≤ 49 := by rw [ev_2]; exact hI 36 5
  refine lv_iadd hx hb dX3_runs_121 ?_
  refine lv_topi (fun v_4 ev_4 => ?_)
  have q_5 : (f 36 3).toInt = 2 := (congrArg Int32.toInt (show f 36 3 = 2 from hf_36_3)).trans (by decide)
  exact hret _ _ _ _ (v_4) f L Q dX3_runs_122 hP hS ⟨⟨rfl, rfl, rfl⟩, trivial, ⟨by omega, by omega⟩, (Eq.trans (Eq.symm (hs.trans ((spl_e ev_2 (spl_e ev_4 rfl))))) hsp)⟩

abbrev WkX3_does_0_0_1_f1_f7 : List (Nat × Nat × Option Nat) := [(36, 36, some 3), (38, 38, some 1)]
set_option maxHeartbeats 4000000 in
set_option maxRecDepth 100000 in
theorem kX3_does_0_0_1_f1_f7 (l : Launch) (D : va_G) (ca : Nat → ClassId) (za h : Nat → Nat) (hh : sgH 52 h) (f : sg_F) (L : sg_L) (Q : sg_Q) (hI : sgI loX hiX f) (x2 : Int32) (hf_36_3 : f 36 3 = 1) (hf_36_4 : f 36 4 = 7) (p0 : 1 ≤ (f 36 3).toInt ∧ (f 36 3).toInt ≤ 1) (sz : Nat) : Met l yX3_does gwX3_does { frames := 1, cells := 0, slots := 0, locals := 24 } (sgP D vwCl (tyX ca) 52 h (eX ca h) zcX za f L Q sz [.ref (h 36), .int 0, .int 0, .int x2, .int 1]) (sgQi D vwCl 52 h (eX ca h) sz (fun r f1 L1 Q1 => ((sgI loX hiX f1 ∧ sgK WkX3_does_0_0_1_f1_f7 f f1 ∧ L1 = L ∧ Q1 = Q) ∧ True ∧ (2 ≤ (f1 36 3).toInt ∧ (f1 36 3).toInt ≤ 2) ∧ (r, f1) = sX3_does_0_0_1_f1_f7 x2 f L))) 0 0 (sgA 52 h sz) := by
  refine sg_ofWi (cc := cX3_does) (maxL := 7) RX3 (by decide) rfl rfl (Nat.le_of_ble_eq_true rfl) ?_
  intro p e s m below meth cd Qz ls hx hb hml hown hts hK hZ hP hS hl hret
  have hA := sgY.self (n := 52) (h := h) (sz := s.heap.size)
  have hl : lv_has ls 7 [(0, .ref (h 36)), (1, .int 0), (2, .int 0), (3, .int x2), (4, .int 1)] := hl
  obtain ⟨H, hH⟩ : ∃ z : Heap, z = s.heap := ⟨_, rfl⟩
  obtain ⟨locs, hlo⟩ : ∃ z : List Loc, z = [] := ⟨_, rfl⟩
  have hP : va_P D vwCl (sgw 52 h (eX ca h) f L Q) H := by rw [hH]; exact hP
  have hS : va_S (sgA 52 h s.heap.size) s.heap H locs := by rw [hH, hlo]; exact hS
  suffices hgo : W p l e ({ frames := 1, cells := 0, slots := 0, locals := 24 }) s m ([.ref (h 36), .int 0, .int 0, .int x2, .int 1] : List Value).toArray below meth cd H locs 0 0 Qz (F0 m 0 ls []) by rw [hH, hlo] at hgo; exact hgo
  clear hH hlo
  obtain ⟨sp, hsp⟩ : ∃ z : Int32 × sg_F, z = sX3_does_0_0_1_f1_f7 x2 f L := ⟨_, rfl⟩
  have hs : sp = sX3_does_0_0_1_f1_f7 x2 f L := hsp
  have o_1 : (f 36 3).toInt = 1 := (congrArg Int32.toInt (show f 36 3 = 1 from hf_36_3)).trans (by decide)
  have hF : sgK WkX3_does_0_0_1_f1_f7 f f := sgK.rf
  have blk_53 : ∀ (fp_53 : sg_F) (H : Heap) (locs : List Loc) (ls : Array Slot), sp = sX3_does_0_0_1_f1_f7_b53 x2 fp_53 L → 1 ≤ (fp_53 36 3).toInt ∧ (fp_53 36 3).toInt ≤ 1 → 7 ≤ (fp_53 36 4).toInt ∧ (fp_53 36 4).toInt ≤ 7 → sgI loX hiX fp_53 → sgK WkX3_does_0_0_1_f1_f7 f fp_53 → va_P D vwCl (sgw 52 h (eX ca h) fp_53 L Q) H → va_S (sgA 52 h s.heap.size) s.heap H locs → lv_has ls 7 [(0, .ref (h 36)), (3, .int x2), (4, .int 1), (5, .int 0), (6, .int 1)] → W p l e ({ frames := 1, cells := 0, slots := 0, locals := 24 }) s m ([.ref (h 36), .int 0, .int 0, .int x2, .int 1] : List Value).toArray below meth cd H locs 0 0 Qz (F0 m 53 ls []) := by
    intro fp_53 H locs ls hs hy0_53 hy1_53 hI hF hP hS hl
    obtain ⟨v_2, ev_2⟩ : ∃ z : Int32, z = fp_53 36 3 := ⟨_, rfl⟩
    have q_3 : 0 ≤ v_2.toInt ∧ v_2.toInt ≤ 19 := by rw [ev_2]; exact hI 36 3
    have q_4 : (fp_53 36 3).toInt = v_2.toInt := by rw [ev_2]
    obtain ⟨v_5, ev_5⟩ : ∃ z : Int32, z = fp_53 36 4 := ⟨_, rfl⟩
    have q_6 : 0 ≤ v_5.toInt ∧ v_5.toInt ≤ 7 := by rw [ev_5]; exact hI 36 4
    have q_7 : (fp_53 36 4).toInt = v_5.toInt := by rw [ev_5]
    have m_8 : fp_53 36 4 = 7 := (hF 36 4 (by decide)).trans hf_36_4
    refine lv_aload_n hx hb dX3_does_53 rfl (lv_at hl 0 rfl) ?_
    refine lv_dup hx hb dX3_does_54 rfl ?_
    refine sl_gX_36_3_3 (v := v_2) hx hb hts hown hK hP (show fp_53 36 3 = v_2 from ev_2.symm) dX3_does_55 ?_
    refine lv_iconst (v := 1) hx hb dX3_does_58 ic_1 ?_
    refine lv_iadd hx hb dX3_does_59 ?_
    refine lv_topi (fun v_9 ev_9 => ?_)
    have q_10 : v_9.toInt = v_2.toInt + 1 := by rw [ev_9]; first | exact cm_add ti_1 (by omega) (by omega) | (have k1 : (1 : Int32).toInt = 1 := ti_1; exact (bn_addI (by omega) (by omega)).trans (by omega))
    refine sl_pX_36_3_3 (x := v_9) hx hb hts hown hh hA hK hP hS dX3_does_60 (fun f_11 H locs ef_11 hP hS => ?_)
    have hI : sgI loX hiX f_11 := by rw [ef_11]; exact sgI.put hI 36 3 (show 0 ≤ (v_9 : Int32).toInt ∧ (v_9 : Int32).toInt ≤ 19 from ⟨by omega, by omega⟩)
    have hF : sgK WkX3_does_0_0_1_f1_f7 f f_11 := sgK.put hF ef_11 (by rfl)
    refine lv_aload_n hx hb dX3_does_63 rfl (lv_at hl 0 rfl) ?_
    refine lv_iload hx hb dX3_does_64 (lv_at hl 4 rfl) ?_
    refine sg_gets hx hb hZ 2 rfl hS hown (hts _ (List.mem_cons_of_mem _ mw_174)) (fun _ h9 => h9) dX3_does_66 ?_
    refine lv_iload hx hb dX3_does_69 (lv_at hl 3 rfl) ?_
    refine sg_sald hx hb hZ 2 rfl hS (y := 0) (N := 8) (vp_in_iff.mpr (by decide)) dX3_does_71 ?_
    refine W.eq (g2 := F0 m 72 ls [.int (-1), .int 1, .ref (h 36)]) (by rfl) ?_
    refine lv_iload_n hx hb dX3_does_72 rfl (lv_at hl 1 rfl) ?_
    refine lv_iload hx hb dX3_does_73 (lv_at hl 2 rfl) ?_
    refine lv_iconst (v := 1) hx hb dX3_does_75 ic_1 ?_
    refine lv_iadd hx hb dX3_does_76 ?_
    refine W.eq (g2 := F0 m 77 ls [.int 2, .int x2, .int (-1), .int 1, .ref (h 36)]) (by rw [show (1 + 1 : Int32) = 2 from by decide]) ?_
    have c_12 : v_9 = 2 := Int32.toInt_inj.mp (by have k9 : (2 : Int32).toInt = 2 := ti_2; omega)
    have q_13 : (f_11 36 3).toInt = 2 := (congrArg Int32.toInt (show f_11 36 3 = 2 from (Eq.trans (by rw [ef_11, sg_up_s, sgu_s]) c_12))).trans (by decide)
    refine sg_calli (va_runV (As := [.int 1, .int (-1), .int x2, .int 2]) (rest := []) ⟨hx, hb, hml, hown, hts⟩ (kX3_runs_1_m1_2_f2_f7 l D ca za h hh f_11 L Q hI x2 (Eq.trans (by rw [ef_11, sg_up_s, sgu_s]) c_12) (by rw [ef_11, sg_up_s, sgu_n (by decide)]; exact m_8) (by have k0 : (1 : Int32).toInt = 1 := ti_1; have k1 : ((-1) : Int32).toInt = (-1) := ti_m1; have k3 : (2 : Int32).toInt = 2 := ti_2; omega) H.size) (sl_c3_runs_0_0_0_0_3 hts ⟨Nat.le_of_ble_eq_true rfl, Nat.le_of_ble_eq_true rfl⟩) (sl_vX_36 hA hK hP hS hZ) rfl rfl hl.1 rfl (lv_room (Nat.le_of_ble_eq_true rfl)) dX3_does_77 ⟨Nat.le_refl _, Nat.le_refl _⟩) hA hS (fun r_18 f_15 L_16 Q_17 H locs hq hP hS => ?_)
    obtain ⟨⟨ef9, eL9, eQ9⟩, hq, p_19, u_20⟩ := hq
    rw [ef9, eL9, eQ9] at hP; clear ef9 eL9 eQ9
    have k_23 : (1 : Int32).toInt = 1 := by decide
    have k_24 : ((-1) : Int32).toInt = (-1) := by decide
    have k_25 : (2 : Int32).toInt = 2 := by decide
    exact hret _ _ _ _ (r_18) f_11 L Q dX3_does_80 hP hS ⟨⟨hI, hF, rfl, rfl⟩, trivial, ⟨by omega, by omega⟩, (Eq.trans (Eq.symm (hs.trans ((spl_e ev_2 (spl_e ev_5 (spl_e ev_9 (spl_e ef_11 (spl_e u_20 rfl)))))))) hsp)⟩
  refine lv_iload_n hx hb dX3_does_0 rfl (lv_at hl 1 rfl) ?_
  refine lv_iload_n hx hb dX3_does_1 rfl (lv_at hl 2 rfl) ?_
  refine sg_calli (va_runS (As := [.int 0, .int 0]) (rest := []) ⟨hx, hb, hml, hown, hts⟩ (kX3_ownerOf_0_0 l D ca za h hh f L Q hI H.size) (va_cwS 2 hts (gw_S (fun _ h => List.mem_cons_of_mem _ h) mw_189 mw_190 mw_47 mw_188) rfl rfl rfl hd_yX3_ownerOf.2 ⟨Nat.le_of_ble_eq_true rfl, Nat.le_of_ble_eq_true rfl⟩) (sg_preS hA hK hP hS hZ) rfl rfl hl.1 rfl (lv_room (Nat.le_of_ble_eq_true rfl)) dX3_does_2 ⟨Nat.le_refl _, Nat.le_refl _⟩) hA hS (fun r_31 f_28 L_29 Q_30 H locs hq hP hS => ?_)
  obtain ⟨⟨ef9, eL9, eQ9⟩, hq, u_32⟩ := hq
  rw [ef9, eL9, eQ9] at hP; clear ef9 eL9 eQ9
  obtain rfl : r_31 = 0 := Int32.toInt_inj.mp (by have k9 : (0 : Int32).toInt = 0 := ti_0; omega)
  refine lv_istore (lv' := [(5, .int 0), (0, .ref (h 36)), (1, .int 0), (2, .int 0), (3, .int x2), (4, .int 1)]) hx hb dX3_does_5 hl (by decide) rfl (fun ls hl => ?_)
  refine lv_iload hx hb dX3_does_7 (lv_at hl 0 rfl) ?_
  refine lv_if_lt (tgt := 19) hx hb dX3_does_9 (by decide) (fun c => absurd c (by decide)) (fun c => ?_)
  refine lv_iload hx hb dX3_does_12 (lv_at hl 5 rfl) ?_
  refine lv_bipush (v := 40) hx hb dX3_does_14 bp_40 ?_
  refine lv_icmp_le (tgt := 21) hx hb dX3_does_16 (by decide) (fun c => ?_) (fun c => absurd c (by decide))
  refine sg_gets hx hb hZ 3 rfl hS hown (hts _ (List.mem_cons_of_mem _ mw_173)) (fun _ h9 => h9) dX3_does_21 ?_
  refine lv_iload hx hb dX3_does_24 (lv_at hl 0 rfl) ?_
  refine lv_iconst (v := 4) hx hb dX3_does_26 ic_4 ?_
  refine lv_imul hx hb dX3_does_27 ?_
  refine W.eq (g2 := F0 m 28 ls [.int 0, .ref (za 3)]) (by rw [show (0 * 4 : Int32) = 0 from by decide]) ?_
  refine lv_iload_n hx hb dX3_does_28 rfl (lv_at hl 3 rfl) ?_
  refine lv_iadd hx hb dX3_does_29 ?_
  refine W.eq (g2 := F0 m 30 ls [.int 0, .ref (za 3)]) (by rw [show (0 + 0 : Int32) = 0 from by decide]) ?_
  refine sg_sald hx hb hZ 3 rfl hS (y := 0) (N := 32) (vp_in_iff.mpr (by decide)) dX3_does_30 ?_
  refine W.eq (g2 := F0 m 31 ls [.int 1]) (by rfl) ?_
  refine lv_istore (lv' := [(6, .int 1), (5, .int 0), (0, .ref (h 36)), (1, .int 0), (2, .int 0), (3, .int x2), (4, .int 1)]) hx hb dX3_does_31 hl (by decide) rfl (fun ls hl => ?_)
  refine lv_aload_n hx hb dX3_does_33 rfl (lv_at hl 2 rfl) ?_
  refine sl_gX_36_3_3 (v := 1) hx hb hts hown hK hP (show f 36 3 = 1 from hf_36_3) dX3_does_34 ?_
  refine lv_bipush (v := 24) hx hb dX3_does_37 bp_24 ?_
  refine lv_icmp_ge (tgt := 53) hx hb dX3_does_39 (by decide) (fun c => absurd c (by decide)) (fun c => ?_)
  refine lv_aload_n hx hb dX3_does_42 rfl (lv_at hl 2 rfl) ?_
  refine sl_gX_36_1_3 hx hb hts hown hK hP dX3_does_43 ?_
  refine lv_aload_n hx hb dX3_does_46 rfl (lv_at hl 2 rfl) ?_
  refine sl_gX_36_3_3 (v := 1) hx hb hts hown hK hP (show f 36 3 = 1 from hf_36_3) dX3_does_47 ?_
  refine lv_iload hx hb dX3_does_50 (lv_at hl 0 rfl) ?_
  refine sg_iast hx hb hh hA hK hP hS 38 (by decide) 0 (fun _ => rfl) rfl (i := 1) (x := 1) (vp_in_iff.mpr (by decide)) dX3_does_52 (fun f_33 H locs ef_33 hP hS => ?_)
  have ef_33 : f_33 = sg_up f 38 (sgu (f 38) 1 1) := ef_33
  have hI : sgI loX hiX f_33 := by rw [ef_33]; exact sgI.put hI 38 1 (show 0 ≤ (1 : Int32).toInt ∧ (1 : Int32).toInt ≤ 81 from by decide)
  have hF : sgK WkX3_does_0_0_1_f1_f7 f f_33 := sgK.put hF ef_33 (by rfl)
  exact blk_53 f_33 _ _ _ (hs.trans ((spl_e u_32 (spl_e ef_33 rfl)))) (by have zz36_3 : (f_33 36 3).toInt = 1 := (congrArg Int32.toInt (show f_33 36 3 = 1 from (by rw [ef_33, sg_up_n (by decide)]; exact hf_36_3))).trans (by decide); exact ⟨by omega, by omega⟩) (by have zz36_4 : (f_33 36 4).toInt = 7 := (congrArg Int32.toInt (show f_33 36 4 = 7 from (by rw [ef_33, sg_up_n (by decide)]; exact hf_36_4))).trans (by decide); exact ⟨by omega, by omega⟩) hI hF hP hS (lv_sub hl [2, 5, 6, 1, 0] rfl)

abbrev WkX3_runs_20_0_1_f1_f7 : List (Nat × Nat × Option Nat) := [(36, 36, some 3), (38, 38, some 1)]
set_option maxHeartbeats 4000000 in
set_option maxRecDepth 100000 in
theorem kX3_runs_20_0_1_f1_f7 (l : Launch) (D : va_G) (ca : Nat → ClassId) (za h : Nat → Nat) (hh : sgH 52 h) (f : sg_F) (L : sg_L) (Q : sg_Q) (hI : sgI loX hiX f) (x2 : Int32) (hf_36_3 : f 36 3 = 1) (hf_36_4 : f 36 4 = 7) (p0 : 1 ≤ (f 36 3).toInt ∧ (f 36 3).toInt ≤ 1) (sz : Nat) : Met l yX3_runs gwX3_runs { frames := 2, cells := 0, slots := 0, locals := 50 } (sgP D vwCl (tyX ca) 52 h (eX ca h) zcX za f L Q sz [.ref (h 36), .int 20, .int 0, .int x2, .int 1]) (sgQi D vwCl 52 h (eX ca h) sz (fun r f1 L1 Q1 => ((sgI loX hiX f1 ∧ sgK WkX3_runs_20_0_1_f1_f7 f f1 ∧ L1 = L ∧ Q1 = Q) ∧ True ∧ (2 ≤ (f1 36 3).toInt ∧ (f1 36 3).toInt ≤ 2) ∧ (r, f1) = sX3_runs_20_0_1_f1_f7 x2 f L))) 0 0 (sgA 52 h sz) := by
  refine sg_ofWi (cc := cX3_runs) (maxL := 5) RX3 (by decide) rfl rfl (Nat.le_of_ble_eq_true rfl) ?_
  intro p e s m below meth cd Qz ls hx hb hml hown hts hK hZ hP hS hl hret
  have hA := sgY.self (n := 52) (h := h) (sz := s.heap.size)
  have hl : lv_has ls 5 [(0, .ref (h 36)), (1, .int 20), (2, .int 0), (3, .int x2), (4, .int 1)] := hl
  obtain ⟨H, hH⟩ : ∃ z : Heap, z = s.heap := ⟨_, rfl⟩
  obtain ⟨locs, hlo⟩ : ∃ z : List Loc, z = [] := ⟨_, rfl⟩
  have hP : va_P D vwCl (sgw 52 h (eX ca h) f L Q) H := by rw [hH]; exact hP
  have hS : va_S (sgA 52 h s.heap.size) s.heap H locs := by rw [hH, hlo]; exact hS
  suffices hgo : W p l e ({ frames := 2, cells := 0, slots := 0, locals := 50 }) s m ([.ref (h 36), .int 20, .int 0, .int x2, .int 1] : List Value).toArray below meth cd H locs 0 0 Qz (F0 m 0 ls []) by rw [hH, hlo] at hgo; exact hgo
  clear hH hlo
  obtain ⟨sp, hsp⟩ : ∃ z : Int32 × sg_F, z = sX3_runs_20_0_1_f1_f7 x2 f L := ⟨_, rfl⟩
  have hs : sp = sX3_runs_20_0_1_f1_f7 x2 f L := hsp
  have o_1 : (f 36 3).toInt = 1 := (congrArg Int32.toInt (show f 36 3 = 1 from hf_36_3)).trans (by decide)
  have hF : sgK WkX3_runs_20_0_1_f1_f7 f f := sgK.rf
  refine lv_iload_n hx hb dX3_runs_0 rfl (lv_at hl 1 rfl) ?_
  refine lv_lookup (x := 20) (off := 170) (tgt := 171) hx hb dX3_runs_1 (by decide) (by decide) (by decide) ?_
  refine lv_aload_n hx hb dX3_runs_171 rfl (lv_at hl 0 rfl) ?_
  refine lv_iload_n hx hb dX3_runs_172 rfl (lv_at hl 2 rfl) ?_
  refine lv_iconst (v := 0) hx hb dX3_runs_173 ic_0 ?_
  refine lv_iload_n hx hb dX3_runs_174 rfl (lv_at hl 3 rfl) ?_
  refine lv_iload hx hb dX3_runs_175 (lv_at hl 4 rfl) ?_
  have q_2 : (f 36 3).toInt = 1 := (congrArg Int32.toInt (show f 36 3 = 1 from hf_36_3)).trans (by decide)
  refine sg_calli (va_runV (As := [.int 0, .int 0, .int x2, .int 1]) (rest := []) ⟨hx, hb, hml, hown, hts⟩ (kX3_does_0_0_1_f1_f7 l D ca za h hh f L Q hI x2 hf_36_3 hf_36_4 (by have k0 : (0 : Int32).toInt = 0 := ti_0; have k1 : (0 : Int32).toInt = 0 := ti_0; have k3 : (1 : Int32).toInt = 1 := ti_1; omega) H.size) (sl_c3_does_1_0_0_24_3 hts ⟨Nat.le_of_ble_eq_true rfl, Nat.le_of_ble_eq_true rfl⟩) (sl_vX_36 hA hK hP hS hZ) rfl rfl hl.1 rfl (lv_room (Nat.le_of_ble_eq_true rfl)) dX3_runs_177 ⟨Nat.le_refl _, Nat.le_refl _⟩) hA hS (fun r_7 f_4 L_5 Q_6 H locs hq hP hS => ?_)
  obtain ⟨⟨hI, hk_f_4, eL9, eQ9⟩, hq, p_8, u_9⟩ := hq
  rw [eL9, eQ9] at hP; clear eL9 eQ9
  have hF : sgK WkX3_runs_20_0_1_f1_f7 f f_4 := sgK.tr hF hk_f_4 (by decide +kernel)
  obtain ⟨v_10, ev_10⟩ : ∃ z : Int32, z = f_4 36 3 := ⟨_, rfl⟩
  have q_11 : 0 ≤ v_10.toInt ∧ v_10.toInt ≤ 19 := by rw [ev_10]; exact hI 36 3
  have q_12 : (f_4 36 3).toInt = v_10.toInt := (congrArg Int32.toInt (show f_4 36 3 = v_10 from ev_10.symm))
  have k_14 : (0 : Int32).toInt = 0 := by decide
  have k_15 : (0 : Int32).toInt = 0 := by decide
  have k_16 : (1 : Int32).toInt = 1 := by decide
  refine lv_iconst (v := 3) hx hb dX3_runs_180 ic_3 ?_
  refine lv_iadd hx hb dX3_runs_181 ?_
  refine lv_topi (fun v_17 ev_17 => ?_)
  exact hret _ _ _ _ (v_17) f_4 L Q dX3_runs_182 hP hS ⟨⟨hI, hF, rfl, rfl⟩, trivial, ⟨by omega, by omega⟩, (Eq.trans (Eq.symm (hs.trans ((spl2_e u_9 (spl_e ev_10 (spl_e ev_17 rfl)))))) hsp)⟩

abbrev WkX3_does_7_0_0_f0_f7 : List (Nat × Nat × Option Nat) := [(36, 36, some 3), (38, 38, some 0), (38, 38, some 1)]
set_option maxHeartbeats 4000000 in
set_option maxRecDepth 100000 in
theorem kX3_does_7_0_0_f0_f7 (l : Launch) (D : va_G) (ca : Nat → ClassId) (za h : Nat → Nat) (hh : sgH 52 h) (f : sg_F) (L : sg_L) (Q : sg_Q) (hI : sgI loX hiX f) (x2 : Int32) (hf_36_3 : f 36 3 = 0) (hf_36_4 : f 36 4 = 7) (p0 : 0 ≤ (f 36 3).toInt ∧ (f 36 3).toInt ≤ 0) (sz : Nat) : Met l yX3_does gwX3_does { frames := 3, cells := 0, slots := 0, locals := 74 } (sgP D vwCl (tyX ca) 52 h (eX ca h) zcX za f L Q sz [.ref (h 36), .int 7, .int 0, .int x2, .int 0]) (sgQi D vwCl 52 h (eX ca h) sz (fun r f1 L1 Q1 => ((sgI loX hiX f1 ∧ sgK WkX3_does_7_0_0_f0_f7 f f1 ∧ L1 = L ∧ Q1 = Q) ∧ True ∧ (2 ≤ (f1 36 3).toInt ∧ (f1 36 3).toInt ≤ 2) ∧ (r, f1) = sX3_does_7_0_0_f0_f7 x2 f L))) 0 0 (sgA 52 h sz) := by
  refine sg_ofWi (cc := cX3_does) (maxL := 7) RX3 (by decide) rfl rfl (Nat.le_of_ble_eq_true rfl) ?_
  intro p e s m below meth cd Qz ls hx hb hml hown hts hK hZ hP hS hl hret
  have hA := sgY.self (n := 52) (h := h) (sz := s.heap.size)
  have hl : lv_has ls 7 [(0, .ref (h 36)), (1, .int 7), (2, .int 0), (3, .int x2), (4, .int 0)] := hl
  obtain ⟨H, hH⟩ : ∃ z : Heap, z = s.heap := ⟨_, rfl⟩
  obtain ⟨locs, hlo⟩ : ∃ z : List Loc, z = [] := ⟨_, rfl⟩
  have hP : va_P D vwCl (sgw 52 h (eX ca h) f L Q) H := by rw [hH]; exact hP
  have hS : va_S (sgA 52 h s.heap.size) s.heap H locs := by rw [hH, hlo]; exact hS
  suffices hgo : W p l e ({ frames := 3, cells := 0, slots := 0, locals := 74 }) s m ([.ref (h 36), .int 7, .int 0, .int x2, .int 0] : List Value).toArray below meth cd H locs 0 0 Qz (F0 m 0 ls []) by rw [hH, hlo] at hgo; exact hgo
  clear hH hlo
  obtain ⟨sp, hsp⟩ : ∃ z : Int32 × sg_F, z = sX3_does_7_0_0_f0_f7 x2 f L := ⟨_, rfl⟩
  have hs : sp = sX3_does_7_0_0_f0_f7 x2 f L := hsp
  have o_1 : (f 36 3).toInt = 0 := (congrArg Int32.toInt (show f 36 3 = 0 from hf_36_3)).trans (by decide)
  have hF : sgK WkX3_does_7_0_0_f0_f7 f f := sgK.rf
  have blk_53 : ∀ (fp_53 : sg_F) (H : Heap) (locs : List Loc) (ls : Array Slot), sp = sX3_does_7_0_0_f0_f7_b53 x2 fp_53 L → 0 ≤ (fp_53 36 3).toInt ∧ (fp_53 36 3).toInt ≤ 0 → 7 ≤ (fp_53 36 4).toInt ∧ (fp_53 36 4).toInt ≤ 7 → sgI loX hiX fp_53 → sgK WkX3_does_7_0_0_f0_f7 f fp_53 → va_P D vwCl (sgw 52 h (eX ca h) fp_53 L Q) H → va_S (sgA 52 h s.heap.size) s.heap H locs → lv_has ls 7 [(0, .ref (h 36)), (3, .int x2), (4, .int 0), (5, .int 1), (6, .int 20)] → W p l e ({ frames := 3, cells := 0, slots := 0, locals := 74 }) s m ([.ref (h 36), .int 7, .int 0, .int x2, .int 0] : List Value).toArray below meth cd H locs 0 0 Qz (F0 m 53 ls []) := by
    intro fp_53 H locs ls hs hy0_53 hy1_53 hI hF hP hS hl
    obtain ⟨v_2, ev_2⟩ : ∃ z : Int32, z = fp_53 36 3 := ⟨_, rfl⟩
    have q_3 : 0 ≤ v_2.toInt ∧ v_2.toInt ≤ 19 := by rw [ev_2]; exact hI 36 3
    have q_4 : (fp_53 36 3).toInt = v_2.toInt := by rw [ev_2]
    obtain ⟨v_5, ev_5⟩ : ∃ z : Int32, z = fp_53 36 4 := ⟨_, rfl⟩
    have q_6 : 0 ≤ v_5.toInt ∧ v_5.toInt ≤ 7 := by rw [ev_5]; exact hI 36 4
    have q_7 : (fp_53 36 4).toInt = v_5.toInt := by rw [ev_5]
    have m_8 : fp_53 36 4 = 7 := (hF 36 4 (by decide)).trans hf_36_4
    refine lv_aload_n hx hb dX3_does_53 rfl (lv_at hl 0 rfl) ?_
    refine lv_dup hx hb dX3_does_54 rfl ?_
    refine sl_gX_36_3_3 (v := v_2) hx hb hts hown hK hP (show fp_53 36 3 = v_2 from ev_2.symm) dX3_does_55 ?_
    refine lv_iconst (v := 1) hx hb dX3_does_58 ic_1 ?_
    refine lv_iadd hx hb dX3_does_59 ?_
    refine lv_topi (fun v_9 ev_9 => ?_)
    have q_10 : v_9.toInt = v_2.toInt + 1 := by rw [ev_9]; first | exact cm_add ti_1 (by omega) (by omega) | (have k1 : (1 : Int32).toInt = 1 := ti_1; exact (bn_addI (by omega) (by omega)).trans (by omega))
    refine sl_pX_36_3_3 (x := v_9) hx hb hts hown hh hA hK hP hS dX3_does_60 (fun f_11 H locs ef_11 hP hS => ?_)
    have hI : sgI loX hiX f_11 := by rw [ef_11]; exact sgI.put hI 36 3 (show 0 ≤ (v_9 : Int32).toInt ∧ (v_9 : Int32).toInt ≤ 19 from ⟨by omega, by omega⟩)
    have hF : sgK WkX3_does_7_0_0_f0_f7 f f_11 := sgK.put hF ef_11 (by rfl)
    refine lv_aload_n hx hb dX3_does_63 rfl (lv_at hl 0 rfl) ?_
    refine lv_iload hx hb dX3_does_64 (lv_at hl 4 rfl) ?_
    refine sg_gets hx hb hZ 2 rfl hS hown (hts _ (List.mem_cons_of_mem _ mw_174)) (fun _ h9 => h9) dX3_does_66 ?_
    refine lv_iload hx hb dX3_does_69 (lv_at hl 3 rfl) ?_
    refine sg_sald hx hb hZ 2 rfl hS (y := 1) (N := 8) (vp_in_iff.mpr (by decide)) dX3_does_71 ?_
    refine W.eq (g2 := F0 m 72 ls [.int 0, .int 20, .ref (h 36)]) (by rfl) ?_
    refine lv_iload_n hx hb dX3_does_72 rfl (lv_at hl 1 rfl) ?_
    refine lv_iload hx hb dX3_does_73 (lv_at hl 2 rfl) ?_
    refine lv_iconst (v := 1) hx hb dX3_does_75 ic_1 ?_
    refine lv_iadd hx hb dX3_does_76 ?_
    refine W.eq (g2 := F0 m 77 ls [.int 1, .int x2, .int 0, .int 20, .ref (h 36)]) (by rw [show (0 + 1 : Int32) = 1 from by decide]) ?_
    have c_12 : v_9 = 1 := Int32.toInt_inj.mp (by have k9 : (1 : Int32).toInt = 1 := ti_1; omega)
    have q_13 : (f_11 36 3).toInt = 1 := (congrArg Int32.toInt (show f_11 36 3 = 1 from (Eq.trans (by rw [ef_11, sg_up_s, sgu_s]) c_12))).trans (by decide)
    refine sg_calli (va_runV (As := [.int 20, .int 0, .int x2, .int 1]) (rest := []) ⟨hx, hb, hml, hown, hts⟩ (kX3_runs_20_0_1_f1_f7 l D ca za h hh f_11 L Q hI x2 (Eq.trans (by rw [ef_11, sg_up_s, sgu_s]) c_12) (by rw [ef_11, sg_up_s, sgu_n (by decide)]; exact m_8) (by have k0 : (20 : Int32).toInt = 20 := ti_20; have k1 : (0 : Int32).toInt = 0 := ti_0; have k3 : (1 : Int32).toInt = 1 := ti_1; omega) H.size) (sl_c3_runs_2_0_0_50_3 hts ⟨Nat.le_of_ble_eq_true rfl, Nat.le_of_ble_eq_true rfl⟩) (sl_vX_36 hA hK hP hS hZ) rfl rfl hl.1 rfl (lv_room (Nat.le_of_ble_eq_true rfl)) dX3_does_77 ⟨Nat.le_refl _, Nat.le_refl _⟩) hA hS (fun r_18 f_15 L_16 Q_17 H locs hq hP hS => ?_)
    obtain ⟨⟨hI, hk_f_15, eL9, eQ9⟩, hq, p_19, u_20⟩ := hq
    rw [eL9, eQ9] at hP; clear eL9 eQ9
    have hF : sgK WkX3_does_7_0_0_f0_f7 f f_15 := sgK.tr hF hk_f_15 (by decide +kernel)
    obtain ⟨v_21, ev_21⟩ : ∃ z : Int32, z = f_15 36 3 := ⟨_, rfl⟩
    have q_22 : 0 ≤ v_21.toInt ∧ v_21.toInt ≤ 19 := by rw [ev_21]; exact hI 36 3
    have q_23 : (f_15 36 3).toInt = v_21.toInt := (congrArg Int32.toInt (show f_15 36 3 = v_21 from ev_21.symm))
    have k_25 : (20 : Int32).toInt = 20 := by decide
    have k_26 : (0 : Int32).toInt = 0 := by decide
    have k_27 : (1 : Int32).toInt = 1 := by decide
    exact hret _ _ _ _ (r_18) f_15 L Q dX3_does_80 hP hS ⟨⟨hI, hF, rfl, rfl⟩, trivial, ⟨by omega, by omega⟩, (Eq.trans (Eq.symm (hs.trans ((spl_e ev_2 (spl_e ev_5 (spl_e ev_9 (spl_e ef_11 (spl2_e u_20 (spl_e ev_21 rfl))))))))) hsp)⟩
  refine lv_iload_n hx hb dX3_does_0 rfl (lv_at hl 1 rfl) ?_
  refine lv_iload_n hx hb dX3_does_1 rfl (lv_at hl 2 rfl) ?_
  refine sg_calli (va_runS (As := [.int 7, .int 0]) (rest := []) ⟨hx, hb, hml, hown, hts⟩ (kX3_ownerOf_7_0 l D ca za h hh f L Q hI H.size) (va_cwS 2 hts (gw_S (fun _ h => List.mem_cons_of_mem _ h) mw_189 mw_190 mw_47 mw_188) rfl rfl rfl hd_yX3_ownerOf.2 ⟨Nat.le_of_ble_eq_true rfl, Nat.le_of_ble_eq_true rfl⟩) (sg_preS hA hK hP hS hZ) rfl rfl hl.1 rfl (lv_room (Nat.le_of_ble_eq_true rfl)) dX3_does_2 ⟨Nat.le_refl _, Nat.le_refl _⟩) hA hS (fun r_33 f_30 L_31 Q_32 H locs hq hP hS => ?_)
  obtain ⟨⟨ef9, eL9, eQ9⟩, hq, u_34⟩ := hq
  rw [ef9, eL9, eQ9] at hP; clear ef9 eL9 eQ9
  obtain rfl : r_33 = 1 := Int32.toInt_inj.mp (by have k9 : (1 : Int32).toInt = 1 := ti_1; omega)
  refine lv_istore (lv' := [(5, .int 1), (0, .ref (h 36)), (1, .int 7), (2, .int 0), (3, .int x2), (4, .int 0)]) hx hb dX3_does_5 hl (by decide) rfl (fun ls hl => ?_)
  refine lv_iload hx hb dX3_does_7 (lv_at hl 0 rfl) ?_
  refine lv_if_lt (tgt := 19) hx hb dX3_does_9 (by decide) (fun c => absurd c (by decide)) (fun c => ?_)
  refine lv_iload hx hb dX3_does_12 (lv_at hl 5 rfl) ?_
  refine lv_bipush (v := 40) hx hb dX3_does_14 bp_40 ?_
  refine lv_icmp_le (tgt := 21) hx hb dX3_does_16 (by decide) (fun c => ?_) (fun c => absurd c (by decide))
  refine sg_gets hx hb hZ 3 rfl hS hown (hts _ (List.mem_cons_of_mem _ mw_173)) (fun _ h9 => h9) dX3_does_21 ?_
  refine lv_iload hx hb dX3_does_24 (lv_at hl 0 rfl) ?_
  refine lv_iconst (v := 4) hx hb dX3_does_26 ic_4 ?_
  refine lv_imul hx hb dX3_does_27 ?_
  refine W.eq (g2 := F0 m 28 ls [.int 4, .ref (za 3)]) (by rw [show (1 * 4 : Int32) = 4 from by decide]) ?_
  refine lv_iload_n hx hb dX3_does_28 rfl (lv_at hl 3 rfl) ?_
  refine lv_iadd hx hb dX3_does_29 ?_
  refine W.eq (g2 := F0 m 30 ls [.int 4, .ref (za 3)]) (by rw [show (4 + 0 : Int32) = 4 from by decide]) ?_
  refine sg_sald hx hb hZ 3 rfl hS (y := 4) (N := 32) (vp_in_iff.mpr (by decide)) dX3_does_30 ?_
  refine W.eq (g2 := F0 m 31 ls [.int 20]) (by rfl) ?_
  refine lv_istore (lv' := [(6, .int 20), (5, .int 1), (0, .ref (h 36)), (1, .int 7), (2, .int 0), (3, .int x2), (4, .int 0)]) hx hb dX3_does_31 hl (by decide) rfl (fun ls hl => ?_)
  refine lv_aload_n hx hb dX3_does_33 rfl (lv_at hl 2 rfl) ?_
  refine sl_gX_36_3_3 (v := 0) hx hb hts hown hK hP (show f 36 3 = 0 from hf_36_3) dX3_does_34 ?_
  refine lv_bipush (v := 24) hx hb dX3_does_37 bp_24 ?_
  refine lv_icmp_ge (tgt := 53) hx hb dX3_does_39 (by decide) (fun c => absurd c (by decide)) (fun c => ?_)
  refine lv_aload_n hx hb dX3_does_42 rfl (lv_at hl 2 rfl) ?_
  refine sl_gX_36_1_3 hx hb hts hown hK hP dX3_does_43 ?_
  refine lv_aload_n hx hb dX3_does_46 rfl (lv_at hl 2 rfl) ?_
  refine sl_gX_36_3_3 (v := 0) hx hb hts hown hK hP (show f 36 3 = 0 from hf_36_3) dX3_does_47 ?_
  refine lv_iload hx hb dX3_does_50 (lv_at hl 0 rfl) ?_
  refine sg_iast hx hb hh hA hK hP hS 38 (by decide) 0 (fun _ => rfl) rfl (i := 0) (x := 20) (vp_in_iff.mpr (by decide)) dX3_does_52 (fun f_35 H locs ef_35 hP hS => ?_)
  have ef_35 : f_35 = sg_up f 38 (sgu (f 38) 0 20) := ef_35
  have hI : sgI loX hiX f_35 := by rw [ef_35]; exact sgI.put hI 38 0 (show 0 ≤ (20 : Int32).toInt ∧ (20 : Int32).toInt ≤ 81 from by decide)
  have hF : sgK WkX3_does_7_0_0_f0_f7 f f_35 := sgK.put hF ef_35 (by rfl)
  exact blk_53 f_35 _ _ _ (hs.trans ((spl_e u_34 (spl_e ef_35 rfl)))) (by have zz36_3 : (f_35 36 3).toInt = 0 := (congrArg Int32.toInt (show f_35 36 3 = 0 from (by rw [ef_35, sg_up_n (by decide)]; exact hf_36_3))).trans (by decide); exact ⟨by omega, by omega⟩) (by have zz36_4 : (f_35 36 4).toInt = 7 := (congrArg Int32.toInt (show f_35 36 4 = 7 from (by rw [ef_35, sg_up_n (by decide)]; exact hf_36_4))).trans (by decide); exact ⟨by omega, by omega⟩) hI hF hP hS (lv_sub hl [2, 5, 6, 1, 0] rfl)

set_option maxHeartbeats 4000000 in
set_option maxRecDepth 100000 in
theorem kX3_ownerOf_0_1 (l : Launch) (D : va_G) (ca : Nat → ClassId) (za h : Nat → Nat) (hh : sgH 52 h) (f : sg_F) (L : sg_L) (Q : sg_Q) (hI : sgI loX hiX f) (sz : Nat) : Met l yX3_ownerOf gwX3_ownerOf { frames := 0, cells := 0, slots := 0, locals := 0 } (sgP D vwCl (tyX ca) 52 h (eX ca h) zcX za f L Q sz [.int 0, .int 1]) (sgQi D vwCl 52 h (eX ca h) sz (fun r f1 L1 Q1 => ((f1 = f ∧ L1 = L ∧ Q1 = Q) ∧ (0 ≤ r.toInt ∧ r.toInt ≤ 0) ∧ (r) = sX3_ownerOf_0_1 f L))) 0 0 (sgA 52 h sz) := by
  refine sg_ofWi (cc := cX3_ownerOf) (maxL := 4) RX3 (by decide) rfl rfl (Nat.le_of_ble_eq_true rfl) ?_
  intro p e s m below meth cd Qz ls hx hb hml hown hts hK hZ hP hS hl hret
  have hA := sgY.self (n := 52) (h := h) (sz := s.heap.size)
  have hl : lv_has ls 4 [(0, .int 0), (1, .int 1)] := hl
  obtain ⟨H, hH⟩ : ∃ z : Heap, z = s.heap := ⟨_, rfl⟩
  obtain ⟨locs, hlo⟩ : ∃ z : List Loc, z = [] := ⟨_, rfl⟩
  have hP : va_P D vwCl (sgw 52 h (eX ca h) f L Q) H := by rw [hH]; exact hP
  have hS : va_S (sgA 52 h s.heap.size) s.heap H locs := by rw [hH, hlo]; exact hS
  suffices hgo : W p l e ({ frames := 0, cells := 0, slots := 0, locals := 0 }) s m ([.int 0, .int 1] : List Value).toArray below meth cd H locs 0 0 Qz (F0 m 0 ls []) by rw [hH, hlo] at hgo; exact hgo
  clear hH hlo
  obtain ⟨sp, hsp⟩ : ∃ z : Int32, z = sX3_ownerOf_0_1 f L := ⟨_, rfl⟩
  have hs : sp = sX3_ownerOf_0_1 f L := hsp
  refine lv_iload_n hx hb dX3_ownerOf_0 rfl (lv_at hl 0 rfl) ?_
  refine lv_istore_n (lv' := [(2, .int 0), (0, .int 0), (1, .int 1)]) hx hb dX3_ownerOf_1 rfl hl (by decide) rfl (fun ls hl => ?_)
  refine lv_iconst (v := 0) hx hb dX3_ownerOf_2 ic_0 ?_
  refine lv_istore_n (lv' := [(3, .int 0), (2, .int 0), (0, .int 0), (1, .int 1)]) hx hb dX3_ownerOf_3 rfl hl (by decide) rfl (fun ls hl => ?_)
  refine lv_iload_n hx hb dX3_ownerOf_4 rfl (lv_at hl 0 rfl) ?_
  refine lv_bipush (v := 8) hx hb dX3_ownerOf_5 bp_8 ?_
  refine lv_icmp_ge (tgt := 40) hx hb dX3_ownerOf_7 (by decide) (fun c => absurd c (by decide)) (fun c => ?_)
  refine lv_iload_n hx hb dX3_ownerOf_10 rfl (lv_at hl 1 rfl) ?_
  refine lv_if_lt (tgt := 40) hx hb dX3_ownerOf_11 (by decide) (fun c => absurd c (by decide)) (fun c => ?_)
  refine sg_gets hx hb hZ 3 rfl hS hown (hts _ (List.mem_cons_of_mem _ mw_173)) (fun _ h9 => h9) dX3_ownerOf_14 ?_
  refine lv_iload_n hx hb dX3_ownerOf_17 rfl (lv_at hl 1 rfl) ?_
  refine lv_iconst (v := 4) hx hb dX3_ownerOf_18 ic_4 ?_
  refine lv_imul hx hb dX3_ownerOf_19 ?_
  refine W.eq (g2 := F0 m 20 ls [.int 0, .ref (za 3)]) (by rw [show (0 * 4 : Int32) = 0 from by decide]) ?_
  refine lv_iload_n hx hb dX3_ownerOf_20 rfl (lv_at hl 3 rfl) ?_
  refine lv_iadd hx hb dX3_ownerOf_21 ?_
  refine W.eq (g2 := F0 m 22 ls [.int 1, .ref (za 3)]) (by rw [show (0 + 1 : Int32) = 1 from by decide]) ?_
  refine sg_sald hx hb hZ 3 rfl hS (y := 1) (N := 32) (vp_in_iff.mpr (by decide)) dX3_ownerOf_22 ?_
  refine W.eq (g2 := F0 m 23 ls [.int 10]) (by rfl) ?_
  refine lv_if_eq (tgt := 28) hx hb dX3_ownerOf_23 (by decide) (fun c => absurd c (by decide)) (fun c => ?_)
  refine lv_iload_n hx hb dX3_ownerOf_26 rfl (lv_at hl 1 rfl) ?_
  have k99 : (0 : Int32).toInt = 0 := ti_0
  exact hret _ _ _ _ (0) f L Q dX3_ownerOf_27 hP hS ⟨⟨rfl, rfl, rfl⟩, (by decide), (Eq.trans (Eq.symm hs) hsp)⟩

set_option maxHeartbeats 4000000 in
set_option maxRecDepth 100000 in
theorem kX3_runs_1_m1_2_f2_f0 (l : Launch) (D : va_G) (ca : Nat → ClassId) (za h : Nat → Nat) (hh : sgH 52 h) (f : sg_F) (L : sg_L) (Q : sg_Q) (hI : sgI loX hiX f) (x2 : Int32) (hf_36_3 : f 36 3 = 2) (hf_36_4 : f 36 4 = 0) (p0 : 2 ≤ (f 36 3).toInt ∧ (f 36 3).toInt ≤ 2) (sz : Nat) : Met l yX3_runs gwX3_runs { frames := 0, cells := 0, slots := 0, locals := 0 } (sgP D vwCl (tyX ca) 52 h (eX ca h) zcX za f L Q sz [.ref (h 36), .int 1, .int (-1), .int x2, .int 2]) (sgQi D vwCl 52 h (eX ca h) sz (fun r f1 L1 Q1 => ((f1 = f ∧ L1 = L ∧ Q1 = Q) ∧ True ∧ (2 ≤ (f1 36 3).toInt ∧ (f1 36 3).toInt ≤ 2) ∧ (r) = sX3_runs_1_m1_2_f2_f0 x2 f L))) 0 0 (sgA 52 h sz) := by
  refine sg_ofWi (cc := cX3_runs) (maxL := 5) RX3 (by decide) rfl rfl (Nat.le_of_ble_eq_true rfl) ?_
  intro p e s m below meth cd Qz ls hx hb hml hown hts hK hZ hP hS hl hret
  have hA := sgY.self (n := 52) (h := h) (sz := s.heap.size)
  have hl : lv_has ls 5 [(0, .ref (h 36)), (1, .int 1), (2, .int (-1)), (3, .int x2), (4, .int 2)] := hl
  obtain ⟨H, hH⟩ : ∃ z : Heap, z = s.heap := ⟨_, rfl⟩
  obtain ⟨locs, hlo⟩ : ∃ z : List Loc, z = [] := ⟨_, rfl⟩
  have hP : va_P D vwCl (sgw 52 h (eX ca h) f L Q) H := by rw [hH]; exact hP
  have hS : va_S (sgA 52 h s.heap.size) s.heap H locs := by rw [hH, hlo]; exact hS
  suffices hgo : W p l e ({ frames := 0, cells := 0, slots := 0, locals := 0 }) s m ([.ref (h 36), .int 1, .int (-1), .int x2, .int 2] : List Value).toArray below meth cd H locs 0 0 Qz (F0 m 0 ls []) by rw [hH, hlo] at hgo; exact hgo
  clear hH hlo
  obtain ⟨sp, hsp⟩ : ∃ z : Int32, z = sX3_runs_1_m1_2_f2_f0 x2 f L := ⟨_, rfl⟩
  have hs : sp = sX3_runs_1_m1_2_f2_f0 x2 f L := hsp
  have o_1 : (f 36 3).toInt = 2 := (congrArg Int32.toInt (show f 36 3 = 2 from hf_36_3)).trans (by decide)
  refine lv_iload_n hx hb dX3_runs_0 rfl (lv_at hl 1 rfl) ?_
  refine lv_lookup (x := 1) (off := 115) (tgt := 116) hx hb dX3_runs_1 (by decide) (by decide) (by decide) ?_
  refine lv_iload_n hx hb dX3_runs_116 rfl (lv_at hl 3 rfl) ?_
  refine lv_aload_n hx hb dX3_runs_117 rfl (lv_at hl 0 rfl) ?_
  refine sl_gX_36_5_3 (v := (f 36 5)) hx hb hts hown hK hP rfl dX3_runs_118 ?_
  refine lv_topi (fun v_2 ev_2 => ?_)
  have q_3 : 0 ≤ v_2.toInt ∧ v_2.toInt ≤ 49 := by rw [ev_2]; exact hI 36 5
  refine lv_iadd hx hb dX3_runs_121 ?_
  refine lv_topi (fun v_4 ev_4 => ?_)
  have q_5 : (f 36 3).toInt = 2 := (congrArg Int32.toInt (show f 36 3 = 2 from hf_36_3)).trans (by decide)
  exact hret _ _ _ _ (v_4) f L Q dX3_runs_122 hP hS ⟨⟨rfl, rfl, rfl⟩, trivial, ⟨by omega, by omega⟩, (Eq.trans (Eq.symm (hs.trans ((spl_e ev_2 (spl_e ev_4 rfl))))) hsp)⟩

abbrev WkX3_does_0_0_1_f1_f0 : List (Nat × Nat × Option Nat) := [(36, 36, some 3), (38, 38, some 1)]
set_option maxHeartbeats 4000000 in
set_option maxRecDepth 100000 in
theorem kX3_does_0_0_1_f1_f0 (l : Launch) (D : va_G) (ca : Nat → ClassId) (za h : Nat → Nat) (hh : sgH 52 h) (f : sg_F) (L : sg_L) (Q : sg_Q) (hI : sgI loX hiX f) (x2 : Int32) (hf_36_3 : f 36 3 = 1) (hf_36_4 : f 36 4 = 0) (p0 : 1 ≤ (f 36 3).toInt ∧ (f 36 3).toInt ≤ 1) (sz : Nat) : Met l yX3_does gwX3_does { frames := 1, cells := 0, slots := 0, locals := 24 } (sgP D vwCl (tyX ca) 52 h (eX ca h) zcX za f L Q sz [.ref (h 36), .int 0, .int 0, .int x2, .int 1]) (sgQi D vwCl 52 h (eX ca h) sz (fun r f1 L1 Q1 => ((sgI loX hiX f1 ∧ sgK WkX3_does_0_0_1_f1_f0 f f1 ∧ L1 = L ∧ Q1 = Q) ∧ True ∧ (2 ≤ (f1 36 3).toInt ∧ (f1 36 3).toInt ≤ 2) ∧ (r, f1) = sX3_does_0_0_1_f1_f0 x2 f L))) 0 0 (sgA 52 h sz) := by
  refine sg_ofWi (cc := cX3_does) (maxL := 7) RX3 (by decide) rfl rfl (Nat.le_of_ble_eq_true rfl) ?_
  intro p e s m below meth cd Qz ls hx hb hml hown hts hK hZ hP hS hl hret
  have hA := sgY.self (n := 52) (h := h) (sz := s.heap.size)
  have hl : lv_has ls 7 [(0, .ref (h 36)), (1, .int 0), (2, .int 0), (3, .int x2), (4, .int 1)] := hl
  obtain ⟨H, hH⟩ : ∃ z : Heap, z = s.heap := ⟨_, rfl⟩
  obtain ⟨locs, hlo⟩ : ∃ z : List Loc, z = [] := ⟨_, rfl⟩
  have hP : va_P D vwCl (sgw 52 h (eX ca h) f L Q) H := by rw [hH]; exact hP
  have hS : va_S (sgA 52 h s.heap.size) s.heap H locs := by rw [hH, hlo]; exact hS
  suffices hgo : W p l e ({ frames := 1, cells := 0, slots := 0, locals := 24 }) s m ([.ref (h 36), .int 0, .int 0, .int x2, .int 1] : List Value).toArray below meth cd H locs 0 0 Qz (F0 m 0 ls []) by rw [hH, hlo] at hgo; exact hgo
  clear hH hlo
  obtain ⟨sp, hsp⟩ : ∃ z : Int32 × sg_F, z = sX3_does_0_0_1_f1_f0 x2 f L := ⟨_, rfl⟩
  have hs : sp = sX3_does_0_0_1_f1_f0 x2 f L := hsp
  have o_1 : (f 36 3).toInt = 1 := (congrArg Int32.toInt (show f 36 3 = 1 from hf_36_3)).trans (by decide)
  have hF : sgK WkX3_does_0_0_1_f1_f0 f f := sgK.rf
  have blk_53 : ∀ (fp_53 : sg_F) (H : Heap) (locs : List Loc) (ls : Array Slot), sp = sX3_does_0_0_1_f1_f0_b53 x2 fp_53 L → 1 ≤ (fp_53 36 3).toInt ∧ (fp_53 36 3).toInt ≤ 1 → 0 ≤ (fp_53 36 4).toInt ∧ (fp_53 36 4).toInt ≤ 0 → sgI loX hiX fp_53 → sgK WkX3_does_0_0_1_f1_f0 f fp_53 → va_P D vwCl (sgw 52 h (eX ca h) fp_53 L Q) H → va_S (sgA 52 h s.heap.size) s.heap H locs → lv_has ls 7 [(0, .ref (h 36)), (3, .int x2), (4, .int 1), (5, .int 0), (6, .int 1)] → W p l e ({ frames := 1, cells := 0, slots := 0, locals := 24 }) s m ([.ref (h 36), .int 0, .int 0, .int x2, .int 1] : List Value).toArray below meth cd H locs 0 0 Qz (F0 m 53 ls []) := by
    intro fp_53 H locs ls hs hy0_53 hy1_53 hI hF hP hS hl
    obtain ⟨v_2, ev_2⟩ : ∃ z : Int32, z = fp_53 36 3 := ⟨_, rfl⟩
    have q_3 : 0 ≤ v_2.toInt ∧ v_2.toInt ≤ 19 := by rw [ev_2]; exact hI 36 3
    have q_4 : (fp_53 36 3).toInt = v_2.toInt := by rw [ev_2]
    obtain ⟨v_5, ev_5⟩ : ∃ z : Int32, z = fp_53 36 4 := ⟨_, rfl⟩
    have q_6 : 0 ≤ v_5.toInt ∧ v_5.toInt ≤ 7 := by rw [ev_5]; exact hI 36 4
    have q_7 : (fp_53 36 4).toInt = v_5.toInt := by rw [ev_5]
    have m_8 : fp_53 36 4 = 0 := (hF 36 4 (by decide)).trans hf_36_4
    refine lv_aload_n hx hb dX3_does_53 rfl (lv_at hl 0 rfl) ?_
    refine lv_dup hx hb dX3_does_54 rfl ?_
    refine sl_gX_36_3_3 (v := v_2) hx hb hts hown hK hP (show fp_53 36 3 = v_2 from ev_2.symm) dX3_does_55 ?_
    refine lv_iconst (v := 1) hx hb dX3_does_58 ic_1 ?_
    refine lv_iadd hx hb dX3_does_59 ?_
    refine lv_topi (fun v_9 ev_9 => ?_)
    have q_10 : v_9.toInt = v_2.toInt + 1 := by rw [ev_9]; first | exact cm_add ti_1 (by omega) (by omega) | (have k1 : (1 : Int32).toInt = 1 := ti_1; exact (bn_addI (by omega) (by omega)).trans (by omega))
    refine sl_pX_36_3_3 (x := v_9) hx hb hts hown hh hA hK hP hS dX3_does_60 (fun f_11 H locs ef_11 hP hS => ?_)
    have hI : sgI loX hiX f_11 := by rw [ef_11]; exact sgI.put hI 36 3 (show 0 ≤ (v_9 : Int32).toInt ∧ (v_9 : Int32).toInt ≤ 19 from ⟨by omega, by omega⟩)
    have hF : sgK WkX3_does_0_0_1_f1_f0 f f_11 := sgK.put hF ef_11 (by rfl)
    refine lv_aload_n hx hb dX3_does_63 rfl (lv_at hl 0 rfl) ?_
    refine lv_iload hx hb dX3_does_64 (lv_at hl 4 rfl) ?_
    refine sg_gets hx hb hZ 2 rfl hS hown (hts _ (List.mem_cons_of_mem _ mw_174)) (fun _ h9 => h9) dX3_does_66 ?_
    refine lv_iload hx hb dX3_does_69 (lv_at hl 3 rfl) ?_
    refine sg_sald hx hb hZ 2 rfl hS (y := 0) (N := 8) (vp_in_iff.mpr (by decide)) dX3_does_71 ?_
    refine W.eq (g2 := F0 m 72 ls [.int (-1), .int 1, .ref (h 36)]) (by rfl) ?_
    refine lv_iload_n hx hb dX3_does_72 rfl (lv_at hl 1 rfl) ?_
    refine lv_iload hx hb dX3_does_73 (lv_at hl 2 rfl) ?_
    refine lv_iconst (v := 1) hx hb dX3_does_75 ic_1 ?_
    refine lv_iadd hx hb dX3_does_76 ?_
    refine W.eq (g2 := F0 m 77 ls [.int 2, .int x2, .int (-1), .int 1, .ref (h 36)]) (by rw [show (1 + 1 : Int32) = 2 from by decide]) ?_
    have c_12 : v_9 = 2 := Int32.toInt_inj.mp (by have k9 : (2 : Int32).toInt = 2 := ti_2; omega)
    have q_13 : (f_11 36 3).toInt = 2 := (congrArg Int32.toInt (show f_11 36 3 = 2 from (Eq.trans (by rw [ef_11, sg_up_s, sgu_s]) c_12))).trans (by decide)
    refine sg_calli (va_runV (As := [.int 1, .int (-1), .int x2, .int 2]) (rest := []) ⟨hx, hb, hml, hown, hts⟩ (kX3_runs_1_m1_2_f2_f0 l D ca za h hh f_11 L Q hI x2 (Eq.trans (by rw [ef_11, sg_up_s, sgu_s]) c_12) (by rw [ef_11, sg_up_s, sgu_n (by decide)]; exact m_8) (by have k0 : (1 : Int32).toInt = 1 := ti_1; have k1 : ((-1) : Int32).toInt = (-1) := ti_m1; have k3 : (2 : Int32).toInt = 2 := ti_2; omega) H.size) (sl_c3_runs_0_0_0_0_3 hts ⟨Nat.le_of_ble_eq_true rfl, Nat.le_of_ble_eq_true rfl⟩) (sl_vX_36 hA hK hP hS hZ) rfl rfl hl.1 rfl (lv_room (Nat.le_of_ble_eq_true rfl)) dX3_does_77 ⟨Nat.le_refl _, Nat.le_refl _⟩) hA hS (fun r_18 f_15 L_16 Q_17 H locs hq hP hS => ?_)
    obtain ⟨⟨ef9, eL9, eQ9⟩, hq, p_19, u_20⟩ := hq
    rw [ef9, eL9, eQ9] at hP; clear ef9 eL9 eQ9
    have k_23 : (1 : Int32).toInt = 1 := by decide
    have k_24 : ((-1) : Int32).toInt = (-1) := by decide
    have k_25 : (2 : Int32).toInt = 2 := by decide
    exact hret _ _ _ _ (r_18) f_11 L Q dX3_does_80 hP hS ⟨⟨hI, hF, rfl, rfl⟩, trivial, ⟨by omega, by omega⟩, (Eq.trans (Eq.symm (hs.trans ((spl_e ev_2 (spl_e ev_5 (spl_e ev_9 (spl_e ef_11 (spl_e u_20 rfl)))))))) hsp)⟩
  refine lv_iload_n hx hb dX3_does_0 rfl (lv_at hl 1 rfl) ?_
  refine lv_iload_n hx hb dX3_does_1 rfl (lv_at hl 2 rfl) ?_
  refine sg_calli (va_runS (As := [.int 0, .int 0]) (rest := []) ⟨hx, hb, hml, hown, hts⟩ (kX3_ownerOf_0_0 l D ca za h hh f L Q hI H.size) (va_cwS 2 hts (gw_S (fun _ h => List.mem_cons_of_mem _ h) mw_189 mw_190 mw_47 mw_188) rfl rfl rfl hd_yX3_ownerOf.2 ⟨Nat.le_of_ble_eq_true rfl, Nat.le_of_ble_eq_true rfl⟩) (sg_preS hA hK hP hS hZ) rfl rfl hl.1 rfl (lv_room (Nat.le_of_ble_eq_true rfl)) dX3_does_2 ⟨Nat.le_refl _, Nat.le_refl _⟩) hA hS (fun r_31 f_28 L_29 Q_30 H locs hq hP hS => ?_)
  obtain ⟨⟨ef9, eL9, eQ9⟩, hq, u_32⟩ := hq
  rw [ef9, eL9, eQ9] at hP; clear ef9 eL9 eQ9
  obtain rfl : r_31 = 0 := Int32.toInt_inj.mp (by have k9 : (0 : Int32).toInt = 0 := ti_0; omega)
  refine lv_istore (lv' := [(5, .int 0), (0, .ref (h 36)), (1, .int 0), (2, .int 0), (3, .int x2), (4, .int 1)]) hx hb dX3_does_5 hl (by decide) rfl (fun ls hl => ?_)
  refine lv_iload hx hb dX3_does_7 (lv_at hl 0 rfl) ?_
  refine lv_if_lt (tgt := 19) hx hb dX3_does_9 (by decide) (fun c => absurd c (by decide)) (fun c => ?_)
  refine lv_iload hx hb dX3_does_12 (lv_at hl 5 rfl) ?_
  refine lv_bipush (v := 40) hx hb dX3_does_14 bp_40 ?_
  refine lv_icmp_le (tgt := 21) hx hb dX3_does_16 (by decide) (fun c => ?_) (fun c => absurd c (by decide))
  refine sg_gets hx hb hZ 3 rfl hS hown (hts _ (List.mem_cons_of_mem _ mw_173)) (fun _ h9 => h9) dX3_does_21 ?_
  refine lv_iload hx hb dX3_does_24 (lv_at hl 0 rfl) ?_
  refine lv_iconst (v := 4) hx hb dX3_does_26 ic_4 ?_
  refine lv_imul hx hb dX3_does_27 ?_
  refine W.eq (g2 := F0 m 28 ls [.int 0, .ref (za 3)]) (by rw [show (0 * 4 : Int32) = 0 from by decide]) ?_
  refine lv_iload_n hx hb dX3_does_28 rfl (lv_at hl 3 rfl) ?_
  refine lv_iadd hx hb dX3_does_29 ?_
  refine W.eq (g2 := F0 m 30 ls [.int 0, .ref (za 3)]) (by rw [show (0 + 0 : Int32) = 0 from by decide]) ?_
  refine sg_sald hx hb hZ 3 rfl hS (y := 0) (N := 32) (vp_in_iff.mpr (by decide)) dX3_does_30 ?_
  refine W.eq (g2 := F0 m 31 ls [.int 1]) (by rfl) ?_
  refine lv_istore (lv' := [(6, .int 1), (5, .int 0), (0, .ref (h 36)), (1, .int 0), (2, .int 0), (3, .int x2), (4, .int 1)]) hx hb dX3_does_31 hl (by decide) rfl (fun ls hl => ?_)
  refine lv_aload_n hx hb dX3_does_33 rfl (lv_at hl 2 rfl) ?_
  refine sl_gX_36_3_3 (v := 1) hx hb hts hown hK hP (show f 36 3 = 1 from hf_36_3) dX3_does_34 ?_
  refine lv_bipush (v := 24) hx hb dX3_does_37 bp_24 ?_
  refine lv_icmp_ge (tgt := 53) hx hb dX3_does_39 (by decide) (fun c => absurd c (by decide)) (fun c => ?_)
  refine lv_aload_n hx hb dX3_does_42 rfl (lv_at hl 2 rfl) ?_
  refine sl_gX_36_1_3 hx hb hts hown hK hP dX3_does_43 ?_
  refine lv_aload_n hx hb dX3_does_46 rfl (lv_at hl 2 rfl) ?_
  refine sl_gX_36_3_3 (v := 1) hx hb hts hown hK hP (show f 36 3 = 1 from hf_36_3) dX3_does_47 ?_
  refine lv_iload hx hb dX3_does_50 (lv_at hl 0 rfl) ?_
  refine sg_iast hx hb hh hA hK hP hS 38 (by decide) 0 (fun _ => rfl) rfl (i := 1) (x := 1) (vp_in_iff.mpr (by decide)) dX3_does_52 (fun f_33 H locs ef_33 hP hS => ?_)
  have ef_33 : f_33 = sg_up f 38 (sgu (f 38) 1 1) := ef_33
  have hI : sgI loX hiX f_33 := by rw [ef_33]; exact sgI.put hI 38 1 (show 0 ≤ (1 : Int32).toInt ∧ (1 : Int32).toInt ≤ 81 from by decide)
  have hF : sgK WkX3_does_0_0_1_f1_f0 f f_33 := sgK.put hF ef_33 (by rfl)
  exact blk_53 f_33 _ _ _ (hs.trans ((spl_e u_32 (spl_e ef_33 rfl)))) (by have zz36_3 : (f_33 36 3).toInt = 1 := (congrArg Int32.toInt (show f_33 36 3 = 1 from (by rw [ef_33, sg_up_n (by decide)]; exact hf_36_3))).trans (by decide); exact ⟨by omega, by omega⟩) (by have zz36_4 : (f_33 36 4).toInt = 0 := (congrArg Int32.toInt (show f_33 36 4 = 0 from (by rw [ef_33, sg_up_n (by decide)]; exact hf_36_4))).trans (by decide); exact ⟨by omega, by omega⟩) hI hF hP hS (lv_sub hl [2, 5, 6, 1, 0] rfl)

abbrev WkX3_runs_10_m1_1_f1_f0 : List (Nat × Nat × Option Nat) := [(36, 36, some 3), (38, 38, some 1)]
set_option maxHeartbeats 4000000 in
set_option maxRecDepth 100000 in
theorem kX3_runs_10_m1_1_f1_f0 (l : Launch) (D : va_G) (ca : Nat → ClassId) (za h : Nat → Nat) (hh : sgH 52 h) (f : sg_F) (L : sg_L) (Q : sg_Q) (hI : sgI loX hiX f) (x2 : Int32) (hf_36_3 : f 36 3 = 1) (hf_36_4 : f 36 4 = 0) (p0 : 1 ≤ (f 36 3).toInt ∧ (f 36 3).toInt ≤ 1) (sz : Nat) : Met l yX3_runs gwX3_runs { frames := 2, cells := 0, slots := 0, locals := 50 } (sgP D vwCl (tyX ca) 52 h (eX ca h) zcX za f L Q sz [.ref (h 36), .int 10, .int (-1), .int x2, .int 1]) (sgQi D vwCl 52 h (eX ca h) sz (fun r f1 L1 Q1 => ((sgI loX hiX f1 ∧ sgK WkX3_runs_10_m1_1_f1_f0 f f1 ∧ L1 = L ∧ Q1 = Q) ∧ True ∧ (2 ≤ (f1 36 3).toInt ∧ (f1 36 3).toInt ≤ 2) ∧ (r, f1) = sX3_runs_10_m1_1_f1_f0 x2 f L))) 0 0 (sgA 52 h sz) := by
  refine sg_ofWi (cc := cX3_runs) (maxL := 5) RX3 (by decide) rfl rfl (Nat.le_of_ble_eq_true rfl) ?_
  intro p e s m below meth cd Qz ls hx hb hml hown hts hK hZ hP hS hl hret
  have hA := sgY.self (n := 52) (h := h) (sz := s.heap.size)
  have hl : lv_has ls 5 [(0, .ref (h 36)), (1, .int 10), (2, .int (-1)), (3, .int x2), (4, .int 1)] := hl
  obtain ⟨H, hH⟩ : ∃ z : Heap, z = s.heap := ⟨_, rfl⟩
  obtain ⟨locs, hlo⟩ : ∃ z : List Loc, z = [] := ⟨_, rfl⟩
  have hP : va_P D vwCl (sgw 52 h (eX ca h) f L Q) H := by rw [hH]; exact hP
  have hS : va_S (sgA 52 h s.heap.size) s.heap H locs := by rw [hH, hlo]; exact hS
  suffices hgo : W p l e ({ frames := 2, cells := 0, slots := 0, locals := 50 }) s m ([.ref (h 36), .int 10, .int (-1), .int x2, .int 1] : List Value).toArray below meth cd H locs 0 0 Qz (F0 m 0 ls []) by rw [hH, hlo] at hgo; exact hgo
  clear hH hlo
  obtain ⟨sp, hsp⟩ : ∃ z : Int32 × sg_F, z = sX3_runs_10_m1_1_f1_f0 x2 f L := ⟨_, rfl⟩
  have hs : sp = sX3_runs_10_m1_1_f1_f0 x2 f L := hsp
  have o_1 : (f 36 3).toInt = 1 := (congrArg Int32.toInt (show f 36 3 = 1 from hf_36_3)).trans (by decide)
  have hF : sgK WkX3_runs_10_m1_1_f1_f0 f f := sgK.rf
  refine lv_iload_n hx hb dX3_runs_0 rfl (lv_at hl 1 rfl) ?_
  refine lv_lookup (x := 10) (off := 148) (tgt := 149) hx hb dX3_runs_1 (by decide) (by decide) (by decide) ?_
  refine lv_aload_n hx hb dX3_runs_149 rfl (lv_at hl 0 rfl) ?_
  refine lv_aload_n hx hb dX3_runs_150 rfl (lv_at hl 0 rfl) ?_
  refine sl_gX_36_4_3 (v := 0) hx hb hts hown hK hP (show f 36 4 = 0 from hf_36_4) dX3_runs_151 ?_
  refine lv_iconst (v := 0) hx hb dX3_runs_154 ic_0 ?_
  refine lv_iload_n hx hb dX3_runs_155 rfl (lv_at hl 3 rfl) ?_
  refine lv_iload hx hb dX3_runs_156 (lv_at hl 4 rfl) ?_
  have q_2 : (f 36 3).toInt = 1 := (congrArg Int32.toInt (show f 36 3 = 1 from hf_36_3)).trans (by decide)
  refine sg_calli (va_runV (As := [.int 0, .int 0, .int x2, .int 1]) (rest := []) ⟨hx, hb, hml, hown, hts⟩ (kX3_does_0_0_1_f1_f0 l D ca za h hh f L Q hI x2 hf_36_3 hf_36_4 (by have k0 : (0 : Int32).toInt = 0 := ti_0; have k1 : (0 : Int32).toInt = 0 := ti_0; have k3 : (1 : Int32).toInt = 1 := ti_1; omega) H.size) (sl_c3_does_1_0_0_24_3 hts ⟨Nat.le_of_ble_eq_true rfl, Nat.le_of_ble_eq_true rfl⟩) (sl_vX_36 hA hK hP hS hZ) rfl rfl hl.1 rfl (lv_room (Nat.le_of_ble_eq_true rfl)) dX3_runs_158 ⟨Nat.le_refl _, Nat.le_refl _⟩) hA hS (fun r_7 f_4 L_5 Q_6 H locs hq hP hS => ?_)
  obtain ⟨⟨hI, hk_f_4, eL9, eQ9⟩, hq, p_8, u_9⟩ := hq
  rw [eL9, eQ9] at hP; clear eL9 eQ9
  have hF : sgK WkX3_runs_10_m1_1_f1_f0 f f_4 := sgK.tr hF hk_f_4 (by decide +kernel)
  obtain ⟨v_10, ev_10⟩ : ∃ z : Int32, z = f_4 36 3 := ⟨_, rfl⟩
  have q_11 : 0 ≤ v_10.toInt ∧ v_10.toInt ≤ 19 := by rw [ev_10]; exact hI 36 3
  have q_12 : (f_4 36 3).toInt = v_10.toInt := (congrArg Int32.toInt (show f_4 36 3 = v_10 from ev_10.symm))
  have k_14 : (0 : Int32).toInt = 0 := by decide
  have k_15 : (0 : Int32).toInt = 0 := by decide
  have k_16 : (1 : Int32).toInt = 1 := by decide
  refine lv_iconst (v := 2) hx hb dX3_runs_161 ic_2 ?_
  refine lv_imul hx hb dX3_runs_162 ?_
  refine lv_topi (fun v_17 ev_17 => ?_)
  exact hret _ _ _ _ (v_17) f_4 L Q dX3_runs_163 hP hS ⟨⟨hI, hF, rfl, rfl⟩, trivial, ⟨by omega, by omega⟩, (Eq.trans (Eq.symm (hs.trans ((spl2_e u_9 (spl_e ev_10 (spl_e ev_17 rfl)))))) hsp)⟩

abbrev WkX3_does_0_1_0_f0_f0 : List (Nat × Nat × Option Nat) := [(36, 36, some 3), (38, 38, some 0), (38, 38, some 1)]
set_option maxHeartbeats 4000000 in
set_option maxRecDepth 100000 in
theorem kX3_does_0_1_0_f0_f0 (l : Launch) (D : va_G) (ca : Nat → ClassId) (za h : Nat → Nat) (hh : sgH 52 h) (f : sg_F) (L : sg_L) (Q : sg_Q) (hI : sgI loX hiX f) (x2 : Int32) (hf_36_3 : f 36 3 = 0) (hf_36_4 : f 36 4 = 0) (p0 : 0 ≤ (f 36 3).toInt ∧ (f 36 3).toInt ≤ 0) (sz : Nat) : Met l yX3_does gwX3_does { frames := 3, cells := 0, slots := 0, locals := 74 } (sgP D vwCl (tyX ca) 52 h (eX ca h) zcX za f L Q sz [.ref (h 36), .int 0, .int 1, .int x2, .int 0]) (sgQi D vwCl 52 h (eX ca h) sz (fun r f1 L1 Q1 => ((sgI loX hiX f1 ∧ sgK WkX3_does_0_1_0_f0_f0 f f1 ∧ L1 = L ∧ Q1 = Q) ∧ True ∧ (2 ≤ (f1 36 3).toInt ∧ (f1 36 3).toInt ≤ 2) ∧ (r, f1) = sX3_does_0_1_0_f0_f0 x2 f L))) 0 0 (sgA 52 h sz) := by
  refine sg_ofWi (cc := cX3_does) (maxL := 7) RX3 (by decide) rfl rfl (Nat.le_of_ble_eq_true rfl) ?_
  intro p e s m below meth cd Qz ls hx hb hml hown hts hK hZ hP hS hl hret
  have hA := sgY.self (n := 52) (h := h) (sz := s.heap.size)
  have hl : lv_has ls 7 [(0, .ref (h 36)), (1, .int 0), (2, .int 1), (3, .int x2), (4, .int 0)] := hl
  obtain ⟨H, hH⟩ : ∃ z : Heap, z = s.heap := ⟨_, rfl⟩
  obtain ⟨locs, hlo⟩ : ∃ z : List Loc, z = [] := ⟨_, rfl⟩
  have hP : va_P D vwCl (sgw 52 h (eX ca h) f L Q) H := by rw [hH]; exact hP
  have hS : va_S (sgA 52 h s.heap.size) s.heap H locs := by rw [hH, hlo]; exact hS
  suffices hgo : W p l e ({ frames := 3, cells := 0, slots := 0, locals := 74 }) s m ([.ref (h 36), .int 0, .int 1, .int x2, .int 0] : List Value).toArray below meth cd H locs 0 0 Qz (F0 m 0 ls []) by rw [hH, hlo] at hgo; exact hgo
  clear hH hlo
  obtain ⟨sp, hsp⟩ : ∃ z : Int32 × sg_F, z = sX3_does_0_1_0_f0_f0 x2 f L := ⟨_, rfl⟩
  have hs : sp = sX3_does_0_1_0_f0_f0 x2 f L := hsp
  have o_1 : (f 36 3).toInt = 0 := (congrArg Int32.toInt (show f 36 3 = 0 from hf_36_3)).trans (by decide)
  have hF : sgK WkX3_does_0_1_0_f0_f0 f f := sgK.rf
  have blk_53 : ∀ (fp_53 : sg_F) (H : Heap) (locs : List Loc) (ls : Array Slot), sp = sX3_does_0_1_0_f0_f0_b53 x2 fp_53 L → 0 ≤ (fp_53 36 3).toInt ∧ (fp_53 36 3).toInt ≤ 0 → 0 ≤ (fp_53 36 4).toInt ∧ (fp_53 36 4).toInt ≤ 0 → sgI loX hiX fp_53 → sgK WkX3_does_0_1_0_f0_f0 f fp_53 → va_P D vwCl (sgw 52 h (eX ca h) fp_53 L Q) H → va_S (sgA 52 h s.heap.size) s.heap H locs → lv_has ls 7 [(0, .ref (h 36)), (3, .int x2), (4, .int 0), (5, .int 0), (6, .int 10)] → W p l e ({ frames := 3, cells := 0, slots := 0, locals := 74 }) s m ([.ref (h 36), .int 0, .int 1, .int x2, .int 0] : List Value).toArray below meth cd H locs 0 0 Qz (F0 m 53 ls []) := by
    intro fp_53 H locs ls hs hy0_53 hy1_53 hI hF hP hS hl
    obtain ⟨v_2, ev_2⟩ : ∃ z : Int32, z = fp_53 36 3 := ⟨_, rfl⟩
    have q_3 : 0 ≤ v_2.toInt ∧ v_2.toInt ≤ 19 := by rw [ev_2]; exact hI 36 3
    have q_4 : (fp_53 36 3).toInt = v_2.toInt := by rw [ev_2]
    obtain ⟨v_5, ev_5⟩ : ∃ z : Int32, z = fp_53 36 4 := ⟨_, rfl⟩
    have q_6 : 0 ≤ v_5.toInt ∧ v_5.toInt ≤ 7 := by rw [ev_5]; exact hI 36 4
    have q_7 : (fp_53 36 4).toInt = v_5.toInt := by rw [ev_5]
    have m_8 : fp_53 36 4 = 0 := (hF 36 4 (by decide)).trans hf_36_4
    refine lv_aload_n hx hb dX3_does_53 rfl (lv_at hl 0 rfl) ?_
    refine lv_dup hx hb dX3_does_54 rfl ?_
    refine sl_gX_36_3_3 (v := v_2) hx hb hts hown hK hP (show fp_53 36 3 = v_2 from ev_2.symm) dX3_does_55 ?_
    refine lv_iconst (v := 1) hx hb dX3_does_58 ic_1 ?_
    refine lv_iadd hx hb dX3_does_59 ?_
    refine lv_topi (fun v_9 ev_9 => ?_)
    have q_10 : v_9.toInt = v_2.toInt + 1 := by rw [ev_9]; first | exact cm_add ti_1 (by omega) (by omega) | (have k1 : (1 : Int32).toInt = 1 := ti_1; exact (bn_addI (by omega) (by omega)).trans (by omega))
    refine sl_pX_36_3_3 (x := v_9) hx hb hts hown hh hA hK hP hS dX3_does_60 (fun f_11 H locs ef_11 hP hS => ?_)
    have hI : sgI loX hiX f_11 := by rw [ef_11]; exact sgI.put hI 36 3 (show 0 ≤ (v_9 : Int32).toInt ∧ (v_9 : Int32).toInt ≤ 19 from ⟨by omega, by omega⟩)
    have hF : sgK WkX3_does_0_1_0_f0_f0 f f_11 := sgK.put hF ef_11 (by rfl)
    refine lv_aload_n hx hb dX3_does_63 rfl (lv_at hl 0 rfl) ?_
    refine lv_iload hx hb dX3_does_64 (lv_at hl 4 rfl) ?_
    refine sg_gets hx hb hZ 2 rfl hS hown (hts _ (List.mem_cons_of_mem _ mw_174)) (fun _ h9 => h9) dX3_does_66 ?_
    refine lv_iload hx hb dX3_does_69 (lv_at hl 3 rfl) ?_
    refine sg_sald hx hb hZ 2 rfl hS (y := 0) (N := 8) (vp_in_iff.mpr (by decide)) dX3_does_71 ?_
    refine W.eq (g2 := F0 m 72 ls [.int (-1), .int 10, .ref (h 36)]) (by rfl) ?_
    refine lv_iload_n hx hb dX3_does_72 rfl (lv_at hl 1 rfl) ?_
    refine lv_iload hx hb dX3_does_73 (lv_at hl 2 rfl) ?_
    refine lv_iconst (v := 1) hx hb dX3_does_75 ic_1 ?_
    refine lv_iadd hx hb dX3_does_76 ?_
    refine W.eq (g2 := F0 m 77 ls [.int 1, .int x2, .int (-1), .int 10, .ref (h 36)]) (by rw [show (0 + 1 : Int32) = 1 from by decide]) ?_
    have c_12 : v_9 = 1 := Int32.toInt_inj.mp (by have k9 : (1 : Int32).toInt = 1 := ti_1; omega)
    have q_13 : (f_11 36 3).toInt = 1 := (congrArg Int32.toInt (show f_11 36 3 = 1 from (Eq.trans (by rw [ef_11, sg_up_s, sgu_s]) c_12))).trans (by decide)
    refine sg_calli (va_runV (As := [.int 10, .int (-1), .int x2, .int 1]) (rest := []) ⟨hx, hb, hml, hown, hts⟩ (kX3_runs_10_m1_1_f1_f0 l D ca za h hh f_11 L Q hI x2 (Eq.trans (by rw [ef_11, sg_up_s, sgu_s]) c_12) (by rw [ef_11, sg_up_s, sgu_n (by decide)]; exact m_8) (by have k0 : (10 : Int32).toInt = 10 := ti_10; have k1 : ((-1) : Int32).toInt = (-1) := ti_m1; have k3 : (1 : Int32).toInt = 1 := ti_1; omega) H.size) (sl_c3_runs_2_0_0_50_3 hts ⟨Nat.le_of_ble_eq_true rfl, Nat.le_of_ble_eq_true rfl⟩) (sl_vX_36 hA hK hP hS hZ) rfl rfl hl.1 rfl (lv_room (Nat.le_of_ble_eq_true rfl)) dX3_does_77 ⟨Nat.le_refl _, Nat.le_refl _⟩) hA hS (fun r_18 f_15 L_16 Q_17 H locs hq hP hS => ?_)
    obtain ⟨⟨hI, hk_f_15, eL9, eQ9⟩, hq, p_19, u_20⟩ := hq
    rw [eL9, eQ9] at hP; clear eL9 eQ9
    have hF : sgK WkX3_does_0_1_0_f0_f0 f f_15 := sgK.tr hF hk_f_15 (by decide +kernel)
    obtain ⟨v_21, ev_21⟩ : ∃ z : Int32, z = f_15 36 3 := ⟨_, rfl⟩
    have q_22 : 0 ≤ v_21.toInt ∧ v_21.toInt ≤ 19 := by rw [ev_21]; exact hI 36 3
    have q_23 : (f_15 36 3).toInt = v_21.toInt := (congrArg Int32.toInt (show f_15 36 3 = v_21 from ev_21.symm))
    have k_25 : (10 : Int32).toInt = 10 := by decide
    have k_26 : ((-1) : Int32).toInt = (-1) := by decide
    have k_27 : (1 : Int32).toInt = 1 := by decide
    exact hret _ _ _ _ (r_18) f_15 L Q dX3_does_80 hP hS ⟨⟨hI, hF, rfl, rfl⟩, trivial, ⟨by omega, by omega⟩, (Eq.trans (Eq.symm (hs.trans ((spl_e ev_2 (spl_e ev_5 (spl_e ev_9 (spl_e ef_11 (spl2_e u_20 (spl_e ev_21 rfl))))))))) hsp)⟩
  refine lv_iload_n hx hb dX3_does_0 rfl (lv_at hl 1 rfl) ?_
  refine lv_iload_n hx hb dX3_does_1 rfl (lv_at hl 2 rfl) ?_
  refine sg_calli (va_runS (As := [.int 0, .int 1]) (rest := []) ⟨hx, hb, hml, hown, hts⟩ (kX3_ownerOf_0_1 l D ca za h hh f L Q hI H.size) (va_cwS 2 hts (gw_S (fun _ h => List.mem_cons_of_mem _ h) mw_189 mw_190 mw_47 mw_188) rfl rfl rfl hd_yX3_ownerOf.2 ⟨Nat.le_of_ble_eq_true rfl, Nat.le_of_ble_eq_true rfl⟩) (sg_preS hA hK hP hS hZ) rfl rfl hl.1 rfl (lv_room (Nat.le_of_ble_eq_true rfl)) dX3_does_2 ⟨Nat.le_refl _, Nat.le_refl _⟩) hA hS (fun r_33 f_30 L_31 Q_32 H locs hq hP hS => ?_)
  obtain ⟨⟨ef9, eL9, eQ9⟩, hq, u_34⟩ := hq
  rw [ef9, eL9, eQ9] at hP; clear ef9 eL9 eQ9
  obtain rfl : r_33 = 0 := Int32.toInt_inj.mp (by have k9 : (0 : Int32).toInt = 0 := ti_0; omega)
  refine lv_istore (lv' := [(5, .int 0), (0, .ref (h 36)), (1, .int 0), (2, .int 1), (3, .int x2), (4, .int 0)]) hx hb dX3_does_5 hl (by decide) rfl (fun ls hl => ?_)
  refine lv_iload hx hb dX3_does_7 (lv_at hl 0 rfl) ?_
  refine lv_if_lt (tgt := 19) hx hb dX3_does_9 (by decide) (fun c => absurd c (by decide)) (fun c => ?_)
  refine lv_iload hx hb dX3_does_12 (lv_at hl 5 rfl) ?_
  refine lv_bipush (v := 40) hx hb dX3_does_14 bp_40 ?_
  refine lv_icmp_le (tgt := 21) hx hb dX3_does_16 (by decide) (fun c => ?_) (fun c => absurd c (by decide))
  refine sg_gets hx hb hZ 3 rfl hS hown (hts _ (List.mem_cons_of_mem _ mw_173)) (fun _ h9 => h9) dX3_does_21 ?_
  refine lv_iload hx hb dX3_does_24 (lv_at hl 0 rfl) ?_
  refine lv_iconst (v := 4) hx hb dX3_does_26 ic_4 ?_
  refine lv_imul hx hb dX3_does_27 ?_
  refine W.eq (g2 := F0 m 28 ls [.int 0, .ref (za 3)]) (by rw [show (0 * 4 : Int32) = 0 from by decide]) ?_
  refine lv_iload_n hx hb dX3_does_28 rfl (lv_at hl 3 rfl) ?_
  refine lv_iadd hx hb dX3_does_29 ?_
  refine W.eq (g2 := F0 m 30 ls [.int 1, .ref (za 3)]) (by rw [show (0 + 1 : Int32) = 1 from by decide]) ?_
  refine sg_sald hx hb hZ 3 rfl hS (y := 1) (N := 32) (vp_in_iff.mpr (by decide)) dX3_does_30 ?_
  refine W.eq (g2 := F0 m 31 ls [.int 10]) (by rfl) ?_
  refine lv_istore (lv' := [(6, .int 10), (5, .int 0), (0, .ref (h 36)), (1, .int 0), (2, .int 1), (3, .int x2), (4, .int 0)]) hx hb dX3_does_31 hl (by decide) rfl (fun ls hl => ?_)
  refine lv_aload_n hx hb dX3_does_33 rfl (lv_at hl 2 rfl) ?_
  refine sl_gX_36_3_3 (v := 0) hx hb hts hown hK hP (show f 36 3 = 0 from hf_36_3) dX3_does_34 ?_
  refine lv_bipush (v := 24) hx hb dX3_does_37 bp_24 ?_
  refine lv_icmp_ge (tgt := 53) hx hb dX3_does_39 (by decide) (fun c => absurd c (by decide)) (fun c => ?_)
  refine lv_aload_n hx hb dX3_does_42 rfl (lv_at hl 2 rfl) ?_
  refine sl_gX_36_1_3 hx hb hts hown hK hP dX3_does_43 ?_
  refine lv_aload_n hx hb dX3_does_46 rfl (lv_at hl 2 rfl) ?_
  refine sl_gX_36_3_3 (v := 0) hx hb hts hown hK hP (show f 36 3 = 0 from hf_36_3) dX3_does_47 ?_
  refine lv_iload hx hb dX3_does_50 (lv_at hl 0 rfl) ?_
  refine sg_iast hx hb hh hA hK hP hS 38 (by decide) 0 (fun _ => rfl) rfl (i := 0) (x := 10) (vp_in_iff.mpr (by decide)) dX3_does_52 (fun f_35 H locs ef_35 hP hS => ?_)
  have ef_35 : f_35 = sg_up f 38 (sgu (f 38) 0 10) := ef_35
  have hI : sgI loX hiX f_35 := by rw [ef_35]; exact sgI.put hI 38 0 (show 0 ≤ (10 : Int32).toInt ∧ (10 : Int32).toInt ≤ 81 from by decide)
  have hF : sgK WkX3_does_0_1_0_f0_f0 f f_35 := sgK.put hF ef_35 (by rfl)
  exact blk_53 f_35 _ _ _ (hs.trans ((spl_e u_34 (spl_e ef_35 rfl)))) (by have zz36_3 : (f_35 36 3).toInt = 0 := (congrArg Int32.toInt (show f_35 36 3 = 0 from (by rw [ef_35, sg_up_n (by decide)]; exact hf_36_3))).trans (by decide); exact ⟨by omega, by omega⟩) (by have zz36_4 : (f_35 36 4).toInt = 0 := (congrArg Int32.toInt (show f_35 36 4 = 0 from (by rw [ef_35, sg_up_n (by decide)]; exact hf_36_4))).trans (by decide); exact ⟨by omega, by omega⟩) hI hF hP hS (lv_sub hl [2, 5, 6, 1, 0] rfl)

set_option maxHeartbeats 4000000 in
set_option maxRecDepth 100000 in
theorem kX3_ownerOf_1_1 (l : Launch) (D : va_G) (ca : Nat → ClassId) (za h : Nat → Nat) (hh : sgH 52 h) (f : sg_F) (L : sg_L) (Q : sg_Q) (hI : sgI loX hiX f) (sz : Nat) : Met l yX3_ownerOf gwX3_ownerOf { frames := 0, cells := 0, slots := 0, locals := 0 } (sgP D vwCl (tyX ca) 52 h (eX ca h) zcX za f L Q sz [.int 1, .int 1]) (sgQi D vwCl 52 h (eX ca h) sz (fun r f1 L1 Q1 => ((f1 = f ∧ L1 = L ∧ Q1 = Q) ∧ (0 ≤ r.toInt ∧ r.toInt ≤ 0) ∧ (r) = sX3_ownerOf_1_1 f L))) 0 0 (sgA 52 h sz) := by
  refine sg_ofWi (cc := cX3_ownerOf) (maxL := 4) RX3 (by decide) rfl rfl (Nat.le_of_ble_eq_true rfl) ?_
  intro p e s m below meth cd Qz ls hx hb hml hown hts hK hZ hP hS hl hret
  have hA := sgY.self (n := 52) (h := h) (sz := s.heap.size)
  have hl : lv_has ls 4 [(0, .int 1), (1, .int 1)] := hl
  obtain ⟨H, hH⟩ : ∃ z : Heap, z = s.heap := ⟨_, rfl⟩
  obtain ⟨locs, hlo⟩ : ∃ z : List Loc, z = [] := ⟨_, rfl⟩
  have hP : va_P D vwCl (sgw 52 h (eX ca h) f L Q) H := by rw [hH]; exact hP
  have hS : va_S (sgA 52 h s.heap.size) s.heap H locs := by rw [hH, hlo]; exact hS
  suffices hgo : W p l e ({ frames := 0, cells := 0, slots := 0, locals := 0 }) s m ([.int 1, .int 1] : List Value).toArray below meth cd H locs 0 0 Qz (F0 m 0 ls []) by rw [hH, hlo] at hgo; exact hgo
  clear hH hlo
  obtain ⟨sp, hsp⟩ : ∃ z : Int32, z = sX3_ownerOf_1_1 f L := ⟨_, rfl⟩
  have hs : sp = sX3_ownerOf_1_1 f L := hsp
  refine lv_iload_n hx hb dX3_ownerOf_0 rfl (lv_at hl 0 rfl) ?_
  refine lv_istore_n (lv' := [(2, .int 1), (0, .int 1), (1, .int 1)]) hx hb dX3_ownerOf_1 rfl hl (by decide) rfl (fun ls hl => ?_)
  refine lv_iconst (v := 0) hx hb dX3_ownerOf_2 ic_0 ?_
  refine lv_istore_n (lv' := [(3, .int 0), (2, .int 1), (0, .int 1), (1, .int 1)]) hx hb dX3_ownerOf_3 rfl hl (by decide) rfl (fun ls hl => ?_)
  refine lv_iload_n hx hb dX3_ownerOf_4 rfl (lv_at hl 0 rfl) ?_
  refine lv_bipush (v := 8) hx hb dX3_ownerOf_5 bp_8 ?_
  refine lv_icmp_ge (tgt := 40) hx hb dX3_ownerOf_7 (by decide) (fun c => absurd c (by decide)) (fun c => ?_)
  refine lv_iload_n hx hb dX3_ownerOf_10 rfl (lv_at hl 1 rfl) ?_
  refine lv_if_lt (tgt := 40) hx hb dX3_ownerOf_11 (by decide) (fun c => absurd c (by decide)) (fun c => ?_)
  refine sg_gets hx hb hZ 3 rfl hS hown (hts _ (List.mem_cons_of_mem _ mw_173)) (fun _ h9 => h9) dX3_ownerOf_14 ?_
  refine lv_iload_n hx hb dX3_ownerOf_17 rfl (lv_at hl 1 rfl) ?_
  refine lv_iconst (v := 4) hx hb dX3_ownerOf_18 ic_4 ?_
  refine lv_imul hx hb dX3_ownerOf_19 ?_
  refine W.eq (g2 := F0 m 20 ls [.int 4, .ref (za 3)]) (by rw [show (1 * 4 : Int32) = 4 from by decide]) ?_
  refine lv_iload_n hx hb dX3_ownerOf_20 rfl (lv_at hl 3 rfl) ?_
  refine lv_iadd hx hb dX3_ownerOf_21 ?_
  refine W.eq (g2 := F0 m 22 ls [.int 5, .ref (za 3)]) (by rw [show (4 + 1 : Int32) = 5 from by decide]) ?_
  refine sg_sald hx hb hZ 3 rfl hS (y := 5) (N := 32) (vp_in_iff.mpr (by decide)) dX3_ownerOf_22 ?_
  refine W.eq (g2 := F0 m 23 ls [.int 0]) (by rfl) ?_
  refine lv_if_eq (tgt := 28) hx hb dX3_ownerOf_23 (by decide) (fun c => ?_) (fun c => absurd c (by decide))
  refine sg_gets hx hb hZ 2 rfl hS hown (hts _ (List.mem_cons_of_mem _ mw_174)) (fun _ h9 => h9) dX3_ownerOf_28 ?_
  refine lv_iload_n hx hb dX3_ownerOf_31 rfl (lv_at hl 1 rfl) ?_
  refine sg_sald hx hb hZ 2 rfl hS (y := 1) (N := 8) (vp_in_iff.mpr (by decide)) dX3_ownerOf_32 ?_
  refine W.eq (g2 := F0 m 33 ls [.int 0]) (by rfl) ?_
  refine lv_istore_n (lv' := [(2, .int 0), (3, .int 0), (0, .int 1), (1, .int 1)]) hx hb dX3_ownerOf_33 rfl hl (by decide) rfl (fun ls hl => ?_)
  refine lv_iinc (v := 1) (lv' := [(3, .int 1), (2, .int 0), (0, .int 1), (1, .int 1)]) hx hb dX3_ownerOf_34 hl (k := 1) rfl (by decide) (by decide) rfl (fun ls hl => ?_)
  refine lv_goto (tgt := 4) hx hb dX3_ownerOf_37 (by decide) ?_
  refine lv_iload_n hx hb dX3_ownerOf_4 rfl (lv_at hl 0 rfl) ?_
  refine lv_bipush (v := 8) hx hb dX3_ownerOf_5 bp_8 ?_
  refine lv_icmp_ge (tgt := 40) hx hb dX3_ownerOf_7 (by decide) (fun c => absurd c (by decide)) (fun c => ?_)
  refine lv_iload_n hx hb dX3_ownerOf_10 rfl (lv_at hl 1 rfl) ?_
  refine lv_if_lt (tgt := 40) hx hb dX3_ownerOf_11 (by decide) (fun c => absurd c (by decide)) (fun c => ?_)
  refine sg_gets hx hb hZ 3 rfl hS hown (hts _ (List.mem_cons_of_mem _ mw_173)) (fun _ h9 => h9) dX3_ownerOf_14 ?_
  refine lv_iload_n hx hb dX3_ownerOf_17 rfl (lv_at hl 1 rfl) ?_
  refine lv_iconst (v := 4) hx hb dX3_ownerOf_18 ic_4 ?_
  refine lv_imul hx hb dX3_ownerOf_19 ?_
  refine W.eq (g2 := F0 m 20 ls [.int 0, .ref (za 3)]) (by rw [show (0 * 4 : Int32) = 0 from by decide]) ?_
  refine lv_iload_n hx hb dX3_ownerOf_20 rfl (lv_at hl 3 rfl) ?_
  refine lv_iadd hx hb dX3_ownerOf_21 ?_
  refine W.eq (g2 := F0 m 22 ls [.int 1, .ref (za 3)]) (by rw [show (0 + 1 : Int32) = 1 from by decide]) ?_
  refine sg_sald hx hb hZ 3 rfl hS (y := 1) (N := 32) (vp_in_iff.mpr (by decide)) dX3_ownerOf_22 ?_
  refine W.eq (g2 := F0 m 23 ls [.int 10]) (by rfl) ?_
  refine lv_if_eq (tgt := 28) hx hb dX3_ownerOf_23 (by decide) (fun c => absurd c (by decide)) (fun c => ?_)
  refine lv_iload_n hx hb dX3_ownerOf_26 rfl (lv_at hl 1 rfl) ?_
  have k99 : (0 : Int32).toInt = 0 := ti_0
  exact hret _ _ _ _ (0) f L Q dX3_ownerOf_27 hP hS ⟨⟨rfl, rfl, rfl⟩, (by decide), (Eq.trans (Eq.symm hs) hsp)⟩

set_option maxHeartbeats 4000000 in
set_option maxRecDepth 100000 in
theorem kX3_runs_1_m1_3_f3_f1 (l : Launch) (D : va_G) (ca : Nat → ClassId) (za h : Nat → Nat) (hh : sgH 52 h) (f : sg_F) (L : sg_L) (Q : sg_Q) (hI : sgI loX hiX f) (x2 : Int32) (hf_36_3 : f 36 3 = 3) (hf_36_4 : f 36 4 = 1) (p0 : 3 ≤ (f 36 3).toInt ∧ (f 36 3).toInt ≤ 3) (sz : Nat) : Met l yX3_runs gwX3_runs { frames := 0, cells := 0, slots := 0, locals := 0 } (sgP D vwCl (tyX ca) 52 h (eX ca h) zcX za f L Q sz [.ref (h 36), .int 1, .int (-1), .int x2, .int 3]) (sgQi D vwCl 52 h (eX ca h) sz (fun r f1 L1 Q1 => ((f1 = f ∧ L1 = L ∧ Q1 = Q) ∧ True ∧ (3 ≤ (f1 36 3).toInt ∧ (f1 36 3).toInt ≤ 3) ∧ (r) = sX3_runs_1_m1_3_f3_f1 x2 f L))) 0 0 (sgA 52 h sz) := by
  refine sg_ofWi (cc := cX3_runs) (maxL := 5) RX3 (by decide) rfl rfl (Nat.le_of_ble_eq_true rfl) ?_
  intro p e s m below meth cd Qz ls hx hb hml hown hts hK hZ hP hS hl hret
  have hA := sgY.self (n := 52) (h := h) (sz := s.heap.size)
  have hl : lv_has ls 5 [(0, .ref (h 36)), (1, .int 1), (2, .int (-1)), (3, .int x2), (4, .int 3)] := hl
  obtain ⟨H, hH⟩ : ∃ z : Heap, z = s.heap := ⟨_, rfl⟩
  obtain ⟨locs, hlo⟩ : ∃ z : List Loc, z = [] := ⟨_, rfl⟩
  have hP : va_P D vwCl (sgw 52 h (eX ca h) f L Q) H := by rw [hH]; exact hP
  have hS : va_S (sgA 52 h s.heap.size) s.heap H locs := by rw [hH, hlo]; exact hS
  suffices hgo : W p l e ({ frames := 0, cells := 0, slots := 0, locals := 0 }) s m ([.ref (h 36), .int 1, .int (-1), .int x2, .int 3] : List Value).toArray below meth cd H locs 0 0 Qz (F0 m 0 ls []) by rw [hH, hlo] at hgo; exact hgo
  clear hH hlo
  obtain ⟨sp, hsp⟩ : ∃ z : Int32, z = sX3_runs_1_m1_3_f3_f1 x2 f L := ⟨_, rfl⟩
  have hs : sp = sX3_runs_1_m1_3_f3_f1 x2 f L := hsp
  have o_1 : (f 36 3).toInt = 3 := (congrArg Int32.toInt (show f 36 3 = 3 from hf_36_3)).trans (by decide)
  refine lv_iload_n hx hb dX3_runs_0 rfl (lv_at hl 1 rfl) ?_
  refine lv_lookup (x := 1) (off := 115) (tgt := 116) hx hb dX3_runs_1 (by decide) (by decide) (by decide) ?_
  refine lv_iload_n hx hb dX3_runs_116 rfl (lv_at hl 3 rfl) ?_
  refine lv_aload_n hx hb dX3_runs_117 rfl (lv_at hl 0 rfl) ?_
  refine sl_gX_36_5_3 (v := (f 36 5)) hx hb hts hown hK hP rfl dX3_runs_118 ?_
  refine lv_topi (fun v_2 ev_2 => ?_)
  have q_3 : 0 ≤ v_2.toInt ∧ v_2.toInt ≤ 49 := by rw [ev_2]; exact hI 36 5
  refine lv_iadd hx hb dX3_runs_121 ?_
  refine lv_topi (fun v_4 ev_4 => ?_)
  have q_5 : (f 36 3).toInt = 3 := (congrArg Int32.toInt (show f 36 3 = 3 from hf_36_3)).trans (by decide)
  exact hret _ _ _ _ (v_4) f L Q dX3_runs_122 hP hS ⟨⟨rfl, rfl, rfl⟩, trivial, ⟨by omega, by omega⟩, (Eq.trans (Eq.symm (hs.trans ((spl_e ev_2 (spl_e ev_4 rfl))))) hsp)⟩

abbrev WkX3_does_0_0_2_f2_f1 : List (Nat × Nat × Option Nat) := [(36, 36, some 3), (38, 38, some 2)]
set_option maxHeartbeats 4000000 in
set_option maxRecDepth 100000 in
theorem kX3_does_0_0_2_f2_f1 (l : Launch) (D : va_G) (ca : Nat → ClassId) (za h : Nat → Nat) (hh : sgH 52 h) (f : sg_F) (L : sg_L) (Q : sg_Q) (hI : sgI loX hiX f) (x2 : Int32) (hf_36_3 : f 36 3 = 2) (hf_36_4 : f 36 4 = 1) (p0 : 2 ≤ (f 36 3).toInt ∧ (f 36 3).toInt ≤ 2) (sz : Nat) : Met l yX3_does gwX3_does { frames := 1, cells := 0, slots := 0, locals := 24 } (sgP D vwCl (tyX ca) 52 h (eX ca h) zcX za f L Q sz [.ref (h 36), .int 0, .int 0, .int x2, .int 2]) (sgQi D vwCl 52 h (eX ca h) sz (fun r f1 L1 Q1 => ((sgI loX hiX f1 ∧ sgK WkX3_does_0_0_2_f2_f1 f f1 ∧ L1 = L ∧ Q1 = Q) ∧ True ∧ (3 ≤ (f1 36 3).toInt ∧ (f1 36 3).toInt ≤ 3) ∧ (r, f1) = sX3_does_0_0_2_f2_f1 x2 f L))) 0 0 (sgA 52 h sz) := by
  refine sg_ofWi (cc := cX3_does) (maxL := 7) RX3 (by decide) rfl rfl (Nat.le_of_ble_eq_true rfl) ?_
  intro p e s m below meth cd Qz ls hx hb hml hown hts hK hZ hP hS hl hret
  have hA := sgY.self (n := 52) (h := h) (sz := s.heap.size)
  have hl : lv_has ls 7 [(0, .ref (h 36)), (1, .int 0), (2, .int 0), (3, .int x2), (4, .int 2)] := hl
  obtain ⟨H, hH⟩ : ∃ z : Heap, z = s.heap := ⟨_, rfl⟩
  obtain ⟨locs, hlo⟩ : ∃ z : List Loc, z = [] := ⟨_, rfl⟩
  have hP : va_P D vwCl (sgw 52 h (eX ca h) f L Q) H := by rw [hH]; exact hP
  have hS : va_S (sgA 52 h s.heap.size) s.heap H locs := by rw [hH, hlo]; exact hS
  suffices hgo : W p l e ({ frames := 1, cells := 0, slots := 0, locals := 24 }) s m ([.ref (h 36), .int 0, .int 0, .int x2, .int 2] : List Value).toArray below meth cd H locs 0 0 Qz (F0 m 0 ls []) by rw [hH, hlo] at hgo; exact hgo
  clear hH hlo
  obtain ⟨sp, hsp⟩ : ∃ z : Int32 × sg_F, z = sX3_does_0_0_2_f2_f1 x2 f L := ⟨_, rfl⟩
  have hs : sp = sX3_does_0_0_2_f2_f1 x2 f L := hsp
  have o_1 : (f 36 3).toInt = 2 := (congrArg Int32.toInt (show f 36 3 = 2 from hf_36_3)).trans (by decide)
  have hF : sgK WkX3_does_0_0_2_f2_f1 f f := sgK.rf
  have blk_53 : ∀ (fp_53 : sg_F) (H : Heap) (locs : List Loc) (ls : Array Slot), sp = sX3_does_0_0_2_f2_f1_b53 x2 fp_53 L → 2 ≤ (fp_53 36 3).toInt ∧ (fp_53 36 3).toInt ≤ 2 → 1 ≤ (fp_53 36 4).toInt ∧ (fp_53 36 4).toInt ≤ 1 → sgI loX hiX fp_53 → sgK WkX3_does_0_0_2_f2_f1 f fp_53 → va_P D vwCl (sgw 52 h (eX ca h) fp_53 L Q) H → va_S (sgA 52 h s.heap.size) s.heap H locs → lv_has ls 7 [(0, .ref (h 36)), (3, .int x2), (4, .int 2), (5, .int 0), (6, .int 1)] → W p l e ({ frames := 1, cells := 0, slots := 0, locals := 24 }) s m ([.ref (h 36), .int 0, .int 0, .int x2, .int 2] : List Value).toArray below meth cd H locs 0 0 Qz (F0 m 53 ls []) := by
    intro fp_53 H locs ls hs hy0_53 hy1_53 hI hF hP hS hl
    obtain ⟨v_2, ev_2⟩ : ∃ z : Int32, z = fp_53 36 3 := ⟨_, rfl⟩
    have q_3 : 0 ≤ v_2.toInt ∧ v_2.toInt ≤ 19 := by rw [ev_2]; exact hI 36 3
    have q_4 : (fp_53 36 3).toInt = v_2.toInt := by rw [ev_2]
    obtain ⟨v_5, ev_5⟩ : ∃ z : Int32, z = fp_53 36 4 := ⟨_, rfl⟩
    have q_6 : 0 ≤ v_5.toInt ∧ v_5.toInt ≤ 7 := by rw [ev_5]; exact hI 36 4
    have q_7 : (fp_53 36 4).toInt = v_5.toInt := by rw [ev_5]
    have m_8 : fp_53 36 4 = 1 := (hF 36 4 (by decide)).trans hf_36_4
    refine lv_aload_n hx hb dX3_does_53 rfl (lv_at hl 0 rfl) ?_
    refine lv_dup hx hb dX3_does_54 rfl ?_
    refine sl_gX_36_3_3 (v := v_2) hx hb hts hown hK hP (show fp_53 36 3 = v_2 from ev_2.symm) dX3_does_55 ?_
    refine lv_iconst (v := 1) hx hb dX3_does_58 ic_1 ?_
    refine lv_iadd hx hb dX3_does_59 ?_
    refine lv_topi (fun v_9 ev_9 => ?_)
    have q_10 : v_9.toInt = v_2.toInt + 1 := by rw [ev_9]; first | exact cm_add ti_1 (by omega) (by omega) | (have k1 : (1 : Int32).toInt = 1 := ti_1; exact (bn_addI (by omega) (by omega)).trans (by omega))
    refine sl_pX_36_3_3 (x := v_9) hx hb hts hown hh hA hK hP hS dX3_does_60 (fun f_11 H locs ef_11 hP hS => ?_)
    have hI : sgI loX hiX f_11 := by rw [ef_11]; exact sgI.put hI 36 3 (show 0 ≤ (v_9 : Int32).toInt ∧ (v_9 : Int32).toInt ≤ 19 from ⟨by omega, by omega⟩)
    have hF : sgK WkX3_does_0_0_2_f2_f1 f f_11 := sgK.put hF ef_11 (by rfl)
    refine lv_aload_n hx hb dX3_does_63 rfl (lv_at hl 0 rfl) ?_
    refine lv_iload hx hb dX3_does_64 (lv_at hl 4 rfl) ?_
    refine sg_gets hx hb hZ 2 rfl hS hown (hts _ (List.mem_cons_of_mem _ mw_174)) (fun _ h9 => h9) dX3_does_66 ?_
    refine lv_iload hx hb dX3_does_69 (lv_at hl 3 rfl) ?_
    refine sg_sald hx hb hZ 2 rfl hS (y := 0) (N := 8) (vp_in_iff.mpr (by decide)) dX3_does_71 ?_
    refine W.eq (g2 := F0 m 72 ls [.int (-1), .int 1, .ref (h 36)]) (by rfl) ?_
    refine lv_iload_n hx hb dX3_does_72 rfl (lv_at hl 1 rfl) ?_
    refine lv_iload hx hb dX3_does_73 (lv_at hl 2 rfl) ?_
    refine lv_iconst (v := 1) hx hb dX3_does_75 ic_1 ?_
    refine lv_iadd hx hb dX3_does_76 ?_
    refine W.eq (g2 := F0 m 77 ls [.int 3, .int x2, .int (-1), .int 1, .ref (h 36)]) (by rw [show (2 + 1 : Int32) = 3 from by decide]) ?_
    have c_12 : v_9 = 3 := Int32.toInt_inj.mp (by have k9 : (3 : Int32).toInt = 3 := ti_3; omega)
    have q_13 : (f_11 36 3).toInt = 3 := (congrArg Int32.toInt (show f_11 36 3 = 3 from (Eq.trans (by rw [ef_11, sg_up_s, sgu_s]) c_12))).trans (by decide)
    refine sg_calli (va_runV (As := [.int 1, .int (-1), .int x2, .int 3]) (rest := []) ⟨hx, hb, hml, hown, hts⟩ (kX3_runs_1_m1_3_f3_f1 l D ca za h hh f_11 L Q hI x2 (Eq.trans (by rw [ef_11, sg_up_s, sgu_s]) c_12) (by rw [ef_11, sg_up_s, sgu_n (by decide)]; exact m_8) (by have k0 : (1 : Int32).toInt = 1 := ti_1; have k1 : ((-1) : Int32).toInt = (-1) := ti_m1; have k3 : (3 : Int32).toInt = 3 := ti_3; omega) H.size) (sl_c3_runs_0_0_0_0_3 hts ⟨Nat.le_of_ble_eq_true rfl, Nat.le_of_ble_eq_true rfl⟩) (sl_vX_36 hA hK hP hS hZ) rfl rfl hl.1 rfl (lv_room (Nat.le_of_ble_eq_true rfl)) dX3_does_77 ⟨Nat.le_refl _, Nat.le_refl _⟩) hA hS (fun r_18 f_15 L_16 Q_17 H locs hq hP hS => ?_)
    obtain ⟨⟨ef9, eL9, eQ9⟩, hq, p_19, u_20⟩ := hq
    rw [ef9, eL9, eQ9] at hP; clear ef9 eL9 eQ9
    have k_23 : (1 : Int32).toInt = 1 := by decide
    have k_24 : ((-1) : Int32).toInt = (-1) := by decide
    have k_25 : (3 : Int32).toInt = 3 := by decide
    exact hret _ _ _ _ (r_18) f_11 L Q dX3_does_80 hP hS ⟨⟨hI, hF, rfl, rfl⟩, trivial, ⟨by omega, by omega⟩, (Eq.trans (Eq.symm (hs.trans ((spl_e ev_2 (spl_e ev_5 (spl_e ev_9 (spl_e ef_11 (spl_e u_20 rfl)))))))) hsp)⟩
  refine lv_iload_n hx hb dX3_does_0 rfl (lv_at hl 1 rfl) ?_
  refine lv_iload_n hx hb dX3_does_1 rfl (lv_at hl 2 rfl) ?_
  refine sg_calli (va_runS (As := [.int 0, .int 0]) (rest := []) ⟨hx, hb, hml, hown, hts⟩ (kX3_ownerOf_0_0 l D ca za h hh f L Q hI H.size) (va_cwS 2 hts (gw_S (fun _ h => List.mem_cons_of_mem _ h) mw_189 mw_190 mw_47 mw_188) rfl rfl rfl hd_yX3_ownerOf.2 ⟨Nat.le_of_ble_eq_true rfl, Nat.le_of_ble_eq_true rfl⟩) (sg_preS hA hK hP hS hZ) rfl rfl hl.1 rfl (lv_room (Nat.le_of_ble_eq_true rfl)) dX3_does_2 ⟨Nat.le_refl _, Nat.le_refl _⟩) hA hS (fun r_31 f_28 L_29 Q_30 H locs hq hP hS => ?_)
  obtain ⟨⟨ef9, eL9, eQ9⟩, hq, u_32⟩ := hq
  rw [ef9, eL9, eQ9] at hP; clear ef9 eL9 eQ9
  obtain rfl : r_31 = 0 := Int32.toInt_inj.mp (by have k9 : (0 : Int32).toInt = 0 := ti_0; omega)
  refine lv_istore (lv' := [(5, .int 0), (0, .ref (h 36)), (1, .int 0), (2, .int 0), (3, .int x2), (4, .int 2)]) hx hb dX3_does_5 hl (by decide) rfl (fun ls hl => ?_)
  refine lv_iload hx hb dX3_does_7 (lv_at hl 0 rfl) ?_
  refine lv_if_lt (tgt := 19) hx hb dX3_does_9 (by decide) (fun c => absurd c (by decide)) (fun c => ?_)
  refine lv_iload hx hb dX3_does_12 (lv_at hl 5 rfl) ?_
  refine lv_bipush (v := 40) hx hb dX3_does_14 bp_40 ?_
  refine lv_icmp_le (tgt := 21) hx hb dX3_does_16 (by decide) (fun c => ?_) (fun c => absurd c (by decide))
  refine sg_gets hx hb hZ 3 rfl hS hown (hts _ (List.mem_cons_of_mem _ mw_173)) (fun _ h9 => h9) dX3_does_21 ?_
  refine lv_iload hx hb dX3_does_24 (lv_at hl 0 rfl) ?_
  refine lv_iconst (v := 4) hx hb dX3_does_26 ic_4 ?_
  refine lv_imul hx hb dX3_does_27 ?_
  refine W.eq (g2 := F0 m 28 ls [.int 0, .ref (za 3)]) (by rw [show (0 * 4 : Int32) = 0 from by decide]) ?_
  refine lv_iload_n hx hb dX3_does_28 rfl (lv_at hl 3 rfl) ?_
  refine lv_iadd hx hb dX3_does_29 ?_
  refine W.eq (g2 := F0 m 30 ls [.int 0, .ref (za 3)]) (by rw [show (0 + 0 : Int32) = 0 from by decide]) ?_
  refine sg_sald hx hb hZ 3 rfl hS (y := 0) (N := 32) (vp_in_iff.mpr (by decide)) dX3_does_30 ?_
  refine W.eq (g2 := F0 m 31 ls [.int 1]) (by rfl) ?_
  refine lv_istore (lv' := [(6, .int 1), (5, .int 0), (0, .ref (h 36)), (1, .int 0), (2, .int 0), (3, .int x2), (4, .int 2)]) hx hb dX3_does_31 hl (by decide) rfl (fun ls hl => ?_)
  refine lv_aload_n hx hb dX3_does_33 rfl (lv_at hl 2 rfl) ?_
  refine sl_gX_36_3_3 (v := 2) hx hb hts hown hK hP (show f 36 3 = 2 from hf_36_3) dX3_does_34 ?_
  refine lv_bipush (v := 24) hx hb dX3_does_37 bp_24 ?_
  refine lv_icmp_ge (tgt := 53) hx hb dX3_does_39 (by decide) (fun c => absurd c (by decide)) (fun c => ?_)
  refine lv_aload_n hx hb dX3_does_42 rfl (lv_at hl 2 rfl) ?_
  refine sl_gX_36_1_3 hx hb hts hown hK hP dX3_does_43 ?_
  refine lv_aload_n hx hb dX3_does_46 rfl (lv_at hl 2 rfl) ?_
  refine sl_gX_36_3_3 (v := 2) hx hb hts hown hK hP (show f 36 3 = 2 from hf_36_3) dX3_does_47 ?_
  refine lv_iload hx hb dX3_does_50 (lv_at hl 0 rfl) ?_
  refine sg_iast hx hb hh hA hK hP hS 38 (by decide) 0 (fun _ => rfl) rfl (i := 2) (x := 1) (vp_in_iff.mpr (by decide)) dX3_does_52 (fun f_33 H locs ef_33 hP hS => ?_)
  have ef_33 : f_33 = sg_up f 38 (sgu (f 38) 2 1) := ef_33
  have hI : sgI loX hiX f_33 := by rw [ef_33]; exact sgI.put hI 38 2 (show 0 ≤ (1 : Int32).toInt ∧ (1 : Int32).toInt ≤ 81 from by decide)
  have hF : sgK WkX3_does_0_0_2_f2_f1 f f_33 := sgK.put hF ef_33 (by rfl)
  exact blk_53 f_33 _ _ _ (hs.trans ((spl_e u_32 (spl_e ef_33 rfl)))) (by have zz36_3 : (f_33 36 3).toInt = 2 := (congrArg Int32.toInt (show f_33 36 3 = 2 from (by rw [ef_33, sg_up_n (by decide)]; exact hf_36_3))).trans (by decide); exact ⟨by omega, by omega⟩) (by have zz36_4 : (f_33 36 4).toInt = 1 := (congrArg Int32.toInt (show f_33 36 4 = 1 from (by rw [ef_33, sg_up_n (by decide)]; exact hf_36_4))).trans (by decide); exact ⟨by omega, by omega⟩) hI hF hP hS (lv_sub hl [2, 5, 6, 1, 0] rfl)

abbrev WkX3_runs_20_0_2_f2_f1 : List (Nat × Nat × Option Nat) := [(36, 36, some 3), (38, 38, some 2)]
set_option maxHeartbeats 4000000 in
set_option maxRecDepth 100000 in
theorem kX3_runs_20_0_2_f2_f1 (l : Launch) (D : va_G) (ca : Nat → ClassId) (za h : Nat → Nat) (hh : sgH 52 h) (f : sg_F) (L : sg_L) (Q : sg_Q) (hI : sgI loX hiX f) (x2 : Int32) (hf_36_3 : f 36 3 = 2) (hf_36_4 : f 36 4 = 1) (p0 : 2 ≤ (f 36 3).toInt ∧ (f 36 3).toInt ≤ 2) (sz : Nat) : Met l yX3_runs gwX3_runs { frames := 2, cells := 0, slots := 0, locals := 50 } (sgP D vwCl (tyX ca) 52 h (eX ca h) zcX za f L Q sz [.ref (h 36), .int 20, .int 0, .int x2, .int 2]) (sgQi D vwCl 52 h (eX ca h) sz (fun r f1 L1 Q1 => ((sgI loX hiX f1 ∧ sgK WkX3_runs_20_0_2_f2_f1 f f1 ∧ L1 = L ∧ Q1 = Q) ∧ True ∧ (3 ≤ (f1 36 3).toInt ∧ (f1 36 3).toInt ≤ 3) ∧ (r, f1) = sX3_runs_20_0_2_f2_f1 x2 f L))) 0 0 (sgA 52 h sz) := by
  refine sg_ofWi (cc := cX3_runs) (maxL := 5) RX3 (by decide) rfl rfl (Nat.le_of_ble_eq_true rfl) ?_
  intro p e s m below meth cd Qz ls hx hb hml hown hts hK hZ hP hS hl hret
  have hA := sgY.self (n := 52) (h := h) (sz := s.heap.size)
  have hl : lv_has ls 5 [(0, .ref (h 36)), (1, .int 20), (2, .int 0), (3, .int x2), (4, .int 2)] := hl
  obtain ⟨H, hH⟩ : ∃ z : Heap, z = s.heap := ⟨_, rfl⟩
  obtain ⟨locs, hlo⟩ : ∃ z : List Loc, z = [] := ⟨_, rfl⟩
  have hP : va_P D vwCl (sgw 52 h (eX ca h) f L Q) H := by rw [hH]; exact hP
  have hS : va_S (sgA 52 h s.heap.size) s.heap H locs := by rw [hH, hlo]; exact hS
  suffices hgo : W p l e ({ frames := 2, cells := 0, slots := 0, locals := 50 }) s m ([.ref (h 36), .int 20, .int 0, .int x2, .int 2] : List Value).toArray below meth cd H locs 0 0 Qz (F0 m 0 ls []) by rw [hH, hlo] at hgo; exact hgo
  clear hH hlo
  obtain ⟨sp, hsp⟩ : ∃ z : Int32 × sg_F, z = sX3_runs_20_0_2_f2_f1 x2 f L := ⟨_, rfl⟩
  have hs : sp = sX3_runs_20_0_2_f2_f1 x2 f L := hsp
  have o_1 : (f 36 3).toInt = 2 := (congrArg Int32.toInt (show f 36 3 = 2 from hf_36_3)).trans (by decide)
  have hF : sgK WkX3_runs_20_0_2_f2_f1 f f := sgK.rf
  refine lv_iload_n hx hb dX3_runs_0 rfl (lv_at hl 1 rfl) ?_
  refine lv_lookup (x := 20) (off := 170) (tgt := 171) hx hb dX3_runs_1 (by decide) (by decide) (by decide) ?_
  refine lv_aload_n hx hb dX3_runs_171 rfl (lv_at hl 0 rfl) ?_
  refine lv_iload_n hx hb dX3_runs_172 rfl (lv_at hl 2 rfl) ?_
  refine lv_iconst (v := 0) hx hb dX3_runs_173 ic_0 ?_
  refine lv_iload_n hx hb dX3_runs_174 rfl (lv_at hl 3 rfl) ?_
  refine lv_iload hx hb dX3_runs_175 (lv_at hl 4 rfl) ?_
  have q_2 : (f 36 3).toInt = 2 := (congrArg Int32.toInt (show f 36 3 = 2 from hf_36_3)).trans (by decide)
  refine sg_calli (va_runV (As := [.int 0, .int 0, .int x2, .int 2]) (rest := []) ⟨hx, hb, hml, hown, hts⟩ (kX3_does_0_0_2_f2_f1 l D ca za h hh f L Q hI x2 hf_36_3 hf_36_4 (by have k0 : (0 : Int32).toInt = 0 := ti_0; have k1 : (0 : Int32).toInt = 0 := ti_0; have k3 : (2 : Int32).toInt = 2 := ti_2; omega) H.size) (sl_c3_does_1_0_0_24_3 hts ⟨Nat.le_of_ble_eq_true rfl, Nat.le_of_ble_eq_true rfl⟩) (sl_vX_36 hA hK hP hS hZ) rfl rfl hl.1 rfl (lv_room (Nat.le_of_ble_eq_true rfl)) dX3_runs_177 ⟨Nat.le_refl _, Nat.le_refl _⟩) hA hS (fun r_7 f_4 L_5 Q_6 H locs hq hP hS => ?_)
  obtain ⟨⟨hI, hk_f_4, eL9, eQ9⟩, hq, p_8, u_9⟩ := hq
  rw [eL9, eQ9] at hP; clear eL9 eQ9
  have hF : sgK WkX3_runs_20_0_2_f2_f1 f f_4 := sgK.tr hF hk_f_4 (by decide +kernel)
  obtain ⟨v_10, ev_10⟩ : ∃ z : Int32, z = f_4 36 3 := ⟨_, rfl⟩
  have q_11 : 0 ≤ v_10.toInt ∧ v_10.toInt ≤ 19 := by rw [ev_10]; exact hI 36 3
  have q_12 : (f_4 36 3).toInt = v_10.toInt := (congrArg Int32.toInt (show f_4 36 3 = v_10 from ev_10.symm))
  have k_14 : (0 : Int32).toInt = 0 := by decide
  have k_15 : (0 : Int32).toInt = 0 := by decide
  have k_16 : (2 : Int32).toInt = 2 := by decide
  refine lv_iconst (v := 3) hx hb dX3_runs_180 ic_3 ?_
  refine lv_iadd hx hb dX3_runs_181 ?_
  refine lv_topi (fun v_17 ev_17 => ?_)
  exact hret _ _ _ _ (v_17) f_4 L Q dX3_runs_182 hP hS ⟨⟨hI, hF, rfl, rfl⟩, trivial, ⟨by omega, by omega⟩, (Eq.trans (Eq.symm (hs.trans ((spl2_e u_9 (spl_e ev_10 (spl_e ev_17 rfl)))))) hsp)⟩

abbrev WkX3_does_1_0_1_f1_f1 : List (Nat × Nat × Option Nat) := [(36, 36, some 3), (38, 38, some 1), (38, 38, some 2)]
set_option maxHeartbeats 4000000 in
set_option maxRecDepth 100000 in
theorem kX3_does_1_0_1_f1_f1 (l : Launch) (D : va_G) (ca : Nat → ClassId) (za h : Nat → Nat) (hh : sgH 52 h) (f : sg_F) (L : sg_L) (Q : sg_Q) (hI : sgI loX hiX f) (x2 : Int32) (hf_36_3 : f 36 3 = 1) (hf_36_4 : f 36 4 = 1) (p0 : 1 ≤ (f 36 3).toInt ∧ (f 36 3).toInt ≤ 1) (sz : Nat) : Met l yX3_does gwX3_does { frames := 3, cells := 0, slots := 0, locals := 74 } (sgP D vwCl (tyX ca) 52 h (eX ca h) zcX za f L Q sz [.ref (h 36), .int 1, .int 0, .int x2, .int 1]) (sgQi D vwCl 52 h (eX ca h) sz (fun r f1 L1 Q1 => ((sgI loX hiX f1 ∧ sgK WkX3_does_1_0_1_f1_f1 f f1 ∧ L1 = L ∧ Q1 = Q) ∧ True ∧ (3 ≤ (f1 36 3).toInt ∧ (f1 36 3).toInt ≤ 3) ∧ (r, f1) = sX3_does_1_0_1_f1_f1 x2 f L))) 0 0 (sgA 52 h sz) := by
  refine sg_ofWi (cc := cX3_does) (maxL := 7) RX3 (by decide) rfl rfl (Nat.le_of_ble_eq_true rfl) ?_
  intro p e s m below meth cd Qz ls hx hb hml hown hts hK hZ hP hS hl hret
  have hA := sgY.self (n := 52) (h := h) (sz := s.heap.size)
  have hl : lv_has ls 7 [(0, .ref (h 36)), (1, .int 1), (2, .int 0), (3, .int x2), (4, .int 1)] := hl
  obtain ⟨H, hH⟩ : ∃ z : Heap, z = s.heap := ⟨_, rfl⟩
  obtain ⟨locs, hlo⟩ : ∃ z : List Loc, z = [] := ⟨_, rfl⟩
  have hP : va_P D vwCl (sgw 52 h (eX ca h) f L Q) H := by rw [hH]; exact hP
  have hS : va_S (sgA 52 h s.heap.size) s.heap H locs := by rw [hH, hlo]; exact hS
  suffices hgo : W p l e ({ frames := 3, cells := 0, slots := 0, locals := 74 }) s m ([.ref (h 36), .int 1, .int 0, .int x2, .int 1] : List Value).toArray below meth cd H locs 0 0 Qz (F0 m 0 ls []) by rw [hH, hlo] at hgo; exact hgo
  clear hH hlo
  obtain ⟨sp, hsp⟩ : ∃ z : Int32 × sg_F, z = sX3_does_1_0_1_f1_f1 x2 f L := ⟨_, rfl⟩
  have hs : sp = sX3_does_1_0_1_f1_f1 x2 f L := hsp
  have o_1 : (f 36 3).toInt = 1 := (congrArg Int32.toInt (show f 36 3 = 1 from hf_36_3)).trans (by decide)
  have hF : sgK WkX3_does_1_0_1_f1_f1 f f := sgK.rf
  have blk_53 : ∀ (fp_53 : sg_F) (H : Heap) (locs : List Loc) (ls : Array Slot), sp = sX3_does_1_0_1_f1_f1_b53 x2 fp_53 L → 1 ≤ (fp_53 36 3).toInt ∧ (fp_53 36 3).toInt ≤ 1 → 1 ≤ (fp_53 36 4).toInt ∧ (fp_53 36 4).toInt ≤ 1 → sgI loX hiX fp_53 → sgK WkX3_does_1_0_1_f1_f1 f fp_53 → va_P D vwCl (sgw 52 h (eX ca h) fp_53 L Q) H → va_S (sgA 52 h s.heap.size) s.heap H locs → lv_has ls 7 [(0, .ref (h 36)), (3, .int x2), (4, .int 1), (5, .int 1), (6, .int 20)] → W p l e ({ frames := 3, cells := 0, slots := 0, locals := 74 }) s m ([.ref (h 36), .int 1, .int 0, .int x2, .int 1] : List Value).toArray below meth cd H locs 0 0 Qz (F0 m 53 ls []) := by
    intro fp_53 H locs ls hs hy0_53 hy1_53 hI hF hP hS hl
    obtain ⟨v_2, ev_2⟩ : ∃ z : Int32, z = fp_53 36 3 := ⟨_, rfl⟩
    have q_3 : 0 ≤ v_2.toInt ∧ v_2.toInt ≤ 19 := by rw [ev_2]; exact hI 36 3
    have q_4 : (fp_53 36 3).toInt = v_2.toInt := by rw [ev_2]
    obtain ⟨v_5, ev_5⟩ : ∃ z : Int32, z = fp_53 36 4 := ⟨_, rfl⟩
    have q_6 : 0 ≤ v_5.toInt ∧ v_5.toInt ≤ 7 := by rw [ev_5]; exact hI 36 4
    have q_7 : (fp_53 36 4).toInt = v_5.toInt := by rw [ev_5]
    have m_8 : fp_53 36 4 = 1 := (hF 36 4 (by decide)).trans hf_36_4
    refine lv_aload_n hx hb dX3_does_53 rfl (lv_at hl 0 rfl) ?_
    refine lv_dup hx hb dX3_does_54 rfl ?_
    refine sl_gX_36_3_3 (v := v_2) hx hb hts hown hK hP (show fp_53 36 3 = v_2 from ev_2.symm) dX3_does_55 ?_
    refine lv_iconst (v := 1) hx hb dX3_does_58 ic_1 ?_
    refine lv_iadd hx hb dX3_does_59 ?_
    refine lv_topi (fun v_9 ev_9 => ?_)
    have q_10 : v_9.toInt = v_2.toInt + 1 := by rw [ev_9]; first | exact cm_add ti_1 (by omega) (by omega) | (have k1 : (1 : Int32).toInt = 1 := ti_1; exact (bn_addI (by omega) (by omega)).trans (by omega))
    refine sl_pX_36_3_3 (x := v_9) hx hb hts hown hh hA hK hP hS dX3_does_60 (fun f_11 H locs ef_11 hP hS => ?_)
    have hI : sgI loX hiX f_11 := by rw [ef_11]; exact sgI.put hI 36 3 (show 0 ≤ (v_9 : Int32).toInt ∧ (v_9 : Int32).toInt ≤ 19 from ⟨by omega, by omega⟩)
    have hF : sgK WkX3_does_1_0_1_f1_f1 f f_11 := sgK.put hF ef_11 (by rfl)
    refine lv_aload_n hx hb dX3_does_63 rfl (lv_at hl 0 rfl) ?_
    refine lv_iload hx hb dX3_does_64 (lv_at hl 4 rfl) ?_
    refine sg_gets hx hb hZ 2 rfl hS hown (hts _ (List.mem_cons_of_mem _ mw_174)) (fun _ h9 => h9) dX3_does_66 ?_
    refine lv_iload hx hb dX3_does_69 (lv_at hl 3 rfl) ?_
    refine sg_sald hx hb hZ 2 rfl hS (y := 1) (N := 8) (vp_in_iff.mpr (by decide)) dX3_does_71 ?_
    refine W.eq (g2 := F0 m 72 ls [.int 0, .int 20, .ref (h 36)]) (by rfl) ?_
    refine lv_iload_n hx hb dX3_does_72 rfl (lv_at hl 1 rfl) ?_
    refine lv_iload hx hb dX3_does_73 (lv_at hl 2 rfl) ?_
    refine lv_iconst (v := 1) hx hb dX3_does_75 ic_1 ?_
    refine lv_iadd hx hb dX3_does_76 ?_
    refine W.eq (g2 := F0 m 77 ls [.int 2, .int x2, .int 0, .int 20, .ref (h 36)]) (by rw [show (1 + 1 : Int32) = 2 from by decide]) ?_
    have c_12 : v_9 = 2 := Int32.toInt_inj.mp (by have k9 : (2 : Int32).toInt = 2 := ti_2; omega)
    have q_13 : (f_11 36 3).toInt = 2 := (congrArg Int32.toInt (show f_11 36 3 = 2 from (Eq.trans (by rw [ef_11, sg_up_s, sgu_s]) c_12))).trans (by decide)
    refine sg_calli (va_runV (As := [.int 20, .int 0, .int x2, .int 2]) (rest := []) ⟨hx, hb, hml, hown, hts⟩ (kX3_runs_20_0_2_f2_f1 l D ca za h hh f_11 L Q hI x2 (Eq.trans (by rw [ef_11, sg_up_s, sgu_s]) c_12) (by rw [ef_11, sg_up_s, sgu_n (by decide)]; exact m_8) (by have k0 : (20 : Int32).toInt = 20 := ti_20; have k1 : (0 : Int32).toInt = 0 := ti_0; have k3 : (2 : Int32).toInt = 2 := ti_2; omega) H.size) (sl_c3_runs_2_0_0_50_3 hts ⟨Nat.le_of_ble_eq_true rfl, Nat.le_of_ble_eq_true rfl⟩) (sl_vX_36 hA hK hP hS hZ) rfl rfl hl.1 rfl (lv_room (Nat.le_of_ble_eq_true rfl)) dX3_does_77 ⟨Nat.le_refl _, Nat.le_refl _⟩) hA hS (fun r_18 f_15 L_16 Q_17 H locs hq hP hS => ?_)
    obtain ⟨⟨hI, hk_f_15, eL9, eQ9⟩, hq, p_19, u_20⟩ := hq
    rw [eL9, eQ9] at hP; clear eL9 eQ9
    have hF : sgK WkX3_does_1_0_1_f1_f1 f f_15 := sgK.tr hF hk_f_15 (by decide +kernel)
    obtain ⟨v_21, ev_21⟩ : ∃ z : Int32, z = f_15 36 3 := ⟨_, rfl⟩
    have q_22 : 0 ≤ v_21.toInt ∧ v_21.toInt ≤ 19 := by rw [ev_21]; exact hI 36 3
    have q_23 : (f_15 36 3).toInt = v_21.toInt := (congrArg Int32.toInt (show f_15 36 3 = v_21 from ev_21.symm))
    have k_25 : (20 : Int32).toInt = 20 := by decide
    have k_26 : (0 : Int32).toInt = 0 := by decide
    have k_27 : (2 : Int32).toInt = 2 := by decide
    exact hret _ _ _ _ (r_18) f_15 L Q dX3_does_80 hP hS ⟨⟨hI, hF, rfl, rfl⟩, trivial, ⟨by omega, by omega⟩, (Eq.trans (Eq.symm (hs.trans ((spl_e ev_2 (spl_e ev_5 (spl_e ev_9 (spl_e ef_11 (spl2_e u_20 (spl_e ev_21 rfl))))))))) hsp)⟩
  refine lv_iload_n hx hb dX3_does_0 rfl (lv_at hl 1 rfl) ?_
  refine lv_iload_n hx hb dX3_does_1 rfl (lv_at hl 2 rfl) ?_
  refine sg_calli (va_runS (As := [.int 1, .int 0]) (rest := []) ⟨hx, hb, hml, hown, hts⟩ (kX3_ownerOf_1_0 l D ca za h hh f L Q hI H.size) (va_cwS 2 hts (gw_S (fun _ h => List.mem_cons_of_mem _ h) mw_189 mw_190 mw_47 mw_188) rfl rfl rfl hd_yX3_ownerOf.2 ⟨Nat.le_of_ble_eq_true rfl, Nat.le_of_ble_eq_true rfl⟩) (sg_preS hA hK hP hS hZ) rfl rfl hl.1 rfl (lv_room (Nat.le_of_ble_eq_true rfl)) dX3_does_2 ⟨Nat.le_refl _, Nat.le_refl _⟩) hA hS (fun r_33 f_30 L_31 Q_32 H locs hq hP hS => ?_)
  obtain ⟨⟨ef9, eL9, eQ9⟩, hq, u_34⟩ := hq
  rw [ef9, eL9, eQ9] at hP; clear ef9 eL9 eQ9
  obtain rfl : r_33 = 1 := Int32.toInt_inj.mp (by have k9 : (1 : Int32).toInt = 1 := ti_1; omega)
  refine lv_istore (lv' := [(5, .int 1), (0, .ref (h 36)), (1, .int 1), (2, .int 0), (3, .int x2), (4, .int 1)]) hx hb dX3_does_5 hl (by decide) rfl (fun ls hl => ?_)
  refine lv_iload hx hb dX3_does_7 (lv_at hl 0 rfl) ?_
  refine lv_if_lt (tgt := 19) hx hb dX3_does_9 (by decide) (fun c => absurd c (by decide)) (fun c => ?_)
  refine lv_iload hx hb dX3_does_12 (lv_at hl 5 rfl) ?_
  refine lv_bipush (v := 40) hx hb dX3_does_14 bp_40 ?_
  refine lv_icmp_le (tgt := 21) hx hb dX3_does_16 (by decide) (fun c => ?_) (fun c => absurd c (by decide))
  refine sg_gets hx hb hZ 3 rfl hS hown (hts _ (List.mem_cons_of_mem _ mw_173)) (fun _ h9 => h9) dX3_does_21 ?_
  refine lv_iload hx hb dX3_does_24 (lv_at hl 0 rfl) ?_
  refine lv_iconst (v := 4) hx hb dX3_does_26 ic_4 ?_
  refine lv_imul hx hb dX3_does_27 ?_
  refine W.eq (g2 := F0 m 28 ls [.int 4, .ref (za 3)]) (by rw [show (1 * 4 : Int32) = 4 from by decide]) ?_
  refine lv_iload_n hx hb dX3_does_28 rfl (lv_at hl 3 rfl) ?_
  refine lv_iadd hx hb dX3_does_29 ?_
  refine W.eq (g2 := F0 m 30 ls [.int 4, .ref (za 3)]) (by rw [show (4 + 0 : Int32) = 4 from by decide]) ?_
  refine sg_sald hx hb hZ 3 rfl hS (y := 4) (N := 32) (vp_in_iff.mpr (by decide)) dX3_does_30 ?_
  refine W.eq (g2 := F0 m 31 ls [.int 20]) (by rfl) ?_
  refine lv_istore (lv' := [(6, .int 20), (5, .int 1), (0, .ref (h 36)), (1, .int 1), (2, .int 0), (3, .int x2), (4, .int 1)]) hx hb dX3_does_31 hl (by decide) rfl (fun ls hl => ?_)
  refine lv_aload_n hx hb dX3_does_33 rfl (lv_at hl 2 rfl) ?_
  refine sl_gX_36_3_3 (v := 1) hx hb hts hown hK hP (show f 36 3 = 1 from hf_36_3) dX3_does_34 ?_
  refine lv_bipush (v := 24) hx hb dX3_does_37 bp_24 ?_
  refine lv_icmp_ge (tgt := 53) hx hb dX3_does_39 (by decide) (fun c => absurd c (by decide)) (fun c => ?_)
  refine lv_aload_n hx hb dX3_does_42 rfl (lv_at hl 2 rfl) ?_
  refine sl_gX_36_1_3 hx hb hts hown hK hP dX3_does_43 ?_
  refine lv_aload_n hx hb dX3_does_46 rfl (lv_at hl 2 rfl) ?_
  refine sl_gX_36_3_3 (v := 1) hx hb hts hown hK hP (show f 36 3 = 1 from hf_36_3) dX3_does_47 ?_
  refine lv_iload hx hb dX3_does_50 (lv_at hl 0 rfl) ?_
  refine sg_iast hx hb hh hA hK hP hS 38 (by decide) 0 (fun _ => rfl) rfl (i := 1) (x := 20) (vp_in_iff.mpr (by decide)) dX3_does_52 (fun f_35 H locs ef_35 hP hS => ?_)
  have ef_35 : f_35 = sg_up f 38 (sgu (f 38) 1 20) := ef_35
  have hI : sgI loX hiX f_35 := by rw [ef_35]; exact sgI.put hI 38 1 (show 0 ≤ (20 : Int32).toInt ∧ (20 : Int32).toInt ≤ 81 from by decide)
  have hF : sgK WkX3_does_1_0_1_f1_f1 f f_35 := sgK.put hF ef_35 (by rfl)
  exact blk_53 f_35 _ _ _ (hs.trans ((spl_e u_34 (spl_e ef_35 rfl)))) (by have zz36_3 : (f_35 36 3).toInt = 1 := (congrArg Int32.toInt (show f_35 36 3 = 1 from (by rw [ef_35, sg_up_n (by decide)]; exact hf_36_3))).trans (by decide); exact ⟨by omega, by omega⟩) (by have zz36_4 : (f_35 36 4).toInt = 1 := (congrArg Int32.toInt (show f_35 36 4 = 1 from (by rw [ef_35, sg_up_n (by decide)]; exact hf_36_4))).trans (by decide); exact ⟨by omega, by omega⟩) hI hF hP hS (lv_sub hl [2, 5, 6, 1, 0] rfl)

abbrev WkX3_runs_10_m1_1_f1_f1 : List (Nat × Nat × Option Nat) := [(36, 36, some 3), (38, 38, some 1), (38, 38, some 2)]
set_option maxHeartbeats 4000000 in
set_option maxRecDepth 100000 in
theorem kX3_runs_10_m1_1_f1_f1 (l : Launch) (D : va_G) (ca : Nat → ClassId) (za h : Nat → Nat) (hh : sgH 52 h) (f : sg_F) (L : sg_L) (Q : sg_Q) (hI : sgI loX hiX f) (x2 : Int32) (hf_36_3 : f 36 3 = 1) (hf_36_4 : f 36 4 = 1) (p0 : 1 ≤ (f 36 3).toInt ∧ (f 36 3).toInt ≤ 1) (sz : Nat) : Met l yX3_runs gwX3_runs { frames := 4, cells := 0, slots := 0, locals := 100 } (sgP D vwCl (tyX ca) 52 h (eX ca h) zcX za f L Q sz [.ref (h 36), .int 10, .int (-1), .int x2, .int 1]) (sgQi D vwCl 52 h (eX ca h) sz (fun r f1 L1 Q1 => ((sgI loX hiX f1 ∧ sgK WkX3_runs_10_m1_1_f1_f1 f f1 ∧ L1 = L ∧ Q1 = Q) ∧ True ∧ (3 ≤ (f1 36 3).toInt ∧ (f1 36 3).toInt ≤ 3) ∧ (r, f1) = sX3_runs_10_m1_1_f1_f1 x2 f L))) 0 0 (sgA 52 h sz) := by
  refine sg_ofWi (cc := cX3_runs) (maxL := 5) RX3 (by decide) rfl rfl (Nat.le_of_ble_eq_true rfl) ?_
  intro p e s m below meth cd Qz ls hx hb hml hown hts hK hZ hP hS hl hret
  have hA := sgY.self (n := 52) (h := h) (sz := s.heap.size)
  have hl : lv_has ls 5 [(0, .ref (h 36)), (1, .int 10), (2, .int (-1)), (3, .int x2), (4, .int 1)] := hl
  obtain ⟨H, hH⟩ : ∃ z : Heap, z = s.heap := ⟨_, rfl⟩
  obtain ⟨locs, hlo⟩ : ∃ z : List Loc, z = [] := ⟨_, rfl⟩
  have hP : va_P D vwCl (sgw 52 h (eX ca h) f L Q) H := by rw [hH]; exact hP
  have hS : va_S (sgA 52 h s.heap.size) s.heap H locs := by rw [hH, hlo]; exact hS
  suffices hgo : W p l e ({ frames := 4, cells := 0, slots := 0, locals := 100 }) s m ([.ref (h 36), .int 10, .int (-1), .int x2, .int 1] : List Value).toArray below meth cd H locs 0 0 Qz (F0 m 0 ls []) by rw [hH, hlo] at hgo; exact hgo
  clear hH hlo
  obtain ⟨sp, hsp⟩ : ∃ z : Int32 × sg_F, z = sX3_runs_10_m1_1_f1_f1 x2 f L := ⟨_, rfl⟩
  have hs : sp = sX3_runs_10_m1_1_f1_f1 x2 f L := hsp
  have o_1 : (f 36 3).toInt = 1 := (congrArg Int32.toInt (show f 36 3 = 1 from hf_36_3)).trans (by decide)
  have hF : sgK WkX3_runs_10_m1_1_f1_f1 f f := sgK.rf
  refine lv_iload_n hx hb dX3_runs_0 rfl (lv_at hl 1 rfl) ?_
  refine lv_lookup (x := 10) (off := 148) (tgt := 149) hx hb dX3_runs_1 (by decide) (by decide) (by decide) ?_
  refine lv_aload_n hx hb dX3_runs_149 rfl (lv_at hl 0 rfl) ?_
  refine lv_aload_n hx hb dX3_runs_150 rfl (lv_at hl 0 rfl) ?_
  refine sl_gX_36_4_3 (v := 1) hx hb hts hown hK hP (show f 36 4 = 1 from hf_36_4) dX3_runs_151 ?_
  refine lv_iconst (v := 0) hx hb dX3_runs_154 ic_0 ?_
  refine lv_iload_n hx hb dX3_runs_155 rfl (lv_at hl 3 rfl) ?_
  refine lv_iload hx hb dX3_runs_156 (lv_at hl 4 rfl) ?_
  have q_2 : (f 36 3).toInt = 1 := (congrArg Int32.toInt (show f 36 3 = 1 from hf_36_3)).trans (by decide)
  refine sg_calli (va_runV (As := [.int 1, .int 0, .int x2, .int 1]) (rest := []) ⟨hx, hb, hml, hown, hts⟩ (kX3_does_1_0_1_f1_f1 l D ca za h hh f L Q hI x2 hf_36_3 hf_36_4 (by have k0 : (1 : Int32).toInt = 1 := ti_1; have k1 : (0 : Int32).toInt = 0 := ti_0; have k3 : (1 : Int32).toInt = 1 := ti_1; omega) H.size) (sl_c3_does_3_0_0_74_3 hts ⟨Nat.le_of_ble_eq_true rfl, Nat.le_of_ble_eq_true rfl⟩) (sl_vX_36 hA hK hP hS hZ) rfl rfl hl.1 rfl (lv_room (Nat.le_of_ble_eq_true rfl)) dX3_runs_158 ⟨Nat.le_refl _, Nat.le_refl _⟩) hA hS (fun r_7 f_4 L_5 Q_6 H locs hq hP hS => ?_)
  obtain ⟨⟨hI, hk_f_4, eL9, eQ9⟩, hq, p_8, u_9⟩ := hq
  rw [eL9, eQ9] at hP; clear eL9 eQ9
  have hF : sgK WkX3_runs_10_m1_1_f1_f1 f f_4 := sgK.tr hF hk_f_4 (by decide +kernel)
  obtain ⟨v_10, ev_10⟩ : ∃ z : Int32, z = f_4 36 3 := ⟨_, rfl⟩
  have q_11 : 0 ≤ v_10.toInt ∧ v_10.toInt ≤ 19 := by rw [ev_10]; exact hI 36 3
  have q_12 : (f_4 36 3).toInt = v_10.toInt := (congrArg Int32.toInt (show f_4 36 3 = v_10 from ev_10.symm))
  have k_14 : (1 : Int32).toInt = 1 := by decide
  have k_15 : (0 : Int32).toInt = 0 := by decide
  have k_16 : (1 : Int32).toInt = 1 := by decide
  refine lv_iconst (v := 2) hx hb dX3_runs_161 ic_2 ?_
  refine lv_imul hx hb dX3_runs_162 ?_
  refine lv_topi (fun v_17 ev_17 => ?_)
  exact hret _ _ _ _ (v_17) f_4 L Q dX3_runs_163 hP hS ⟨⟨hI, hF, rfl, rfl⟩, trivial, ⟨by omega, by omega⟩, (Eq.trans (Eq.symm (hs.trans ((spl2_e u_9 (spl_e ev_10 (spl_e ev_17 rfl)))))) hsp)⟩

abbrev WkX3_does_1_1_0_f0_f1 : List (Nat × Nat × Option Nat) := [(36, 36, some 3), (38, 38, some 0), (38, 38, some 1), (38, 38, some 2)]
set_option maxHeartbeats 4000000 in
set_option maxRecDepth 100000 in
theorem kX3_does_1_1_0_f0_f1 (l : Launch) (D : va_G) (ca : Nat → ClassId) (za h : Nat → Nat) (hh : sgH 52 h) (f : sg_F) (L : sg_L) (Q : sg_Q) (hI : sgI loX hiX f) (x2 : Int32) (hf_36_3 : f 36 3 = 0) (hf_36_4 : f 36 4 = 1) (p0 : 0 ≤ (f 36 3).toInt ∧ (f 36 3).toInt ≤ 0) (sz : Nat) : Met l yX3_does gwX3_does { frames := 5, cells := 0, slots := 0, locals := 124 } (sgP D vwCl (tyX ca) 52 h (eX ca h) zcX za f L Q sz [.ref (h 36), .int 1, .int 1, .int x2, .int 0]) (sgQi D vwCl 52 h (eX ca h) sz (fun r f1 L1 Q1 => ((sgI loX hiX f1 ∧ sgK WkX3_does_1_1_0_f0_f1 f f1 ∧ L1 = L ∧ Q1 = Q) ∧ True ∧ (3 ≤ (f1 36 3).toInt ∧ (f1 36 3).toInt ≤ 3) ∧ (r, f1) = sX3_does_1_1_0_f0_f1 x2 f L))) 0 0 (sgA 52 h sz) := by
  refine sg_ofWi (cc := cX3_does) (maxL := 7) RX3 (by decide) rfl rfl (Nat.le_of_ble_eq_true rfl) ?_
  intro p e s m below meth cd Qz ls hx hb hml hown hts hK hZ hP hS hl hret
  have hA := sgY.self (n := 52) (h := h) (sz := s.heap.size)
  have hl : lv_has ls 7 [(0, .ref (h 36)), (1, .int 1), (2, .int 1), (3, .int x2), (4, .int 0)] := hl
  obtain ⟨H, hH⟩ : ∃ z : Heap, z = s.heap := ⟨_, rfl⟩
  obtain ⟨locs, hlo⟩ : ∃ z : List Loc, z = [] := ⟨_, rfl⟩
  have hP : va_P D vwCl (sgw 52 h (eX ca h) f L Q) H := by rw [hH]; exact hP
  have hS : va_S (sgA 52 h s.heap.size) s.heap H locs := by rw [hH, hlo]; exact hS
  suffices hgo : W p l e ({ frames := 5, cells := 0, slots := 0, locals := 124 }) s m ([.ref (h 36), .int 1, .int 1, .int x2, .int 0] : List Value).toArray below meth cd H locs 0 0 Qz (F0 m 0 ls []) by rw [hH, hlo] at hgo; exact hgo
  clear hH hlo
  obtain ⟨sp, hsp⟩ : ∃ z : Int32 × sg_F, z = sX3_does_1_1_0_f0_f1 x2 f L := ⟨_, rfl⟩
  have hs : sp = sX3_does_1_1_0_f0_f1 x2 f L := hsp
  have o_1 : (f 36 3).toInt = 0 := (congrArg Int32.toInt (show f 36 3 = 0 from hf_36_3)).trans (by decide)
  have hF : sgK WkX3_does_1_1_0_f0_f1 f f := sgK.rf
  have blk_53 : ∀ (fp_53 : sg_F) (H : Heap) (locs : List Loc) (ls : Array Slot), sp = sX3_does_1_1_0_f0_f1_b53 x2 fp_53 L → 0 ≤ (fp_53 36 3).toInt ∧ (fp_53 36 3).toInt ≤ 0 → 1 ≤ (fp_53 36 4).toInt ∧ (fp_53 36 4).toInt ≤ 1 → sgI loX hiX fp_53 → sgK WkX3_does_1_1_0_f0_f1 f fp_53 → va_P D vwCl (sgw 52 h (eX ca h) fp_53 L Q) H → va_S (sgA 52 h s.heap.size) s.heap H locs → lv_has ls 7 [(0, .ref (h 36)), (3, .int x2), (4, .int 0), (5, .int 0), (6, .int 10)] → W p l e ({ frames := 5, cells := 0, slots := 0, locals := 124 }) s m ([.ref (h 36), .int 1, .int 1, .int x2, .int 0] : List Value).toArray below meth cd H locs 0 0 Qz (F0 m 53 ls []) := by
    intro fp_53 H locs ls hs hy0_53 hy1_53 hI hF hP hS hl
    obtain ⟨v_2, ev_2⟩ : ∃ z : Int32, z = fp_53 36 3 := ⟨_, rfl⟩
    have q_3 : 0 ≤ v_2.toInt ∧ v_2.toInt ≤ 19 := by rw [ev_2]; exact hI 36 3
    have q_4 : (fp_53 36 3).toInt = v_2.toInt := by rw [ev_2]
    obtain ⟨v_5, ev_5⟩ : ∃ z : Int32, z = fp_53 36 4 := ⟨_, rfl⟩
    have q_6 : 0 ≤ v_5.toInt ∧ v_5.toInt ≤ 7 := by rw [ev_5]; exact hI 36 4
    have q_7 : (fp_53 36 4).toInt = v_5.toInt := by rw [ev_5]
    have m_8 : fp_53 36 4 = 1 := (hF 36 4 (by decide)).trans hf_36_4
    refine lv_aload_n hx hb dX3_does_53 rfl (lv_at hl 0 rfl) ?_
    refine lv_dup hx hb dX3_does_54 rfl ?_
    refine sl_gX_36_3_3 (v := v_2) hx hb hts hown hK hP (show fp_53 36 3 = v_2 from ev_2.symm) dX3_does_55 ?_
    refine lv_iconst (v := 1) hx hb dX3_does_58 ic_1 ?_
    refine lv_iadd hx hb dX3_does_59 ?_
    refine lv_topi (fun v_9 ev_9 => ?_)
    have q_10 : v_9.toInt = v_2.toInt + 1 := by rw [ev_9]; first | exact cm_add ti_1 (by omega) (by omega) | (have k1 : (1 : Int32).toInt = 1 := ti_1; exact (bn_addI (by omega) (by omega)).trans (by omega))
    refine sl_pX_36_3_3 (x := v_9) hx hb hts hown hh hA hK hP hS dX3_does_60 (fun f_11 H locs ef_11 hP hS => ?_)
    have hI : sgI loX hiX f_11 := by rw [ef_11]; exact sgI.put hI 36 3 (show 0 ≤ (v_9 : Int32).toInt ∧ (v_9 : Int32).toInt ≤ 19 from ⟨by omega, by omega⟩)
    have hF : sgK WkX3_does_1_1_0_f0_f1 f f_11 := sgK.put hF ef_11 (by rfl)
    refine lv_aload_n hx hb dX3_does_63 rfl (lv_at hl 0 rfl) ?_
    refine lv_iload hx hb dX3_does_64 (lv_at hl 4 rfl) ?_
    refine sg_gets hx hb hZ 2 rfl hS hown (hts _ (List.mem_cons_of_mem _ mw_174)) (fun _ h9 => h9) dX3_does_66 ?_
    refine lv_iload hx hb dX3_does_69 (lv_at hl 3 rfl) ?_
    refine sg_sald hx hb hZ 2 rfl hS (y := 0) (N := 8) (vp_in_iff.mpr (by decide)) dX3_does_71 ?_
    refine W.eq (g2 := F0 m 72 ls [.int (-1), .int 10, .ref (h 36)]) (by rfl) ?_
    refine lv_iload_n hx hb dX3_does_72 rfl (lv_at hl 1 rfl) ?_
    refine lv_iload hx hb dX3_does_73 (lv_at hl 2 rfl) ?_
    refine lv_iconst (v := 1) hx hb dX3_does_75 ic_1 ?_
    refine lv_iadd hx hb dX3_does_76 ?_
    refine W.eq (g2 := F0 m 77 ls [.int 1, .int x2, .int (-1), .int 10, .ref (h 36)]) (by rw [show (0 + 1 : Int32) = 1 from by decide]) ?_
    have c_12 : v_9 = 1 := Int32.toInt_inj.mp (by have k9 : (1 : Int32).toInt = 1 := ti_1; omega)
    have q_13 : (f_11 36 3).toInt = 1 := (congrArg Int32.toInt (show f_11 36 3 = 1 from (Eq.trans (by rw [ef_11, sg_up_s, sgu_s]) c_12))).trans (by decide)
    refine sg_calli (va_runV (As := [.int 10, .int (-1), .int x2, .int 1]) (rest := []) ⟨hx, hb, hml, hown, hts⟩ (kX3_runs_10_m1_1_f1_f1 l D ca za h hh f_11 L Q hI x2 (Eq.trans (by rw [ef_11, sg_up_s, sgu_s]) c_12) (by rw [ef_11, sg_up_s, sgu_n (by decide)]; exact m_8) (by have k0 : (10 : Int32).toInt = 10 := ti_10; have k1 : ((-1) : Int32).toInt = (-1) := ti_m1; have k3 : (1 : Int32).toInt = 1 := ti_1; omega) H.size) (sl_c3_runs_4_0_0_100_3 hts ⟨Nat.le_of_ble_eq_true rfl, Nat.le_of_ble_eq_true rfl⟩) (sl_vX_36 hA hK hP hS hZ) rfl rfl hl.1 rfl (lv_room (Nat.le_of_ble_eq_true rfl)) dX3_does_77 ⟨Nat.le_refl _, Nat.le_refl _⟩) hA hS (fun r_18 f_15 L_16 Q_17 H locs hq hP hS => ?_)
    obtain ⟨⟨hI, hk_f_15, eL9, eQ9⟩, hq, p_19, u_20⟩ := hq
    rw [eL9, eQ9] at hP; clear eL9 eQ9
    have hF : sgK WkX3_does_1_1_0_f0_f1 f f_15 := sgK.tr hF hk_f_15 (by decide +kernel)
    obtain ⟨v_21, ev_21⟩ : ∃ z : Int32, z = f_15 36 3 := ⟨_, rfl⟩
    have q_22 : 0 ≤ v_21.toInt ∧ v_21.toInt ≤ 19 := by rw [ev_21]; exact hI 36 3
    have q_23 : (f_15 36 3).toInt = v_21.toInt := (congrArg Int32.toInt (show f_15 36 3 = v_21 from ev_21.symm))
    have k_25 : (10 : Int32).toInt = 10 := by decide
    have k_26 : ((-1) : Int32).toInt = (-1) := by decide
    have k_27 : (1 : Int32).toInt = 1 := by decide
    exact hret _ _ _ _ (r_18) f_15 L Q dX3_does_80 hP hS ⟨⟨hI, hF, rfl, rfl⟩, trivial, ⟨by omega, by omega⟩, (Eq.trans (Eq.symm (hs.trans ((spl_e ev_2 (spl_e ev_5 (spl_e ev_9 (spl_e ef_11 (spl2_e u_20 (spl_e ev_21 rfl))))))))) hsp)⟩
  refine lv_iload_n hx hb dX3_does_0 rfl (lv_at hl 1 rfl) ?_
  refine lv_iload_n hx hb dX3_does_1 rfl (lv_at hl 2 rfl) ?_
  refine sg_calli (va_runS (As := [.int 1, .int 1]) (rest := []) ⟨hx, hb, hml, hown, hts⟩ (kX3_ownerOf_1_1 l D ca za h hh f L Q hI H.size) (va_cwS 2 hts (gw_S (fun _ h => List.mem_cons_of_mem _ h) mw_189 mw_190 mw_47 mw_188) rfl rfl rfl hd_yX3_ownerOf.2 ⟨Nat.le_of_ble_eq_true rfl, Nat.le_of_ble_eq_true rfl⟩) (sg_preS hA hK hP hS hZ) rfl rfl hl.1 rfl (lv_room (Nat.le_of_ble_eq_true rfl)) dX3_does_2 ⟨Nat.le_refl _, Nat.le_refl _⟩) hA hS (fun r_33 f_30 L_31 Q_32 H locs hq hP hS => ?_)
  obtain ⟨⟨ef9, eL9, eQ9⟩, hq, u_34⟩ := hq
  rw [ef9, eL9, eQ9] at hP; clear ef9 eL9 eQ9
  obtain rfl : r_33 = 0 := Int32.toInt_inj.mp (by have k9 : (0 : Int32).toInt = 0 := ti_0; omega)
  refine lv_istore (lv' := [(5, .int 0), (0, .ref (h 36)), (1, .int 1), (2, .int 1), (3, .int x2), (4, .int 0)]) hx hb dX3_does_5 hl (by decide) rfl (fun ls hl => ?_)
  refine lv_iload hx hb dX3_does_7 (lv_at hl 0 rfl) ?_
  refine lv_if_lt (tgt := 19) hx hb dX3_does_9 (by decide) (fun c => absurd c (by decide)) (fun c => ?_)
  refine lv_iload hx hb dX3_does_12 (lv_at hl 5 rfl) ?_
  refine lv_bipush (v := 40) hx hb dX3_does_14 bp_40 ?_
  refine lv_icmp_le (tgt := 21) hx hb dX3_does_16 (by decide) (fun c => ?_) (fun c => absurd c (by decide))
  refine sg_gets hx hb hZ 3 rfl hS hown (hts _ (List.mem_cons_of_mem _ mw_173)) (fun _ h9 => h9) dX3_does_21 ?_
  refine lv_iload hx hb dX3_does_24 (lv_at hl 0 rfl) ?_
  refine lv_iconst (v := 4) hx hb dX3_does_26 ic_4 ?_
  refine lv_imul hx hb dX3_does_27 ?_
  refine W.eq (g2 := F0 m 28 ls [.int 0, .ref (za 3)]) (by rw [show (0 * 4 : Int32) = 0 from by decide]) ?_
  refine lv_iload_n hx hb dX3_does_28 rfl (lv_at hl 3 rfl) ?_
  refine lv_iadd hx hb dX3_does_29 ?_
  refine W.eq (g2 := F0 m 30 ls [.int 1, .ref (za 3)]) (by rw [show (0 + 1 : Int32) = 1 from by decide]) ?_
  refine sg_sald hx hb hZ 3 rfl hS (y := 1) (N := 32) (vp_in_iff.mpr (by decide)) dX3_does_30 ?_
  refine W.eq (g2 := F0 m 31 ls [.int 10]) (by rfl) ?_
  refine lv_istore (lv' := [(6, .int 10), (5, .int 0), (0, .ref (h 36)), (1, .int 1), (2, .int 1), (3, .int x2), (4, .int 0)]) hx hb dX3_does_31 hl (by decide) rfl (fun ls hl => ?_)
  refine lv_aload_n hx hb dX3_does_33 rfl (lv_at hl 2 rfl) ?_
  refine sl_gX_36_3_3 (v := 0) hx hb hts hown hK hP (show f 36 3 = 0 from hf_36_3) dX3_does_34 ?_
  refine lv_bipush (v := 24) hx hb dX3_does_37 bp_24 ?_
  refine lv_icmp_ge (tgt := 53) hx hb dX3_does_39 (by decide) (fun c => absurd c (by decide)) (fun c => ?_)
  refine lv_aload_n hx hb dX3_does_42 rfl (lv_at hl 2 rfl) ?_
  refine sl_gX_36_1_3 hx hb hts hown hK hP dX3_does_43 ?_
  refine lv_aload_n hx hb dX3_does_46 rfl (lv_at hl 2 rfl) ?_
  refine sl_gX_36_3_3 (v := 0) hx hb hts hown hK hP (show f 36 3 = 0 from hf_36_3) dX3_does_47 ?_
  refine lv_iload hx hb dX3_does_50 (lv_at hl 0 rfl) ?_
  refine sg_iast hx hb hh hA hK hP hS 38 (by decide) 0 (fun _ => rfl) rfl (i := 0) (x := 10) (vp_in_iff.mpr (by decide)) dX3_does_52 (fun f_35 H locs ef_35 hP hS => ?_)
  have ef_35 : f_35 = sg_up f 38 (sgu (f 38) 0 10) := ef_35
  have hI : sgI loX hiX f_35 := by rw [ef_35]; exact sgI.put hI 38 0 (show 0 ≤ (10 : Int32).toInt ∧ (10 : Int32).toInt ≤ 81 from by decide)
  have hF : sgK WkX3_does_1_1_0_f0_f1 f f_35 := sgK.put hF ef_35 (by rfl)
  exact blk_53 f_35 _ _ _ (hs.trans ((spl_e u_34 (spl_e ef_35 rfl)))) (by have zz36_3 : (f_35 36 3).toInt = 0 := (congrArg Int32.toInt (show f_35 36 3 = 0 from (by rw [ef_35, sg_up_n (by decide)]; exact hf_36_3))).trans (by decide); exact ⟨by omega, by omega⟩) (by have zz36_4 : (f_35 36 4).toInt = 1 := (congrArg Int32.toInt (show f_35 36 4 = 1 from (by rw [ef_35, sg_up_n (by decide)]; exact hf_36_4))).trans (by decide); exact ⟨by omega, by omega⟩) hI hF hP hS (lv_sub hl [2, 5, 6, 1, 0] rfl)

set_option maxHeartbeats 4000000 in
set_option maxRecDepth 100000 in
theorem kX3_ownerOf_2_1 (l : Launch) (D : va_G) (ca : Nat → ClassId) (za h : Nat → Nat) (hh : sgH 52 h) (f : sg_F) (L : sg_L) (Q : sg_Q) (hI : sgI loX hiX f) (sz : Nat) : Met l yX3_ownerOf gwX3_ownerOf { frames := 0, cells := 0, slots := 0, locals := 0 } (sgP D vwCl (tyX ca) 52 h (eX ca h) zcX za f L Q sz [.int 2, .int 1]) (sgQi D vwCl 52 h (eX ca h) sz (fun r f1 L1 Q1 => ((f1 = f ∧ L1 = L ∧ Q1 = Q) ∧ (2 ≤ r.toInt ∧ r.toInt ≤ 2) ∧ (r) = sX3_ownerOf_2_1 f L))) 0 0 (sgA 52 h sz) := by
  refine sg_ofWi (cc := cX3_ownerOf) (maxL := 4) RX3 (by decide) rfl rfl (Nat.le_of_ble_eq_true rfl) ?_
  intro p e s m below meth cd Qz ls hx hb hml hown hts hK hZ hP hS hl hret
  have hA := sgY.self (n := 52) (h := h) (sz := s.heap.size)
  have hl : lv_has ls 4 [(0, .int 2), (1, .int 1)] := hl
  obtain ⟨H, hH⟩ : ∃ z : Heap, z = s.heap := ⟨_, rfl⟩
  obtain ⟨locs, hlo⟩ : ∃ z : List Loc, z = [] := ⟨_, rfl⟩
  have hP : va_P D vwCl (sgw 52 h (eX ca h) f L Q) H := by rw [hH]; exact hP
  have hS : va_S (sgA 52 h s.heap.size) s.heap H locs := by rw [hH, hlo]; exact hS
  suffices hgo : W p l e ({ frames := 0, cells := 0, slots := 0, locals := 0 }) s m ([.int 2, .int 1] : List Value).toArray below meth cd H locs 0 0 Qz (F0 m 0 ls []) by rw [hH, hlo] at hgo; exact hgo
  clear hH hlo
  obtain ⟨sp, hsp⟩ : ∃ z : Int32, z = sX3_ownerOf_2_1 f L := ⟨_, rfl⟩
  have hs : sp = sX3_ownerOf_2_1 f L := hsp
  refine lv_iload_n hx hb dX3_ownerOf_0 rfl (lv_at hl 0 rfl) ?_
  refine lv_istore_n (lv' := [(2, .int 2), (0, .int 2), (1, .int 1)]) hx hb dX3_ownerOf_1 rfl hl (by decide) rfl (fun ls hl => ?_)
  refine lv_iconst (v := 0) hx hb dX3_ownerOf_2 ic_0 ?_
  refine lv_istore_n (lv' := [(3, .int 0), (2, .int 2), (0, .int 2), (1, .int 1)]) hx hb dX3_ownerOf_3 rfl hl (by decide) rfl (fun ls hl => ?_)
  refine lv_iload_n hx hb dX3_ownerOf_4 rfl (lv_at hl 0 rfl) ?_
  refine lv_bipush (v := 8) hx hb dX3_ownerOf_5 bp_8 ?_
  refine lv_icmp_ge (tgt := 40) hx hb dX3_ownerOf_7 (by decide) (fun c => absurd c (by decide)) (fun c => ?_)
  refine lv_iload_n hx hb dX3_ownerOf_10 rfl (lv_at hl 1 rfl) ?_
  refine lv_if_lt (tgt := 40) hx hb dX3_ownerOf_11 (by decide) (fun c => absurd c (by decide)) (fun c => ?_)
  refine sg_gets hx hb hZ 3 rfl hS hown (hts _ (List.mem_cons_of_mem _ mw_173)) (fun _ h9 => h9) dX3_ownerOf_14 ?_
  refine lv_iload_n hx hb dX3_ownerOf_17 rfl (lv_at hl 1 rfl) ?_
  refine lv_iconst (v := 4) hx hb dX3_ownerOf_18 ic_4 ?_
  refine lv_imul hx hb dX3_ownerOf_19 ?_
  refine W.eq (g2 := F0 m 20 ls [.int 8, .ref (za 3)]) (by rw [show (2 * 4 : Int32) = 8 from by decide]) ?_
  refine lv_iload_n hx hb dX3_ownerOf_20 rfl (lv_at hl 3 rfl) ?_
  refine lv_iadd hx hb dX3_ownerOf_21 ?_
  refine W.eq (g2 := F0 m 22 ls [.int 9, .ref (za 3)]) (by rw [show (8 + 1 : Int32) = 9 from by decide]) ?_
  refine sg_sald hx hb hZ 3 rfl hS (y := 9) (N := 32) (vp_in_iff.mpr (by decide)) dX3_ownerOf_22 ?_
  refine W.eq (g2 := F0 m 23 ls [.int 30]) (by rfl) ?_
  refine lv_if_eq (tgt := 28) hx hb dX3_ownerOf_23 (by decide) (fun c => absurd c (by decide)) (fun c => ?_)
  refine lv_iload_n hx hb dX3_ownerOf_26 rfl (lv_at hl 1 rfl) ?_
  have k99 : (2 : Int32).toInt = 2 := ti_2
  exact hret _ _ _ _ (2) f L Q dX3_ownerOf_27 hP hS ⟨⟨rfl, rfl, rfl⟩, (by decide), (Eq.trans (Eq.symm hs) hsp)⟩

set_option maxHeartbeats 4000000 in
set_option maxRecDepth 100000 in
theorem kX3_runs_1_m1_3_f3_f2 (l : Launch) (D : va_G) (ca : Nat → ClassId) (za h : Nat → Nat) (hh : sgH 52 h) (f : sg_F) (L : sg_L) (Q : sg_Q) (hI : sgI loX hiX f) (x2 : Int32) (hf_36_3 : f 36 3 = 3) (hf_36_4 : f 36 4 = 2) (p0 : 3 ≤ (f 36 3).toInt ∧ (f 36 3).toInt ≤ 3) (sz : Nat) : Met l yX3_runs gwX3_runs { frames := 0, cells := 0, slots := 0, locals := 0 } (sgP D vwCl (tyX ca) 52 h (eX ca h) zcX za f L Q sz [.ref (h 36), .int 1, .int (-1), .int x2, .int 3]) (sgQi D vwCl 52 h (eX ca h) sz (fun r f1 L1 Q1 => ((f1 = f ∧ L1 = L ∧ Q1 = Q) ∧ True ∧ (3 ≤ (f1 36 3).toInt ∧ (f1 36 3).toInt ≤ 3) ∧ (r) = sX3_runs_1_m1_3_f3_f2 x2 f L))) 0 0 (sgA 52 h sz) := by
  refine sg_ofWi (cc := cX3_runs) (maxL := 5) RX3 (by decide) rfl rfl (Nat.le_of_ble_eq_true rfl) ?_
  intro p e s m below meth cd Qz ls hx hb hml hown hts hK hZ hP hS hl hret
  have hA := sgY.self (n := 52) (h := h) (sz := s.heap.size)
  have hl : lv_has ls 5 [(0, .ref (h 36)), (1, .int 1), (2, .int (-1)), (3, .int x2), (4, .int 3)] := hl
  obtain ⟨H, hH⟩ : ∃ z : Heap, z = s.heap := ⟨_, rfl⟩
  obtain ⟨locs, hlo⟩ : ∃ z : List Loc, z = [] := ⟨_, rfl⟩
  have hP : va_P D vwCl (sgw 52 h (eX ca h) f L Q) H := by rw [hH]; exact hP
  have hS : va_S (sgA 52 h s.heap.size) s.heap H locs := by rw [hH, hlo]; exact hS
  suffices hgo : W p l e ({ frames := 0, cells := 0, slots := 0, locals := 0 }) s m ([.ref (h 36), .int 1, .int (-1), .int x2, .int 3] : List Value).toArray below meth cd H locs 0 0 Qz (F0 m 0 ls []) by rw [hH, hlo] at hgo; exact hgo
  clear hH hlo
  obtain ⟨sp, hsp⟩ : ∃ z : Int32, z = sX3_runs_1_m1_3_f3_f2 x2 f L := ⟨_, rfl⟩
  have hs : sp = sX3_runs_1_m1_3_f3_f2 x2 f L := hsp
  have o_1 : (f 36 3).toInt = 3 := (congrArg Int32.toInt (show f 36 3 = 3 from hf_36_3)).trans (by decide)
  refine lv_iload_n hx hb dX3_runs_0 rfl (lv_at hl 1 rfl) ?_
  refine lv_lookup (x := 1) (off := 115) (tgt := 116) hx hb dX3_runs_1 (by decide) (by decide) (by decide) ?_
  refine lv_iload_n hx hb dX3_runs_116 rfl (lv_at hl 3 rfl) ?_
  refine lv_aload_n hx hb dX3_runs_117 rfl (lv_at hl 0 rfl) ?_
  refine sl_gX_36_5_3 (v := (f 36 5)) hx hb hts hown hK hP rfl dX3_runs_118 ?_
  refine lv_topi (fun v_2 ev_2 => ?_)
  have q_3 : 0 ≤ v_2.toInt ∧ v_2.toInt ≤ 49 := by rw [ev_2]; exact hI 36 5
  refine lv_iadd hx hb dX3_runs_121 ?_
  refine lv_topi (fun v_4 ev_4 => ?_)
  have q_5 : (f 36 3).toInt = 3 := (congrArg Int32.toInt (show f 36 3 = 3 from hf_36_3)).trans (by decide)
  exact hret _ _ _ _ (v_4) f L Q dX3_runs_122 hP hS ⟨⟨rfl, rfl, rfl⟩, trivial, ⟨by omega, by omega⟩, (Eq.trans (Eq.symm (hs.trans ((spl_e ev_2 (spl_e ev_4 rfl))))) hsp)⟩

abbrev WkX3_does_2_0_2_f2_f2 : List (Nat × Nat × Option Nat) := [(36, 36, some 3), (38, 38, some 2)]
set_option maxHeartbeats 4000000 in
set_option maxRecDepth 100000 in
theorem kX3_does_2_0_2_f2_f2 (l : Launch) (D : va_G) (ca : Nat → ClassId) (za h : Nat → Nat) (hh : sgH 52 h) (f : sg_F) (L : sg_L) (Q : sg_Q) (hI : sgI loX hiX f) (x2 : Int32) (hf_36_3 : f 36 3 = 2) (hf_36_4 : f 36 4 = 2) (p0 : 2 ≤ (f 36 3).toInt ∧ (f 36 3).toInt ≤ 2) (sz : Nat) : Met l yX3_does gwX3_does { frames := 1, cells := 0, slots := 0, locals := 24 } (sgP D vwCl (tyX ca) 52 h (eX ca h) zcX za f L Q sz [.ref (h 36), .int 2, .int 0, .int x2, .int 2]) (sgQi D vwCl 52 h (eX ca h) sz (fun r f1 L1 Q1 => ((sgI loX hiX f1 ∧ sgK WkX3_does_2_0_2_f2_f2 f f1 ∧ L1 = L ∧ Q1 = Q) ∧ True ∧ (3 ≤ (f1 36 3).toInt ∧ (f1 36 3).toInt ≤ 3) ∧ (r, f1) = sX3_does_2_0_2_f2_f2 x2 f L))) 0 0 (sgA 52 h sz) := by
  refine sg_ofWi (cc := cX3_does) (maxL := 7) RX3 (by decide) rfl rfl (Nat.le_of_ble_eq_true rfl) ?_
  intro p e s m below meth cd Qz ls hx hb hml hown hts hK hZ hP hS hl hret
  have hA := sgY.self (n := 52) (h := h) (sz := s.heap.size)
  have hl : lv_has ls 7 [(0, .ref (h 36)), (1, .int 2), (2, .int 0), (3, .int x2), (4, .int 2)] := hl
  obtain ⟨H, hH⟩ : ∃ z : Heap, z = s.heap := ⟨_, rfl⟩
  obtain ⟨locs, hlo⟩ : ∃ z : List Loc, z = [] := ⟨_, rfl⟩
  have hP : va_P D vwCl (sgw 52 h (eX ca h) f L Q) H := by rw [hH]; exact hP
  have hS : va_S (sgA 52 h s.heap.size) s.heap H locs := by rw [hH, hlo]; exact hS
  suffices hgo : W p l e ({ frames := 1, cells := 0, slots := 0, locals := 24 }) s m ([.ref (h 36), .int 2, .int 0, .int x2, .int 2] : List Value).toArray below meth cd H locs 0 0 Qz (F0 m 0 ls []) by rw [hH, hlo] at hgo; exact hgo
  clear hH hlo
  obtain ⟨sp, hsp⟩ : ∃ z : Int32 × sg_F, z = sX3_does_2_0_2_f2_f2 x2 f L := ⟨_, rfl⟩
  have hs : sp = sX3_does_2_0_2_f2_f2 x2 f L := hsp
  have o_1 : (f 36 3).toInt = 2 := (congrArg Int32.toInt (show f 36 3 = 2 from hf_36_3)).trans (by decide)
  have hF : sgK WkX3_does_2_0_2_f2_f2 f f := sgK.rf
  have blk_53 : ∀ (fp_53 : sg_F) (H : Heap) (locs : List Loc) (ls : Array Slot), sp = sX3_does_2_0_2_f2_f2_b53 x2 fp_53 L → 2 ≤ (fp_53 36 3).toInt ∧ (fp_53 36 3).toInt ≤ 2 → 2 ≤ (fp_53 36 4).toInt ∧ (fp_53 36 4).toInt ≤ 2 → sgI loX hiX fp_53 → sgK WkX3_does_2_0_2_f2_f2 f fp_53 → va_P D vwCl (sgw 52 h (eX ca h) fp_53 L Q) H → va_S (sgA 52 h s.heap.size) s.heap H locs → lv_has ls 7 [(0, .ref (h 36)), (3, .int x2), (4, .int 2), (5, .int 0), (6, .int 1)] → W p l e ({ frames := 1, cells := 0, slots := 0, locals := 24 }) s m ([.ref (h 36), .int 2, .int 0, .int x2, .int 2] : List Value).toArray below meth cd H locs 0 0 Qz (F0 m 53 ls []) := by
    intro fp_53 H locs ls hs hy0_53 hy1_53 hI hF hP hS hl
    obtain ⟨v_2, ev_2⟩ : ∃ z : Int32, z = fp_53 36 3 := ⟨_, rfl⟩
    have q_3 : 0 ≤ v_2.toInt ∧ v_2.toInt ≤ 19 := by rw [ev_2]; exact hI 36 3
    have q_4 : (fp_53 36 3).toInt = v_2.toInt := by rw [ev_2]
    obtain ⟨v_5, ev_5⟩ : ∃ z : Int32, z = fp_53 36 4 := ⟨_, rfl⟩
    have q_6 : 0 ≤ v_5.toInt ∧ v_5.toInt ≤ 7 := by rw [ev_5]; exact hI 36 4
    have q_7 : (fp_53 36 4).toInt = v_5.toInt := by rw [ev_5]
    have m_8 : fp_53 36 4 = 2 := (hF 36 4 (by decide)).trans hf_36_4
    refine lv_aload_n hx hb dX3_does_53 rfl (lv_at hl 0 rfl) ?_
    refine lv_dup hx hb dX3_does_54 rfl ?_
    refine sl_gX_36_3_3 (v := v_2) hx hb hts hown hK hP (show fp_53 36 3 = v_2 from ev_2.symm) dX3_does_55 ?_
    refine lv_iconst (v := 1) hx hb dX3_does_58 ic_1 ?_
    refine lv_iadd hx hb dX3_does_59 ?_
    refine lv_topi (fun v_9 ev_9 => ?_)
    have q_10 : v_9.toInt = v_2.toInt + 1 := by rw [ev_9]; first | exact cm_add ti_1 (by omega) (by omega) | (have k1 : (1 : Int32).toInt = 1 := ti_1; exact (bn_addI (by omega) (by omega)).trans (by omega))
    refine sl_pX_36_3_3 (x := v_9) hx hb hts hown hh hA hK hP hS dX3_does_60 (fun f_11 H locs ef_11 hP hS => ?_)
    have hI : sgI loX hiX f_11 := by rw [ef_11]; exact sgI.put hI 36 3 (show 0 ≤ (v_9 : Int32).toInt ∧ (v_9 : Int32).toInt ≤ 19 from ⟨by omega, by omega⟩)
    have hF : sgK WkX3_does_2_0_2_f2_f2 f f_11 := sgK.put hF ef_11 (by rfl)
    refine lv_aload_n hx hb dX3_does_63 rfl (lv_at hl 0 rfl) ?_
    refine lv_iload hx hb dX3_does_64 (lv_at hl 4 rfl) ?_
    refine sg_gets hx hb hZ 2 rfl hS hown (hts _ (List.mem_cons_of_mem _ mw_174)) (fun _ h9 => h9) dX3_does_66 ?_
    refine lv_iload hx hb dX3_does_69 (lv_at hl 3 rfl) ?_
    refine sg_sald hx hb hZ 2 rfl hS (y := 0) (N := 8) (vp_in_iff.mpr (by decide)) dX3_does_71 ?_
    refine W.eq (g2 := F0 m 72 ls [.int (-1), .int 1, .ref (h 36)]) (by rfl) ?_
    refine lv_iload_n hx hb dX3_does_72 rfl (lv_at hl 1 rfl) ?_
    refine lv_iload hx hb dX3_does_73 (lv_at hl 2 rfl) ?_
    refine lv_iconst (v := 1) hx hb dX3_does_75 ic_1 ?_
    refine lv_iadd hx hb dX3_does_76 ?_
    refine W.eq (g2 := F0 m 77 ls [.int 3, .int x2, .int (-1), .int 1, .ref (h 36)]) (by rw [show (2 + 1 : Int32) = 3 from by decide]) ?_
    have c_12 : v_9 = 3 := Int32.toInt_inj.mp (by have k9 : (3 : Int32).toInt = 3 := ti_3; omega)
    have q_13 : (f_11 36 3).toInt = 3 := (congrArg Int32.toInt (show f_11 36 3 = 3 from (Eq.trans (by rw [ef_11, sg_up_s, sgu_s]) c_12))).trans (by decide)
    refine sg_calli (va_runV (As := [.int 1, .int (-1), .int x2, .int 3]) (rest := []) ⟨hx, hb, hml, hown, hts⟩ (kX3_runs_1_m1_3_f3_f2 l D ca za h hh f_11 L Q hI x2 (Eq.trans (by rw [ef_11, sg_up_s, sgu_s]) c_12) (by rw [ef_11, sg_up_s, sgu_n (by decide)]; exact m_8) (by have k0 : (1 : Int32).toInt = 1 := ti_1; have k1 : ((-1) : Int32).toInt = (-1) := ti_m1; have k3 : (3 : Int32).toInt = 3 := ti_3; omega) H.size) (sl_c3_runs_0_0_0_0_3 hts ⟨Nat.le_of_ble_eq_true rfl, Nat.le_of_ble_eq_true rfl⟩) (sl_vX_36 hA hK hP hS hZ) rfl rfl hl.1 rfl (lv_room (Nat.le_of_ble_eq_true rfl)) dX3_does_77 ⟨Nat.le_refl _, Nat.le_refl _⟩) hA hS (fun r_18 f_15 L_16 Q_17 H locs hq hP hS => ?_)
    obtain ⟨⟨ef9, eL9, eQ9⟩, hq, p_19, u_20⟩ := hq
    rw [ef9, eL9, eQ9] at hP; clear ef9 eL9 eQ9
    have k_23 : (1 : Int32).toInt = 1 := by decide
    have k_24 : ((-1) : Int32).toInt = (-1) := by decide
    have k_25 : (3 : Int32).toInt = 3 := by decide
    exact hret _ _ _ _ (r_18) f_11 L Q dX3_does_80 hP hS ⟨⟨hI, hF, rfl, rfl⟩, trivial, ⟨by omega, by omega⟩, (Eq.trans (Eq.symm (hs.trans ((spl_e ev_2 (spl_e ev_5 (spl_e ev_9 (spl_e ef_11 (spl_e u_20 rfl)))))))) hsp)⟩
  refine lv_iload_n hx hb dX3_does_0 rfl (lv_at hl 1 rfl) ?_
  refine lv_iload_n hx hb dX3_does_1 rfl (lv_at hl 2 rfl) ?_
  refine sg_calli (va_runS (As := [.int 2, .int 0]) (rest := []) ⟨hx, hb, hml, hown, hts⟩ (kX3_ownerOf_2_0 l D ca za h hh f L Q hI H.size) (va_cwS 2 hts (gw_S (fun _ h => List.mem_cons_of_mem _ h) mw_189 mw_190 mw_47 mw_188) rfl rfl rfl hd_yX3_ownerOf.2 ⟨Nat.le_of_ble_eq_true rfl, Nat.le_of_ble_eq_true rfl⟩) (sg_preS hA hK hP hS hZ) rfl rfl hl.1 rfl (lv_room (Nat.le_of_ble_eq_true rfl)) dX3_does_2 ⟨Nat.le_refl _, Nat.le_refl _⟩) hA hS (fun r_31 f_28 L_29 Q_30 H locs hq hP hS => ?_)
  obtain ⟨⟨ef9, eL9, eQ9⟩, hq, u_32⟩ := hq
  rw [ef9, eL9, eQ9] at hP; clear ef9 eL9 eQ9
  obtain rfl : r_31 = 0 := Int32.toInt_inj.mp (by have k9 : (0 : Int32).toInt = 0 := ti_0; omega)
  refine lv_istore (lv' := [(5, .int 0), (0, .ref (h 36)), (1, .int 2), (2, .int 0), (3, .int x2), (4, .int 2)]) hx hb dX3_does_5 hl (by decide) rfl (fun ls hl => ?_)
  refine lv_iload hx hb dX3_does_7 (lv_at hl 0 rfl) ?_
  refine lv_if_lt (tgt := 19) hx hb dX3_does_9 (by decide) (fun c => absurd c (by decide)) (fun c => ?_)
  refine lv_iload hx hb dX3_does_12 (lv_at hl 5 rfl) ?_
  refine lv_bipush (v := 40) hx hb dX3_does_14 bp_40 ?_
  refine lv_icmp_le (tgt := 21) hx hb dX3_does_16 (by decide) (fun c => ?_) (fun c => absurd c (by decide))
  refine sg_gets hx hb hZ 3 rfl hS hown (hts _ (List.mem_cons_of_mem _ mw_173)) (fun _ h9 => h9) dX3_does_21 ?_
  refine lv_iload hx hb dX3_does_24 (lv_at hl 0 rfl) ?_
  refine lv_iconst (v := 4) hx hb dX3_does_26 ic_4 ?_
  refine lv_imul hx hb dX3_does_27 ?_
  refine W.eq (g2 := F0 m 28 ls [.int 0, .ref (za 3)]) (by rw [show (0 * 4 : Int32) = 0 from by decide]) ?_
  refine lv_iload_n hx hb dX3_does_28 rfl (lv_at hl 3 rfl) ?_
  refine lv_iadd hx hb dX3_does_29 ?_
  refine W.eq (g2 := F0 m 30 ls [.int 0, .ref (za 3)]) (by rw [show (0 + 0 : Int32) = 0 from by decide]) ?_
  refine sg_sald hx hb hZ 3 rfl hS (y := 0) (N := 32) (vp_in_iff.mpr (by decide)) dX3_does_30 ?_
  refine W.eq (g2 := F0 m 31 ls [.int 1]) (by rfl) ?_
  refine lv_istore (lv' := [(6, .int 1), (5, .int 0), (0, .ref (h 36)), (1, .int 2), (2, .int 0), (3, .int x2), (4, .int 2)]) hx hb dX3_does_31 hl (by decide) rfl (fun ls hl => ?_)
  refine lv_aload_n hx hb dX3_does_33 rfl (lv_at hl 2 rfl) ?_
  refine sl_gX_36_3_3 (v := 2) hx hb hts hown hK hP (show f 36 3 = 2 from hf_36_3) dX3_does_34 ?_
  refine lv_bipush (v := 24) hx hb dX3_does_37 bp_24 ?_
  refine lv_icmp_ge (tgt := 53) hx hb dX3_does_39 (by decide) (fun c => absurd c (by decide)) (fun c => ?_)
  refine lv_aload_n hx hb dX3_does_42 rfl (lv_at hl 2 rfl) ?_
  refine sl_gX_36_1_3 hx hb hts hown hK hP dX3_does_43 ?_
  refine lv_aload_n hx hb dX3_does_46 rfl (lv_at hl 2 rfl) ?_
  refine sl_gX_36_3_3 (v := 2) hx hb hts hown hK hP (show f 36 3 = 2 from hf_36_3) dX3_does_47 ?_
  refine lv_iload hx hb dX3_does_50 (lv_at hl 0 rfl) ?_
  refine sg_iast hx hb hh hA hK hP hS 38 (by decide) 0 (fun _ => rfl) rfl (i := 2) (x := 1) (vp_in_iff.mpr (by decide)) dX3_does_52 (fun f_33 H locs ef_33 hP hS => ?_)
  have ef_33 : f_33 = sg_up f 38 (sgu (f 38) 2 1) := ef_33
  have hI : sgI loX hiX f_33 := by rw [ef_33]; exact sgI.put hI 38 2 (show 0 ≤ (1 : Int32).toInt ∧ (1 : Int32).toInt ≤ 81 from by decide)
  have hF : sgK WkX3_does_2_0_2_f2_f2 f f_33 := sgK.put hF ef_33 (by rfl)
  exact blk_53 f_33 _ _ _ (hs.trans ((spl_e u_32 (spl_e ef_33 rfl)))) (by have zz36_3 : (f_33 36 3).toInt = 2 := (congrArg Int32.toInt (show f_33 36 3 = 2 from (by rw [ef_33, sg_up_n (by decide)]; exact hf_36_3))).trans (by decide); exact ⟨by omega, by omega⟩) (by have zz36_4 : (f_33 36 4).toInt = 2 := (congrArg Int32.toInt (show f_33 36 4 = 2 from (by rw [ef_33, sg_up_n (by decide)]; exact hf_36_4))).trans (by decide); exact ⟨by omega, by omega⟩) hI hF hP hS (lv_sub hl [2, 5, 6, 1, 0] rfl)

abbrev WkX3_runs_10_m1_2_f2_f2 : List (Nat × Nat × Option Nat) := [(36, 36, some 3), (38, 38, some 2)]
set_option maxHeartbeats 4000000 in
set_option maxRecDepth 100000 in
theorem kX3_runs_10_m1_2_f2_f2 (l : Launch) (D : va_G) (ca : Nat → ClassId) (za h : Nat → Nat) (hh : sgH 52 h) (f : sg_F) (L : sg_L) (Q : sg_Q) (hI : sgI loX hiX f) (x2 : Int32) (hf_36_3 : f 36 3 = 2) (hf_36_4 : f 36 4 = 2) (p0 : 2 ≤ (f 36 3).toInt ∧ (f 36 3).toInt ≤ 2) (sz : Nat) : Met l yX3_runs gwX3_runs { frames := 2, cells := 0, slots := 0, locals := 50 } (sgP D vwCl (tyX ca) 52 h (eX ca h) zcX za f L Q sz [.ref (h 36), .int 10, .int (-1), .int x2, .int 2]) (sgQi D vwCl 52 h (eX ca h) sz (fun r f1 L1 Q1 => ((sgI loX hiX f1 ∧ sgK WkX3_runs_10_m1_2_f2_f2 f f1 ∧ L1 = L ∧ Q1 = Q) ∧ True ∧ (3 ≤ (f1 36 3).toInt ∧ (f1 36 3).toInt ≤ 3) ∧ (r, f1) = sX3_runs_10_m1_2_f2_f2 x2 f L))) 0 0 (sgA 52 h sz) := by
  refine sg_ofWi (cc := cX3_runs) (maxL := 5) RX3 (by decide) rfl rfl (Nat.le_of_ble_eq_true rfl) ?_
  intro p e s m below meth cd Qz ls hx hb hml hown hts hK hZ hP hS hl hret
  have hA := sgY.self (n := 52) (h := h) (sz := s.heap.size)
  have hl : lv_has ls 5 [(0, .ref (h 36)), (1, .int 10), (2, .int (-1)), (3, .int x2), (4, .int 2)] := hl
  obtain ⟨H, hH⟩ : ∃ z : Heap, z = s.heap := ⟨_, rfl⟩
  obtain ⟨locs, hlo⟩ : ∃ z : List Loc, z = [] := ⟨_, rfl⟩
  have hP : va_P D vwCl (sgw 52 h (eX ca h) f L Q) H := by rw [hH]; exact hP
  have hS : va_S (sgA 52 h s.heap.size) s.heap H locs := by rw [hH, hlo]; exact hS
  suffices hgo : W p l e ({ frames := 2, cells := 0, slots := 0, locals := 50 }) s m ([.ref (h 36), .int 10, .int (-1), .int x2, .int 2] : List Value).toArray below meth cd H locs 0 0 Qz (F0 m 0 ls []) by rw [hH, hlo] at hgo; exact hgo
  clear hH hlo
  obtain ⟨sp, hsp⟩ : ∃ z : Int32 × sg_F, z = sX3_runs_10_m1_2_f2_f2 x2 f L := ⟨_, rfl⟩
  have hs : sp = sX3_runs_10_m1_2_f2_f2 x2 f L := hsp
  have o_1 : (f 36 3).toInt = 2 := (congrArg Int32.toInt (show f 36 3 = 2 from hf_36_3)).trans (by decide)
  have hF : sgK WkX3_runs_10_m1_2_f2_f2 f f := sgK.rf
  refine lv_iload_n hx hb dX3_runs_0 rfl (lv_at hl 1 rfl) ?_
  refine lv_lookup (x := 10) (off := 148) (tgt := 149) hx hb dX3_runs_1 (by decide) (by decide) (by decide) ?_
  refine lv_aload_n hx hb dX3_runs_149 rfl (lv_at hl 0 rfl) ?_
  refine lv_aload_n hx hb dX3_runs_150 rfl (lv_at hl 0 rfl) ?_
  refine sl_gX_36_4_3 (v := 2) hx hb hts hown hK hP (show f 36 4 = 2 from hf_36_4) dX3_runs_151 ?_
  refine lv_iconst (v := 0) hx hb dX3_runs_154 ic_0 ?_
  refine lv_iload_n hx hb dX3_runs_155 rfl (lv_at hl 3 rfl) ?_
  refine lv_iload hx hb dX3_runs_156 (lv_at hl 4 rfl) ?_
  have q_2 : (f 36 3).toInt = 2 := (congrArg Int32.toInt (show f 36 3 = 2 from hf_36_3)).trans (by decide)
  refine sg_calli (va_runV (As := [.int 2, .int 0, .int x2, .int 2]) (rest := []) ⟨hx, hb, hml, hown, hts⟩ (kX3_does_2_0_2_f2_f2 l D ca za h hh f L Q hI x2 hf_36_3 hf_36_4 (by have k0 : (2 : Int32).toInt = 2 := ti_2; have k1 : (0 : Int32).toInt = 0 := ti_0; have k3 : (2 : Int32).toInt = 2 := ti_2; omega) H.size) (sl_c3_does_1_0_0_24_3 hts ⟨Nat.le_of_ble_eq_true rfl, Nat.le_of_ble_eq_true rfl⟩) (sl_vX_36 hA hK hP hS hZ) rfl rfl hl.1 rfl (lv_room (Nat.le_of_ble_eq_true rfl)) dX3_runs_158 ⟨Nat.le_refl _, Nat.le_refl _⟩) hA hS (fun r_7 f_4 L_5 Q_6 H locs hq hP hS => ?_)
  obtain ⟨⟨hI, hk_f_4, eL9, eQ9⟩, hq, p_8, u_9⟩ := hq
  rw [eL9, eQ9] at hP; clear eL9 eQ9
  have hF : sgK WkX3_runs_10_m1_2_f2_f2 f f_4 := sgK.tr hF hk_f_4 (by decide +kernel)
  obtain ⟨v_10, ev_10⟩ : ∃ z : Int32, z = f_4 36 3 := ⟨_, rfl⟩
  have q_11 : 0 ≤ v_10.toInt ∧ v_10.toInt ≤ 19 := by rw [ev_10]; exact hI 36 3
  have q_12 : (f_4 36 3).toInt = v_10.toInt := (congrArg Int32.toInt (show f_4 36 3 = v_10 from ev_10.symm))
  have k_14 : (2 : Int32).toInt = 2 := by decide
  have k_15 : (0 : Int32).toInt = 0 := by decide
  have k_16 : (2 : Int32).toInt = 2 := by decide
  refine lv_iconst (v := 2) hx hb dX3_runs_161 ic_2 ?_
  refine lv_imul hx hb dX3_runs_162 ?_
  refine lv_topi (fun v_17 ev_17 => ?_)
  exact hret _ _ _ _ (v_17) f_4 L Q dX3_runs_163 hP hS ⟨⟨hI, hF, rfl, rfl⟩, trivial, ⟨by omega, by omega⟩, (Eq.trans (Eq.symm (hs.trans ((spl2_e u_9 (spl_e ev_10 (spl_e ev_17 rfl)))))) hsp)⟩

abbrev WkX3_does_0_1_1_f1_f2 : List (Nat × Nat × Option Nat) := [(36, 36, some 3), (38, 38, some 1), (38, 38, some 2)]
set_option maxHeartbeats 4000000 in
set_option maxRecDepth 100000 in
theorem kX3_does_0_1_1_f1_f2 (l : Launch) (D : va_G) (ca : Nat → ClassId) (za h : Nat → Nat) (hh : sgH 52 h) (f : sg_F) (L : sg_L) (Q : sg_Q) (hI : sgI loX hiX f) (x2 : Int32) (hf_36_3 : f 36 3 = 1) (hf_36_4 : f 36 4 = 2) (p0 : 1 ≤ (f 36 3).toInt ∧ (f 36 3).toInt ≤ 1) (sz : Nat) : Met l yX3_does gwX3_does { frames := 3, cells := 0, slots := 0, locals := 74 } (sgP D vwCl (tyX ca) 52 h (eX ca h) zcX za f L Q sz [.ref (h 36), .int 0, .int 1, .int x2, .int 1]) (sgQi D vwCl 52 h (eX ca h) sz (fun r f1 L1 Q1 => ((sgI loX hiX f1 ∧ sgK WkX3_does_0_1_1_f1_f2 f f1 ∧ L1 = L ∧ Q1 = Q) ∧ True ∧ (3 ≤ (f1 36 3).toInt ∧ (f1 36 3).toInt ≤ 3) ∧ (r, f1) = sX3_does_0_1_1_f1_f2 x2 f L))) 0 0 (sgA 52 h sz) := by
  refine sg_ofWi (cc := cX3_does) (maxL := 7) RX3 (by decide) rfl rfl (Nat.le_of_ble_eq_true rfl) ?_
  intro p e s m below meth cd Qz ls hx hb hml hown hts hK hZ hP hS hl hret
  have hA := sgY.self (n := 52) (h := h) (sz := s.heap.size)
  have hl : lv_has ls 7 [(0, .ref (h 36)), (1, .int 0), (2, .int 1), (3, .int x2), (4, .int 1)] := hl
  obtain ⟨H, hH⟩ : ∃ z : Heap, z = s.heap := ⟨_, rfl⟩
  obtain ⟨locs, hlo⟩ : ∃ z : List Loc, z = [] := ⟨_, rfl⟩
  have hP : va_P D vwCl (sgw 52 h (eX ca h) f L Q) H := by rw [hH]; exact hP
  have hS : va_S (sgA 52 h s.heap.size) s.heap H locs := by rw [hH, hlo]; exact hS
  suffices hgo : W p l e ({ frames := 3, cells := 0, slots := 0, locals := 74 }) s m ([.ref (h 36), .int 0, .int 1, .int x2, .int 1] : List Value).toArray below meth cd H locs 0 0 Qz (F0 m 0 ls []) by rw [hH, hlo] at hgo; exact hgo
  clear hH hlo
  obtain ⟨sp, hsp⟩ : ∃ z : Int32 × sg_F, z = sX3_does_0_1_1_f1_f2 x2 f L := ⟨_, rfl⟩
  have hs : sp = sX3_does_0_1_1_f1_f2 x2 f L := hsp
  have o_1 : (f 36 3).toInt = 1 := (congrArg Int32.toInt (show f 36 3 = 1 from hf_36_3)).trans (by decide)
  have hF : sgK WkX3_does_0_1_1_f1_f2 f f := sgK.rf
  have blk_53 : ∀ (fp_53 : sg_F) (H : Heap) (locs : List Loc) (ls : Array Slot), sp = sX3_does_0_1_1_f1_f2_b53 x2 fp_53 L → 1 ≤ (fp_53 36 3).toInt ∧ (fp_53 36 3).toInt ≤ 1 → 2 ≤ (fp_53 36 4).toInt ∧ (fp_53 36 4).toInt ≤ 2 → sgI loX hiX fp_53 → sgK WkX3_does_0_1_1_f1_f2 f fp_53 → va_P D vwCl (sgw 52 h (eX ca h) fp_53 L Q) H → va_S (sgA 52 h s.heap.size) s.heap H locs → lv_has ls 7 [(0, .ref (h 36)), (3, .int x2), (4, .int 1), (5, .int 0), (6, .int 10)] → W p l e ({ frames := 3, cells := 0, slots := 0, locals := 74 }) s m ([.ref (h 36), .int 0, .int 1, .int x2, .int 1] : List Value).toArray below meth cd H locs 0 0 Qz (F0 m 53 ls []) := by
    intro fp_53 H locs ls hs hy0_53 hy1_53 hI hF hP hS hl
    obtain ⟨v_2, ev_2⟩ : ∃ z : Int32, z = fp_53 36 3 := ⟨_, rfl⟩
    have q_3 : 0 ≤ v_2.toInt ∧ v_2.toInt ≤ 19 := by rw [ev_2]; exact hI 36 3
    have q_4 : (fp_53 36 3).toInt = v_2.toInt := by rw [ev_2]
    obtain ⟨v_5, ev_5⟩ : ∃ z : Int32, z = fp_53 36 4 := ⟨_, rfl⟩
    have q_6 : 0 ≤ v_5.toInt ∧ v_5.toInt ≤ 7 := by rw [ev_5]; exact hI 36 4
    have q_7 : (fp_53 36 4).toInt = v_5.toInt := by rw [ev_5]
    have m_8 : fp_53 36 4 = 2 := (hF 36 4 (by decide)).trans hf_36_4
    refine lv_aload_n hx hb dX3_does_53 rfl (lv_at hl 0 rfl) ?_
    refine lv_dup hx hb dX3_does_54 rfl ?_
    refine sl_gX_36_3_3 (v := v_2) hx hb hts hown hK hP (show fp_53 36 3 = v_2 from ev_2.symm) dX3_does_55 ?_
    refine lv_iconst (v := 1) hx hb dX3_does_58 ic_1 ?_
    refine lv_iadd hx hb dX3_does_59 ?_
    refine lv_topi (fun v_9 ev_9 => ?_)
    have q_10 : v_9.toInt = v_2.toInt + 1 := by rw [ev_9]; first | exact cm_add ti_1 (by omega) (by omega) | (have k1 : (1 : Int32).toInt = 1 := ti_1; exact (bn_addI (by omega) (by omega)).trans (by omega))
    refine sl_pX_36_3_3 (x := v_9) hx hb hts hown hh hA hK hP hS dX3_does_60 (fun f_11 H locs ef_11 hP hS => ?_)
    have hI : sgI loX hiX f_11 := by rw [ef_11]; exact sgI.put hI 36 3 (show 0 ≤ (v_9 : Int32).toInt ∧ (v_9 : Int32).toInt ≤ 19 from ⟨by omega, by omega⟩)
    have hF : sgK WkX3_does_0_1_1_f1_f2 f f_11 := sgK.put hF ef_11 (by rfl)
    refine lv_aload_n hx hb dX3_does_63 rfl (lv_at hl 0 rfl) ?_
    refine lv_iload hx hb dX3_does_64 (lv_at hl 4 rfl) ?_
    refine sg_gets hx hb hZ 2 rfl hS hown (hts _ (List.mem_cons_of_mem _ mw_174)) (fun _ h9 => h9) dX3_does_66 ?_
    refine lv_iload hx hb dX3_does_69 (lv_at hl 3 rfl) ?_
    refine sg_sald hx hb hZ 2 rfl hS (y := 0) (N := 8) (vp_in_iff.mpr (by decide)) dX3_does_71 ?_
    refine W.eq (g2 := F0 m 72 ls [.int (-1), .int 10, .ref (h 36)]) (by rfl) ?_
    refine lv_iload_n hx hb dX3_does_72 rfl (lv_at hl 1 rfl) ?_
    refine lv_iload hx hb dX3_does_73 (lv_at hl 2 rfl) ?_
    refine lv_iconst (v := 1) hx hb dX3_does_75 ic_1 ?_
    refine lv_iadd hx hb dX3_does_76 ?_
    refine W.eq (g2 := F0 m 77 ls [.int 2, .int x2, .int (-1), .int 10, .ref (h 36)]) (by rw [show (1 + 1 : Int32) = 2 from by decide]) ?_
    have c_12 : v_9 = 2 := Int32.toInt_inj.mp (by have k9 : (2 : Int32).toInt = 2 := ti_2; omega)
    have q_13 : (f_11 36 3).toInt = 2 := (congrArg Int32.toInt (show f_11 36 3 = 2 from (Eq.trans (by rw [ef_11, sg_up_s, sgu_s]) c_12))).trans (by decide)
    refine sg_calli (va_runV (As := [.int 10, .int (-1), .int x2, .int 2]) (rest := []) ⟨hx, hb, hml, hown, hts⟩ (kX3_runs_10_m1_2_f2_f2 l D ca za h hh f_11 L Q hI x2 (Eq.trans (by rw [ef_11, sg_up_s, sgu_s]) c_12) (by rw [ef_11, sg_up_s, sgu_n (by decide)]; exact m_8) (by have k0 : (10 : Int32).toInt = 10 := ti_10; have k1 : ((-1) : Int32).toInt = (-1) := ti_m1; have k3 : (2 : Int32).toInt = 2 := ti_2; omega) H.size) (sl_c3_runs_2_0_0_50_3 hts ⟨Nat.le_of_ble_eq_true rfl, Nat.le_of_ble_eq_true rfl⟩) (sl_vX_36 hA hK hP hS hZ) rfl rfl hl.1 rfl (lv_room (Nat.le_of_ble_eq_true rfl)) dX3_does_77 ⟨Nat.le_refl _, Nat.le_refl _⟩) hA hS (fun r_18 f_15 L_16 Q_17 H locs hq hP hS => ?_)
    obtain ⟨⟨hI, hk_f_15, eL9, eQ9⟩, hq, p_19, u_20⟩ := hq
    rw [eL9, eQ9] at hP; clear eL9 eQ9
    have hF : sgK WkX3_does_0_1_1_f1_f2 f f_15 := sgK.tr hF hk_f_15 (by decide +kernel)
    obtain ⟨v_21, ev_21⟩ : ∃ z : Int32, z = f_15 36 3 := ⟨_, rfl⟩
    have q_22 : 0 ≤ v_21.toInt ∧ v_21.toInt ≤ 19 := by rw [ev_21]; exact hI 36 3
    have q_23 : (f_15 36 3).toInt = v_21.toInt := (congrArg Int32.toInt (show f_15 36 3 = v_21 from ev_21.symm))
    have k_25 : (10 : Int32).toInt = 10 := by decide
    have k_26 : ((-1) : Int32).toInt = (-1) := by decide
    have k_27 : (2 : Int32).toInt = 2 := by decide
    exact hret _ _ _ _ (r_18) f_15 L Q dX3_does_80 hP hS ⟨⟨hI, hF, rfl, rfl⟩, trivial, ⟨by omega, by omega⟩, (Eq.trans (Eq.symm (hs.trans ((spl_e ev_2 (spl_e ev_5 (spl_e ev_9 (spl_e ef_11 (spl2_e u_20 (spl_e ev_21 rfl))))))))) hsp)⟩
  refine lv_iload_n hx hb dX3_does_0 rfl (lv_at hl 1 rfl) ?_
  refine lv_iload_n hx hb dX3_does_1 rfl (lv_at hl 2 rfl) ?_
  refine sg_calli (va_runS (As := [.int 0, .int 1]) (rest := []) ⟨hx, hb, hml, hown, hts⟩ (kX3_ownerOf_0_1 l D ca za h hh f L Q hI H.size) (va_cwS 2 hts (gw_S (fun _ h => List.mem_cons_of_mem _ h) mw_189 mw_190 mw_47 mw_188) rfl rfl rfl hd_yX3_ownerOf.2 ⟨Nat.le_of_ble_eq_true rfl, Nat.le_of_ble_eq_true rfl⟩) (sg_preS hA hK hP hS hZ) rfl rfl hl.1 rfl (lv_room (Nat.le_of_ble_eq_true rfl)) dX3_does_2 ⟨Nat.le_refl _, Nat.le_refl _⟩) hA hS (fun r_33 f_30 L_31 Q_32 H locs hq hP hS => ?_)
  obtain ⟨⟨ef9, eL9, eQ9⟩, hq, u_34⟩ := hq
  rw [ef9, eL9, eQ9] at hP; clear ef9 eL9 eQ9
  obtain rfl : r_33 = 0 := Int32.toInt_inj.mp (by have k9 : (0 : Int32).toInt = 0 := ti_0; omega)
  refine lv_istore (lv' := [(5, .int 0), (0, .ref (h 36)), (1, .int 0), (2, .int 1), (3, .int x2), (4, .int 1)]) hx hb dX3_does_5 hl (by decide) rfl (fun ls hl => ?_)
  refine lv_iload hx hb dX3_does_7 (lv_at hl 0 rfl) ?_
  refine lv_if_lt (tgt := 19) hx hb dX3_does_9 (by decide) (fun c => absurd c (by decide)) (fun c => ?_)
  refine lv_iload hx hb dX3_does_12 (lv_at hl 5 rfl) ?_
  refine lv_bipush (v := 40) hx hb dX3_does_14 bp_40 ?_
  refine lv_icmp_le (tgt := 21) hx hb dX3_does_16 (by decide) (fun c => ?_) (fun c => absurd c (by decide))
  refine sg_gets hx hb hZ 3 rfl hS hown (hts _ (List.mem_cons_of_mem _ mw_173)) (fun _ h9 => h9) dX3_does_21 ?_
  refine lv_iload hx hb dX3_does_24 (lv_at hl 0 rfl) ?_
  refine lv_iconst (v := 4) hx hb dX3_does_26 ic_4 ?_
  refine lv_imul hx hb dX3_does_27 ?_
  refine W.eq (g2 := F0 m 28 ls [.int 0, .ref (za 3)]) (by rw [show (0 * 4 : Int32) = 0 from by decide]) ?_
  refine lv_iload_n hx hb dX3_does_28 rfl (lv_at hl 3 rfl) ?_
  refine lv_iadd hx hb dX3_does_29 ?_
  refine W.eq (g2 := F0 m 30 ls [.int 1, .ref (za 3)]) (by rw [show (0 + 1 : Int32) = 1 from by decide]) ?_
  refine sg_sald hx hb hZ 3 rfl hS (y := 1) (N := 32) (vp_in_iff.mpr (by decide)) dX3_does_30 ?_
  refine W.eq (g2 := F0 m 31 ls [.int 10]) (by rfl) ?_
  refine lv_istore (lv' := [(6, .int 10), (5, .int 0), (0, .ref (h 36)), (1, .int 0), (2, .int 1), (3, .int x2), (4, .int 1)]) hx hb dX3_does_31 hl (by decide) rfl (fun ls hl => ?_)
  refine lv_aload_n hx hb dX3_does_33 rfl (lv_at hl 2 rfl) ?_
  refine sl_gX_36_3_3 (v := 1) hx hb hts hown hK hP (show f 36 3 = 1 from hf_36_3) dX3_does_34 ?_
  refine lv_bipush (v := 24) hx hb dX3_does_37 bp_24 ?_
  refine lv_icmp_ge (tgt := 53) hx hb dX3_does_39 (by decide) (fun c => absurd c (by decide)) (fun c => ?_)
  refine lv_aload_n hx hb dX3_does_42 rfl (lv_at hl 2 rfl) ?_
  refine sl_gX_36_1_3 hx hb hts hown hK hP dX3_does_43 ?_
  refine lv_aload_n hx hb dX3_does_46 rfl (lv_at hl 2 rfl) ?_
  refine sl_gX_36_3_3 (v := 1) hx hb hts hown hK hP (show f 36 3 = 1 from hf_36_3) dX3_does_47 ?_
  refine lv_iload hx hb dX3_does_50 (lv_at hl 0 rfl) ?_
  refine sg_iast hx hb hh hA hK hP hS 38 (by decide) 0 (fun _ => rfl) rfl (i := 1) (x := 10) (vp_in_iff.mpr (by decide)) dX3_does_52 (fun f_35 H locs ef_35 hP hS => ?_)
  have ef_35 : f_35 = sg_up f 38 (sgu (f 38) 1 10) := ef_35
  have hI : sgI loX hiX f_35 := by rw [ef_35]; exact sgI.put hI 38 1 (show 0 ≤ (10 : Int32).toInt ∧ (10 : Int32).toInt ≤ 81 from by decide)
  have hF : sgK WkX3_does_0_1_1_f1_f2 f f_35 := sgK.put hF ef_35 (by rfl)
  exact blk_53 f_35 _ _ _ (hs.trans ((spl_e u_34 (spl_e ef_35 rfl)))) (by have zz36_3 : (f_35 36 3).toInt = 1 := (congrArg Int32.toInt (show f_35 36 3 = 1 from (by rw [ef_35, sg_up_n (by decide)]; exact hf_36_3))).trans (by decide); exact ⟨by omega, by omega⟩) (by have zz36_4 : (f_35 36 4).toInt = 2 := (congrArg Int32.toInt (show f_35 36 4 = 2 from (by rw [ef_35, sg_up_n (by decide)]; exact hf_36_4))).trans (by decide); exact ⟨by omega, by omega⟩) hI hF hP hS (lv_sub hl [2, 5, 6, 1, 0] rfl)

abbrev WkX3_runs_30_0_1_f1_f2 : List (Nat × Nat × Option Nat) := [(36, 36, some 3), (38, 38, some 1), (38, 38, some 2)]
set_option maxHeartbeats 4000000 in
set_option maxRecDepth 100000 in
theorem kX3_runs_30_0_1_f1_f2 (l : Launch) (D : va_G) (ca : Nat → ClassId) (za h : Nat → Nat) (hh : sgH 52 h) (f : sg_F) (L : sg_L) (Q : sg_Q) (hI : sgI loX hiX f) (x2 : Int32) (hf_36_3 : f 36 3 = 1) (hf_36_4 : f 36 4 = 2) (p0 : 1 ≤ (f 36 3).toInt ∧ (f 36 3).toInt ≤ 1) (sz : Nat) : Met l yX3_runs gwX3_runs { frames := 4, cells := 0, slots := 0, locals := 100 } (sgP D vwCl (tyX ca) 52 h (eX ca h) zcX za f L Q sz [.ref (h 36), .int 30, .int 0, .int x2, .int 1]) (sgQi D vwCl 52 h (eX ca h) sz (fun r f1 L1 Q1 => ((sgI loX hiX f1 ∧ sgK WkX3_runs_30_0_1_f1_f2 f f1 ∧ L1 = L ∧ Q1 = Q) ∧ True ∧ (3 ≤ (f1 36 3).toInt ∧ (f1 36 3).toInt ≤ 3) ∧ (r, f1) = sX3_runs_30_0_1_f1_f2 x2 f L))) 0 0 (sgA 52 h sz) := by
  refine sg_ofWi (cc := cX3_runs) (maxL := 5) RX3 (by decide) rfl rfl (Nat.le_of_ble_eq_true rfl) ?_
  intro p e s m below meth cd Qz ls hx hb hml hown hts hK hZ hP hS hl hret
  have hA := sgY.self (n := 52) (h := h) (sz := s.heap.size)
  have hl : lv_has ls 5 [(0, .ref (h 36)), (1, .int 30), (2, .int 0), (3, .int x2), (4, .int 1)] := hl
  obtain ⟨H, hH⟩ : ∃ z : Heap, z = s.heap := ⟨_, rfl⟩
  obtain ⟨locs, hlo⟩ : ∃ z : List Loc, z = [] := ⟨_, rfl⟩
  have hP : va_P D vwCl (sgw 52 h (eX ca h) f L Q) H := by rw [hH]; exact hP
  have hS : va_S (sgA 52 h s.heap.size) s.heap H locs := by rw [hH, hlo]; exact hS
  suffices hgo : W p l e ({ frames := 4, cells := 0, slots := 0, locals := 100 }) s m ([.ref (h 36), .int 30, .int 0, .int x2, .int 1] : List Value).toArray below meth cd H locs 0 0 Qz (F0 m 0 ls []) by rw [hH, hlo] at hgo; exact hgo
  clear hH hlo
  obtain ⟨sp, hsp⟩ : ∃ z : Int32 × sg_F, z = sX3_runs_30_0_1_f1_f2 x2 f L := ⟨_, rfl⟩
  have hs : sp = sX3_runs_30_0_1_f1_f2 x2 f L := hsp
  have o_1 : (f 36 3).toInt = 1 := (congrArg Int32.toInt (show f 36 3 = 1 from hf_36_3)).trans (by decide)
  have hF : sgK WkX3_runs_30_0_1_f1_f2 f f := sgK.rf
  refine lv_iload_n hx hb dX3_runs_0 rfl (lv_at hl 1 rfl) ?_
  refine lv_lookup (x := 30) (off := 182) (tgt := 183) hx hb dX3_runs_1 (by decide) (by decide) (by decide) ?_
  refine lv_aload_n hx hb dX3_runs_183 rfl (lv_at hl 0 rfl) ?_
  refine lv_iload_n hx hb dX3_runs_184 rfl (lv_at hl 2 rfl) ?_
  refine lv_iconst (v := 1) hx hb dX3_runs_185 ic_1 ?_
  refine lv_iload_n hx hb dX3_runs_186 rfl (lv_at hl 3 rfl) ?_
  refine lv_iload hx hb dX3_runs_187 (lv_at hl 4 rfl) ?_
  have q_2 : (f 36 3).toInt = 1 := (congrArg Int32.toInt (show f 36 3 = 1 from hf_36_3)).trans (by decide)
  refine sg_calli (va_runV (As := [.int 0, .int 1, .int x2, .int 1]) (rest := []) ⟨hx, hb, hml, hown, hts⟩ (kX3_does_0_1_1_f1_f2 l D ca za h hh f L Q hI x2 hf_36_3 hf_36_4 (by have k0 : (0 : Int32).toInt = 0 := ti_0; have k1 : (1 : Int32).toInt = 1 := ti_1; have k3 : (1 : Int32).toInt = 1 := ti_1; omega) H.size) (sl_c3_does_3_0_0_74_3 hts ⟨Nat.le_of_ble_eq_true rfl, Nat.le_of_ble_eq_true rfl⟩) (sl_vX_36 hA hK hP hS hZ) rfl rfl hl.1 rfl (lv_room (Nat.le_of_ble_eq_true rfl)) dX3_runs_189 ⟨Nat.le_refl _, Nat.le_refl _⟩) hA hS (fun r_7 f_4 L_5 Q_6 H locs hq hP hS => ?_)
  obtain ⟨⟨hI, hk_f_4, eL9, eQ9⟩, hq, p_8, u_9⟩ := hq
  rw [eL9, eQ9] at hP; clear eL9 eQ9
  have hF : sgK WkX3_runs_30_0_1_f1_f2 f f_4 := sgK.tr hF hk_f_4 (by decide +kernel)
  obtain ⟨v_10, ev_10⟩ : ∃ z : Int32, z = f_4 36 3 := ⟨_, rfl⟩
  have q_11 : 0 ≤ v_10.toInt ∧ v_10.toInt ≤ 19 := by rw [ev_10]; exact hI 36 3
  have q_12 : (f_4 36 3).toInt = v_10.toInt := (congrArg Int32.toInt (show f_4 36 3 = v_10 from ev_10.symm))
  have k_14 : (0 : Int32).toInt = 0 := by decide
  have k_15 : (1 : Int32).toInt = 1 := by decide
  have k_16 : (1 : Int32).toInt = 1 := by decide
  refine lv_ineg hx hb dX3_runs_192 ?_
  refine lv_topi (fun v_17 ev_17 => ?_)
  exact hret _ _ _ _ (v_17) f_4 L Q dX3_runs_193 hP hS ⟨⟨hI, hF, rfl, rfl⟩, trivial, ⟨by omega, by omega⟩, (Eq.trans (Eq.symm (hs.trans ((spl2_e u_9 (spl_e ev_10 (spl_e ev_17 rfl)))))) hsp)⟩

abbrev WkX3_does_2_1_0_f0_f2 : List (Nat × Nat × Option Nat) := [(36, 36, some 3), (38, 38, some 0), (38, 38, some 1), (38, 38, some 2)]
set_option maxHeartbeats 4000000 in
set_option maxRecDepth 100000 in
theorem kX3_does_2_1_0_f0_f2 (l : Launch) (D : va_G) (ca : Nat → ClassId) (za h : Nat → Nat) (hh : sgH 52 h) (f : sg_F) (L : sg_L) (Q : sg_Q) (hI : sgI loX hiX f) (x2 : Int32) (hf_36_3 : f 36 3 = 0) (hf_36_4 : f 36 4 = 2) (p0 : 0 ≤ (f 36 3).toInt ∧ (f 36 3).toInt ≤ 0) (sz : Nat) : Met l yX3_does gwX3_does { frames := 5, cells := 0, slots := 0, locals := 124 } (sgP D vwCl (tyX ca) 52 h (eX ca h) zcX za f L Q sz [.ref (h 36), .int 2, .int 1, .int x2, .int 0]) (sgQi D vwCl 52 h (eX ca h) sz (fun r f1 L1 Q1 => ((sgI loX hiX f1 ∧ sgK WkX3_does_2_1_0_f0_f2 f f1 ∧ L1 = L ∧ Q1 = Q) ∧ True ∧ (3 ≤ (f1 36 3).toInt ∧ (f1 36 3).toInt ≤ 3) ∧ (r, f1) = sX3_does_2_1_0_f0_f2 x2 f L))) 0 0 (sgA 52 h sz) := by
  refine sg_ofWi (cc := cX3_does) (maxL := 7) RX3 (by decide) rfl rfl (Nat.le_of_ble_eq_true rfl) ?_
  intro p e s m below meth cd Qz ls hx hb hml hown hts hK hZ hP hS hl hret
  have hA := sgY.self (n := 52) (h := h) (sz := s.heap.size)
  have hl : lv_has ls 7 [(0, .ref (h 36)), (1, .int 2), (2, .int 1), (3, .int x2), (4, .int 0)] := hl
  obtain ⟨H, hH⟩ : ∃ z : Heap, z = s.heap := ⟨_, rfl⟩
  obtain ⟨locs, hlo⟩ : ∃ z : List Loc, z = [] := ⟨_, rfl⟩
  have hP : va_P D vwCl (sgw 52 h (eX ca h) f L Q) H := by rw [hH]; exact hP
  have hS : va_S (sgA 52 h s.heap.size) s.heap H locs := by rw [hH, hlo]; exact hS
  suffices hgo : W p l e ({ frames := 5, cells := 0, slots := 0, locals := 124 }) s m ([.ref (h 36), .int 2, .int 1, .int x2, .int 0] : List Value).toArray below meth cd H locs 0 0 Qz (F0 m 0 ls []) by rw [hH, hlo] at hgo; exact hgo
  clear hH hlo
  obtain ⟨sp, hsp⟩ : ∃ z : Int32 × sg_F, z = sX3_does_2_1_0_f0_f2 x2 f L := ⟨_, rfl⟩
  have hs : sp = sX3_does_2_1_0_f0_f2 x2 f L := hsp
  have o_1 : (f 36 3).toInt = 0 := (congrArg Int32.toInt (show f 36 3 = 0 from hf_36_3)).trans (by decide)
  have hF : sgK WkX3_does_2_1_0_f0_f2 f f := sgK.rf
  have blk_53 : ∀ (fp_53 : sg_F) (H : Heap) (locs : List Loc) (ls : Array Slot), sp = sX3_does_2_1_0_f0_f2_b53 x2 fp_53 L → 0 ≤ (fp_53 36 3).toInt ∧ (fp_53 36 3).toInt ≤ 0 → 2 ≤ (fp_53 36 4).toInt ∧ (fp_53 36 4).toInt ≤ 2 → sgI loX hiX fp_53 → sgK WkX3_does_2_1_0_f0_f2 f fp_53 → va_P D vwCl (sgw 52 h (eX ca h) fp_53 L Q) H → va_S (sgA 52 h s.heap.size) s.heap H locs → lv_has ls 7 [(0, .ref (h 36)), (3, .int x2), (4, .int 0), (5, .int 2), (6, .int 30)] → W p l e ({ frames := 5, cells := 0, slots := 0, locals := 124 }) s m ([.ref (h 36), .int 2, .int 1, .int x2, .int 0] : List Value).toArray below meth cd H locs 0 0 Qz (F0 m 53 ls []) := by
    intro fp_53 H locs ls hs hy0_53 hy1_53 hI hF hP hS hl
    obtain ⟨v_2, ev_2⟩ : ∃ z : Int32, z = fp_53 36 3 := ⟨_, rfl⟩
    have q_3 : 0 ≤ v_2.toInt ∧ v_2.toInt ≤ 19 := by rw [ev_2]; exact hI 36 3
    have q_4 : (fp_53 36 3).toInt = v_2.toInt := by rw [ev_2]
    obtain ⟨v_5, ev_5⟩ : ∃ z : Int32, z = fp_53 36 4 := ⟨_, rfl⟩
    have q_6 : 0 ≤ v_5.toInt ∧ v_5.toInt ≤ 7 := by rw [ev_5]; exact hI 36 4
    have q_7 : (fp_53 36 4).toInt = v_5.toInt := by rw [ev_5]
    have m_8 : fp_53 36 4 = 2 := (hF 36 4 (by decide)).trans hf_36_4
    refine lv_aload_n hx hb dX3_does_53 rfl (lv_at hl 0 rfl) ?_
    refine lv_dup hx hb dX3_does_54 rfl ?_
    refine sl_gX_36_3_3 (v := v_2) hx hb hts hown hK hP (show fp_53 36 3 = v_2 from ev_2.symm) dX3_does_55 ?_
    refine lv_iconst (v := 1) hx hb dX3_does_58 ic_1 ?_
    refine lv_iadd hx hb dX3_does_59 ?_
    refine lv_topi (fun v_9 ev_9 => ?_)
    have q_10 : v_9.toInt = v_2.toInt + 1 := by rw [ev_9]; first | exact cm_add ti_1 (by omega) (by omega) | (have k1 : (1 : Int32).toInt = 1 := ti_1; exact (bn_addI (by omega) (by omega)).trans (by omega))
    refine sl_pX_36_3_3 (x := v_9) hx hb hts hown hh hA hK hP hS dX3_does_60 (fun f_11 H locs ef_11 hP hS => ?_)
    have hI : sgI loX hiX f_11 := by rw [ef_11]; exact sgI.put hI 36 3 (show 0 ≤ (v_9 : Int32).toInt ∧ (v_9 : Int32).toInt ≤ 19 from ⟨by omega, by omega⟩)
    have hF : sgK WkX3_does_2_1_0_f0_f2 f f_11 := sgK.put hF ef_11 (by rfl)
    refine lv_aload_n hx hb dX3_does_63 rfl (lv_at hl 0 rfl) ?_
    refine lv_iload hx hb dX3_does_64 (lv_at hl 4 rfl) ?_
    refine sg_gets hx hb hZ 2 rfl hS hown (hts _ (List.mem_cons_of_mem _ mw_174)) (fun _ h9 => h9) dX3_does_66 ?_
    refine lv_iload hx hb dX3_does_69 (lv_at hl 3 rfl) ?_
    refine sg_sald hx hb hZ 2 rfl hS (y := 2) (N := 8) (vp_in_iff.mpr (by decide)) dX3_does_71 ?_
    refine W.eq (g2 := F0 m 72 ls [.int 0, .int 30, .ref (h 36)]) (by rfl) ?_
    refine lv_iload_n hx hb dX3_does_72 rfl (lv_at hl 1 rfl) ?_
    refine lv_iload hx hb dX3_does_73 (lv_at hl 2 rfl) ?_
    refine lv_iconst (v := 1) hx hb dX3_does_75 ic_1 ?_
    refine lv_iadd hx hb dX3_does_76 ?_
    refine W.eq (g2 := F0 m 77 ls [.int 1, .int x2, .int 0, .int 30, .ref (h 36)]) (by rw [show (0 + 1 : Int32) = 1 from by decide]) ?_
    have c_12 : v_9 = 1 := Int32.toInt_inj.mp (by have k9 : (1 : Int32).toInt = 1 := ti_1; omega)
    have q_13 : (f_11 36 3).toInt = 1 := (congrArg Int32.toInt (show f_11 36 3 = 1 from (Eq.trans (by rw [ef_11, sg_up_s, sgu_s]) c_12))).trans (by decide)
    refine sg_calli (va_runV (As := [.int 30, .int 0, .int x2, .int 1]) (rest := []) ⟨hx, hb, hml, hown, hts⟩ (kX3_runs_30_0_1_f1_f2 l D ca za h hh f_11 L Q hI x2 (Eq.trans (by rw [ef_11, sg_up_s, sgu_s]) c_12) (by rw [ef_11, sg_up_s, sgu_n (by decide)]; exact m_8) (by have k0 : (30 : Int32).toInt = 30 := ti_30; have k1 : (0 : Int32).toInt = 0 := ti_0; have k3 : (1 : Int32).toInt = 1 := ti_1; omega) H.size) (sl_c3_runs_4_0_0_100_3 hts ⟨Nat.le_of_ble_eq_true rfl, Nat.le_of_ble_eq_true rfl⟩) (sl_vX_36 hA hK hP hS hZ) rfl rfl hl.1 rfl (lv_room (Nat.le_of_ble_eq_true rfl)) dX3_does_77 ⟨Nat.le_refl _, Nat.le_refl _⟩) hA hS (fun r_18 f_15 L_16 Q_17 H locs hq hP hS => ?_)
    obtain ⟨⟨hI, hk_f_15, eL9, eQ9⟩, hq, p_19, u_20⟩ := hq
    rw [eL9, eQ9] at hP; clear eL9 eQ9
    have hF : sgK WkX3_does_2_1_0_f0_f2 f f_15 := sgK.tr hF hk_f_15 (by decide +kernel)
    obtain ⟨v_21, ev_21⟩ : ∃ z : Int32, z = f_15 36 3 := ⟨_, rfl⟩
    have q_22 : 0 ≤ v_21.toInt ∧ v_21.toInt ≤ 19 := by rw [ev_21]; exact hI 36 3
    have q_23 : (f_15 36 3).toInt = v_21.toInt := (congrArg Int32.toInt (show f_15 36 3 = v_21 from ev_21.symm))
    have k_25 : (30 : Int32).toInt = 30 := by decide
    have k_26 : (0 : Int32).toInt = 0 := by decide
    have k_27 : (1 : Int32).toInt = 1 := by decide
    exact hret _ _ _ _ (r_18) f_15 L Q dX3_does_80 hP hS ⟨⟨hI, hF, rfl, rfl⟩, trivial, ⟨by omega, by omega⟩, (Eq.trans (Eq.symm (hs.trans ((spl_e ev_2 (spl_e ev_5 (spl_e ev_9 (spl_e ef_11 (spl2_e u_20 (spl_e ev_21 rfl))))))))) hsp)⟩
  refine lv_iload_n hx hb dX3_does_0 rfl (lv_at hl 1 rfl) ?_
  refine lv_iload_n hx hb dX3_does_1 rfl (lv_at hl 2 rfl) ?_
  refine sg_calli (va_runS (As := [.int 2, .int 1]) (rest := []) ⟨hx, hb, hml, hown, hts⟩ (kX3_ownerOf_2_1 l D ca za h hh f L Q hI H.size) (va_cwS 2 hts (gw_S (fun _ h => List.mem_cons_of_mem _ h) mw_189 mw_190 mw_47 mw_188) rfl rfl rfl hd_yX3_ownerOf.2 ⟨Nat.le_of_ble_eq_true rfl, Nat.le_of_ble_eq_true rfl⟩) (sg_preS hA hK hP hS hZ) rfl rfl hl.1 rfl (lv_room (Nat.le_of_ble_eq_true rfl)) dX3_does_2 ⟨Nat.le_refl _, Nat.le_refl _⟩) hA hS (fun r_33 f_30 L_31 Q_32 H locs hq hP hS => ?_)
  obtain ⟨⟨ef9, eL9, eQ9⟩, hq, u_34⟩ := hq
  rw [ef9, eL9, eQ9] at hP; clear ef9 eL9 eQ9
  obtain rfl : r_33 = 2 := Int32.toInt_inj.mp (by have k9 : (2 : Int32).toInt = 2 := ti_2; omega)
  refine lv_istore (lv' := [(5, .int 2), (0, .ref (h 36)), (1, .int 2), (2, .int 1), (3, .int x2), (4, .int 0)]) hx hb dX3_does_5 hl (by decide) rfl (fun ls hl => ?_)
  refine lv_iload hx hb dX3_does_7 (lv_at hl 0 rfl) ?_
  refine lv_if_lt (tgt := 19) hx hb dX3_does_9 (by decide) (fun c => absurd c (by decide)) (fun c => ?_)
  refine lv_iload hx hb dX3_does_12 (lv_at hl 5 rfl) ?_
  refine lv_bipush (v := 40) hx hb dX3_does_14 bp_40 ?_
  refine lv_icmp_le (tgt := 21) hx hb dX3_does_16 (by decide) (fun c => ?_) (fun c => absurd c (by decide))
  refine sg_gets hx hb hZ 3 rfl hS hown (hts _ (List.mem_cons_of_mem _ mw_173)) (fun _ h9 => h9) dX3_does_21 ?_
  refine lv_iload hx hb dX3_does_24 (lv_at hl 0 rfl) ?_
  refine lv_iconst (v := 4) hx hb dX3_does_26 ic_4 ?_
  refine lv_imul hx hb dX3_does_27 ?_
  refine W.eq (g2 := F0 m 28 ls [.int 8, .ref (za 3)]) (by rw [show (2 * 4 : Int32) = 8 from by decide]) ?_
  refine lv_iload_n hx hb dX3_does_28 rfl (lv_at hl 3 rfl) ?_
  refine lv_iadd hx hb dX3_does_29 ?_
  refine W.eq (g2 := F0 m 30 ls [.int 9, .ref (za 3)]) (by rw [show (8 + 1 : Int32) = 9 from by decide]) ?_
  refine sg_sald hx hb hZ 3 rfl hS (y := 9) (N := 32) (vp_in_iff.mpr (by decide)) dX3_does_30 ?_
  refine W.eq (g2 := F0 m 31 ls [.int 30]) (by rfl) ?_
  refine lv_istore (lv' := [(6, .int 30), (5, .int 2), (0, .ref (h 36)), (1, .int 2), (2, .int 1), (3, .int x2), (4, .int 0)]) hx hb dX3_does_31 hl (by decide) rfl (fun ls hl => ?_)
  refine lv_aload_n hx hb dX3_does_33 rfl (lv_at hl 2 rfl) ?_
  refine sl_gX_36_3_3 (v := 0) hx hb hts hown hK hP (show f 36 3 = 0 from hf_36_3) dX3_does_34 ?_
  refine lv_bipush (v := 24) hx hb dX3_does_37 bp_24 ?_
  refine lv_icmp_ge (tgt := 53) hx hb dX3_does_39 (by decide) (fun c => absurd c (by decide)) (fun c => ?_)
  refine lv_aload_n hx hb dX3_does_42 rfl (lv_at hl 2 rfl) ?_
  refine sl_gX_36_1_3 hx hb hts hown hK hP dX3_does_43 ?_
  refine lv_aload_n hx hb dX3_does_46 rfl (lv_at hl 2 rfl) ?_
  refine sl_gX_36_3_3 (v := 0) hx hb hts hown hK hP (show f 36 3 = 0 from hf_36_3) dX3_does_47 ?_
  refine lv_iload hx hb dX3_does_50 (lv_at hl 0 rfl) ?_
  refine sg_iast hx hb hh hA hK hP hS 38 (by decide) 0 (fun _ => rfl) rfl (i := 0) (x := 30) (vp_in_iff.mpr (by decide)) dX3_does_52 (fun f_35 H locs ef_35 hP hS => ?_)
  have ef_35 : f_35 = sg_up f 38 (sgu (f 38) 0 30) := ef_35
  have hI : sgI loX hiX f_35 := by rw [ef_35]; exact sgI.put hI 38 0 (show 0 ≤ (30 : Int32).toInt ∧ (30 : Int32).toInt ≤ 81 from by decide)
  have hF : sgK WkX3_does_2_1_0_f0_f2 f f_35 := sgK.put hF ef_35 (by rfl)
  exact blk_53 f_35 _ _ _ (hs.trans ((spl_e u_34 (spl_e ef_35 rfl)))) (by have zz36_3 : (f_35 36 3).toInt = 0 := (congrArg Int32.toInt (show f_35 36 3 = 0 from (by rw [ef_35, sg_up_n (by decide)]; exact hf_36_3))).trans (by decide); exact ⟨by omega, by omega⟩) (by have zz36_4 : (f_35 36 4).toInt = 2 := (congrArg Int32.toInt (show f_35 36 4 = 2 from (by rw [ef_35, sg_up_n (by decide)]; exact hf_36_4))).trans (by decide); exact ⟨by omega, by omega⟩) hI hF hP hS (lv_sub hl [2, 5, 6, 1, 0] rfl)

set_option maxHeartbeats 4000000 in
set_option maxRecDepth 100000 in
theorem kX3_ownerOf_3_1 (l : Launch) (D : va_G) (ca : Nat → ClassId) (za h : Nat → Nat) (hh : sgH 52 h) (f : sg_F) (L : sg_L) (Q : sg_Q) (hI : sgI loX hiX f) (sz : Nat) : Met l yX3_ownerOf gwX3_ownerOf { frames := 0, cells := 0, slots := 0, locals := 0 } (sgP D vwCl (tyX ca) 52 h (eX ca h) zcX za f L Q sz [.int 3, .int 1]) (sgQi D vwCl 52 h (eX ca h) sz (fun r f1 L1 Q1 => ((f1 = f ∧ L1 = L ∧ Q1 = Q) ∧ (3 ≤ r.toInt ∧ r.toInt ≤ 3) ∧ (r) = sX3_ownerOf_3_1 f L))) 0 0 (sgA 52 h sz) := by
  refine sg_ofWi (cc := cX3_ownerOf) (maxL := 4) RX3 (by decide) rfl rfl (Nat.le_of_ble_eq_true rfl) ?_
  intro p e s m below meth cd Qz ls hx hb hml hown hts hK hZ hP hS hl hret
  have hA := sgY.self (n := 52) (h := h) (sz := s.heap.size)
  have hl : lv_has ls 4 [(0, .int 3), (1, .int 1)] := hl
  obtain ⟨H, hH⟩ : ∃ z : Heap, z = s.heap := ⟨_, rfl⟩
  obtain ⟨locs, hlo⟩ : ∃ z : List Loc, z = [] := ⟨_, rfl⟩
  have hP : va_P D vwCl (sgw 52 h (eX ca h) f L Q) H := by rw [hH]; exact hP
  have hS : va_S (sgA 52 h s.heap.size) s.heap H locs := by rw [hH, hlo]; exact hS
  suffices hgo : W p l e ({ frames := 0, cells := 0, slots := 0, locals := 0 }) s m ([.int 3, .int 1] : List Value).toArray below meth cd H locs 0 0 Qz (F0 m 0 ls []) by rw [hH, hlo] at hgo; exact hgo
  clear hH hlo
  obtain ⟨sp, hsp⟩ : ∃ z : Int32, z = sX3_ownerOf_3_1 f L := ⟨_, rfl⟩
  have hs : sp = sX3_ownerOf_3_1 f L := hsp
  refine lv_iload_n hx hb dX3_ownerOf_0 rfl (lv_at hl 0 rfl) ?_
  refine lv_istore_n (lv' := [(2, .int 3), (0, .int 3), (1, .int 1)]) hx hb dX3_ownerOf_1 rfl hl (by decide) rfl (fun ls hl => ?_)
  refine lv_iconst (v := 0) hx hb dX3_ownerOf_2 ic_0 ?_
  refine lv_istore_n (lv' := [(3, .int 0), (2, .int 3), (0, .int 3), (1, .int 1)]) hx hb dX3_ownerOf_3 rfl hl (by decide) rfl (fun ls hl => ?_)
  refine lv_iload_n hx hb dX3_ownerOf_4 rfl (lv_at hl 0 rfl) ?_
  refine lv_bipush (v := 8) hx hb dX3_ownerOf_5 bp_8 ?_
  refine lv_icmp_ge (tgt := 40) hx hb dX3_ownerOf_7 (by decide) (fun c => absurd c (by decide)) (fun c => ?_)
  refine lv_iload_n hx hb dX3_ownerOf_10 rfl (lv_at hl 1 rfl) ?_
  refine lv_if_lt (tgt := 40) hx hb dX3_ownerOf_11 (by decide) (fun c => absurd c (by decide)) (fun c => ?_)
  refine sg_gets hx hb hZ 3 rfl hS hown (hts _ (List.mem_cons_of_mem _ mw_173)) (fun _ h9 => h9) dX3_ownerOf_14 ?_
  refine lv_iload_n hx hb dX3_ownerOf_17 rfl (lv_at hl 1 rfl) ?_
  refine lv_iconst (v := 4) hx hb dX3_ownerOf_18 ic_4 ?_
  refine lv_imul hx hb dX3_ownerOf_19 ?_
  refine W.eq (g2 := F0 m 20 ls [.int 12, .ref (za 3)]) (by rw [show (3 * 4 : Int32) = 12 from by decide]) ?_
  refine lv_iload_n hx hb dX3_ownerOf_20 rfl (lv_at hl 3 rfl) ?_
  refine lv_iadd hx hb dX3_ownerOf_21 ?_
  refine W.eq (g2 := F0 m 22 ls [.int 13, .ref (za 3)]) (by rw [show (12 + 1 : Int32) = 13 from by decide]) ?_
  refine sg_sald hx hb hZ 3 rfl hS (y := 13) (N := 32) (vp_in_iff.mpr (by decide)) dX3_ownerOf_22 ?_
  refine W.eq (g2 := F0 m 23 ls [.int 41]) (by rfl) ?_
  refine lv_if_eq (tgt := 28) hx hb dX3_ownerOf_23 (by decide) (fun c => absurd c (by decide)) (fun c => ?_)
  refine lv_iload_n hx hb dX3_ownerOf_26 rfl (lv_at hl 1 rfl) ?_
  have k99 : (3 : Int32).toInt = 3 := ti_3
  exact hret _ _ _ _ (3) f L Q dX3_ownerOf_27 hP hS ⟨⟨rfl, rfl, rfl⟩, (by decide), (Eq.trans (Eq.symm hs) hsp)⟩

set_option maxHeartbeats 4000000 in
set_option maxRecDepth 100000 in
theorem kX3_runs_1_m1_4_f4_f3 (l : Launch) (D : va_G) (ca : Nat → ClassId) (za h : Nat → Nat) (hh : sgH 52 h) (f : sg_F) (L : sg_L) (Q : sg_Q) (hI : sgI loX hiX f) (x2 : Int32) (hf_36_3 : f 36 3 = 4) (hf_36_4 : f 36 4 = 3) (p0 : 4 ≤ (f 36 3).toInt ∧ (f 36 3).toInt ≤ 4) (sz : Nat) : Met l yX3_runs gwX3_runs { frames := 0, cells := 0, slots := 0, locals := 0 } (sgP D vwCl (tyX ca) 52 h (eX ca h) zcX za f L Q sz [.ref (h 36), .int 1, .int (-1), .int x2, .int 4]) (sgQi D vwCl 52 h (eX ca h) sz (fun r f1 L1 Q1 => ((f1 = f ∧ L1 = L ∧ Q1 = Q) ∧ True ∧ (4 ≤ (f1 36 3).toInt ∧ (f1 36 3).toInt ≤ 4) ∧ (r) = sX3_runs_1_m1_4_f4_f3 x2 f L))) 0 0 (sgA 52 h sz) := by
  refine sg_ofWi (cc := cX3_runs) (maxL := 5) RX3 (by decide) rfl rfl (Nat.le_of_ble_eq_true rfl) ?_
  intro p e s m below meth cd Qz ls hx hb hml hown hts hK hZ hP hS hl hret
  have hA := sgY.self (n := 52) (h := h) (sz := s.heap.size)
  have hl : lv_has ls 5 [(0, .ref (h 36)), (1, .int 1), (2, .int (-1)), (3, .int x2), (4, .int 4)] := hl
  obtain ⟨H, hH⟩ : ∃ z : Heap, z = s.heap := ⟨_, rfl⟩
  obtain ⟨locs, hlo⟩ : ∃ z : List Loc, z = [] := ⟨_, rfl⟩
  have hP : va_P D vwCl (sgw 52 h (eX ca h) f L Q) H := by rw [hH]; exact hP
  have hS : va_S (sgA 52 h s.heap.size) s.heap H locs := by rw [hH, hlo]; exact hS
  suffices hgo : W p l e ({ frames := 0, cells := 0, slots := 0, locals := 0 }) s m ([.ref (h 36), .int 1, .int (-1), .int x2, .int 4] : List Value).toArray below meth cd H locs 0 0 Qz (F0 m 0 ls []) by rw [hH, hlo] at hgo; exact hgo
  clear hH hlo
  obtain ⟨sp, hsp⟩ : ∃ z : Int32, z = sX3_runs_1_m1_4_f4_f3 x2 f L := ⟨_, rfl⟩
  have hs : sp = sX3_runs_1_m1_4_f4_f3 x2 f L := hsp
  have o_1 : (f 36 3).toInt = 4 := (congrArg Int32.toInt (show f 36 3 = 4 from hf_36_3)).trans (by decide)
  refine lv_iload_n hx hb dX3_runs_0 rfl (lv_at hl 1 rfl) ?_
  refine lv_lookup (x := 1) (off := 115) (tgt := 116) hx hb dX3_runs_1 (by decide) (by decide) (by decide) ?_
  refine lv_iload_n hx hb dX3_runs_116 rfl (lv_at hl 3 rfl) ?_
  refine lv_aload_n hx hb dX3_runs_117 rfl (lv_at hl 0 rfl) ?_
  refine sl_gX_36_5_3 (v := (f 36 5)) hx hb hts hown hK hP rfl dX3_runs_118 ?_
  refine lv_topi (fun v_2 ev_2 => ?_)
  have q_3 : 0 ≤ v_2.toInt ∧ v_2.toInt ≤ 49 := by rw [ev_2]; exact hI 36 5
  refine lv_iadd hx hb dX3_runs_121 ?_
  refine lv_topi (fun v_4 ev_4 => ?_)
  have q_5 : (f 36 3).toInt = 4 := (congrArg Int32.toInt (show f 36 3 = 4 from hf_36_3)).trans (by decide)
  exact hret _ _ _ _ (v_4) f L Q dX3_runs_122 hP hS ⟨⟨rfl, rfl, rfl⟩, trivial, ⟨by omega, by omega⟩, (Eq.trans (Eq.symm (hs.trans ((spl_e ev_2 (spl_e ev_4 rfl))))) hsp)⟩

abbrev WkX3_does_3_0_3_f3_f3 : List (Nat × Nat × Option Nat) := [(36, 36, some 3), (38, 38, some 3)]
set_option maxHeartbeats 4000000 in
set_option maxRecDepth 100000 in
theorem kX3_does_3_0_3_f3_f3 (l : Launch) (D : va_G) (ca : Nat → ClassId) (za h : Nat → Nat) (hh : sgH 52 h) (f : sg_F) (L : sg_L) (Q : sg_Q) (hI : sgI loX hiX f) (x2 : Int32) (hf_36_3 : f 36 3 = 3) (hf_36_4 : f 36 4 = 3) (p0 : 3 ≤ (f 36 3).toInt ∧ (f 36 3).toInt ≤ 3) (sz : Nat) : Met l yX3_does gwX3_does { frames := 1, cells := 0, slots := 0, locals := 24 } (sgP D vwCl (tyX ca) 52 h (eX ca h) zcX za f L Q sz [.ref (h 36), .int 3, .int 0, .int x2, .int 3]) (sgQi D vwCl 52 h (eX ca h) sz (fun r f1 L1 Q1 => ((sgI loX hiX f1 ∧ sgK WkX3_does_3_0_3_f3_f3 f f1 ∧ L1 = L ∧ Q1 = Q) ∧ True ∧ (4 ≤ (f1 36 3).toInt ∧ (f1 36 3).toInt ≤ 4) ∧ (r, f1) = sX3_does_3_0_3_f3_f3 x2 f L))) 0 0 (sgA 52 h sz) := by
  refine sg_ofWi (cc := cX3_does) (maxL := 7) RX3 (by decide) rfl rfl (Nat.le_of_ble_eq_true rfl) ?_
  intro p e s m below meth cd Qz ls hx hb hml hown hts hK hZ hP hS hl hret
  have hA := sgY.self (n := 52) (h := h) (sz := s.heap.size)
  have hl : lv_has ls 7 [(0, .ref (h 36)), (1, .int 3), (2, .int 0), (3, .int x2), (4, .int 3)] := hl
  obtain ⟨H, hH⟩ : ∃ z : Heap, z = s.heap := ⟨_, rfl⟩
  obtain ⟨locs, hlo⟩ : ∃ z : List Loc, z = [] := ⟨_, rfl⟩
  have hP : va_P D vwCl (sgw 52 h (eX ca h) f L Q) H := by rw [hH]; exact hP
  have hS : va_S (sgA 52 h s.heap.size) s.heap H locs := by rw [hH, hlo]; exact hS
  suffices hgo : W p l e ({ frames := 1, cells := 0, slots := 0, locals := 24 }) s m ([.ref (h 36), .int 3, .int 0, .int x2, .int 3] : List Value).toArray below meth cd H locs 0 0 Qz (F0 m 0 ls []) by rw [hH, hlo] at hgo; exact hgo
  clear hH hlo
  obtain ⟨sp, hsp⟩ : ∃ z : Int32 × sg_F, z = sX3_does_3_0_3_f3_f3 x2 f L := ⟨_, rfl⟩
  have hs : sp = sX3_does_3_0_3_f3_f3 x2 f L := hsp
  have o_1 : (f 36 3).toInt = 3 := (congrArg Int32.toInt (show f 36 3 = 3 from hf_36_3)).trans (by decide)
  have hF : sgK WkX3_does_3_0_3_f3_f3 f f := sgK.rf
  have blk_53 : ∀ (fp_53 : sg_F) (H : Heap) (locs : List Loc) (ls : Array Slot), sp = sX3_does_3_0_3_f3_f3_b53 x2 fp_53 L → 3 ≤ (fp_53 36 3).toInt ∧ (fp_53 36 3).toInt ≤ 3 → 3 ≤ (fp_53 36 4).toInt ∧ (fp_53 36 4).toInt ≤ 3 → sgI loX hiX fp_53 → sgK WkX3_does_3_0_3_f3_f3 f fp_53 → va_P D vwCl (sgw 52 h (eX ca h) fp_53 L Q) H → va_S (sgA 52 h s.heap.size) s.heap H locs → lv_has ls 7 [(0, .ref (h 36)), (3, .int x2), (4, .int 3), (5, .int 0), (6, .int 1)] → W p l e ({ frames := 1, cells := 0, slots := 0, locals := 24 }) s m ([.ref (h 36), .int 3, .int 0, .int x2, .int 3] : List Value).toArray below meth cd H locs 0 0 Qz (F0 m 53 ls []) := by
    intro fp_53 H locs ls hs hy0_53 hy1_53 hI hF hP hS hl
    obtain ⟨v_2, ev_2⟩ : ∃ z : Int32, z = fp_53 36 3 := ⟨_, rfl⟩
    have q_3 : 0 ≤ v_2.toInt ∧ v_2.toInt ≤ 19 := by rw [ev_2]; exact hI 36 3
    have q_4 : (fp_53 36 3).toInt = v_2.toInt := by rw [ev_2]
    obtain ⟨v_5, ev_5⟩ : ∃ z : Int32, z = fp_53 36 4 := ⟨_, rfl⟩
    have q_6 : 0 ≤ v_5.toInt ∧ v_5.toInt ≤ 7 := by rw [ev_5]; exact hI 36 4
    have q_7 : (fp_53 36 4).toInt = v_5.toInt := by rw [ev_5]
    have m_8 : fp_53 36 4 = 3 := (hF 36 4 (by decide)).trans hf_36_4
    refine lv_aload_n hx hb dX3_does_53 rfl (lv_at hl 0 rfl) ?_
    refine lv_dup hx hb dX3_does_54 rfl ?_
    refine sl_gX_36_3_3 (v := v_2) hx hb hts hown hK hP (show fp_53 36 3 = v_2 from ev_2.symm) dX3_does_55 ?_
    refine lv_iconst (v := 1) hx hb dX3_does_58 ic_1 ?_
    refine lv_iadd hx hb dX3_does_59 ?_
    refine lv_topi (fun v_9 ev_9 => ?_)
    have q_10 : v_9.toInt = v_2.toInt + 1 := by rw [ev_9]; first | exact cm_add ti_1 (by omega) (by omega) | (have k1 : (1 : Int32).toInt = 1 := ti_1; exact (bn_addI (by omega) (by omega)).trans (by omega))
    refine sl_pX_36_3_3 (x := v_9) hx hb hts hown hh hA hK hP hS dX3_does_60 (fun f_11 H locs ef_11 hP hS => ?_)
    have hI : sgI loX hiX f_11 := by rw [ef_11]; exact sgI.put hI 36 3 (show 0 ≤ (v_9 : Int32).toInt ∧ (v_9 : Int32).toInt ≤ 19 from ⟨by omega, by omega⟩)
    have hF : sgK WkX3_does_3_0_3_f3_f3 f f_11 := sgK.put hF ef_11 (by rfl)
    refine lv_aload_n hx hb dX3_does_63 rfl (lv_at hl 0 rfl) ?_
    refine lv_iload hx hb dX3_does_64 (lv_at hl 4 rfl) ?_
    refine sg_gets hx hb hZ 2 rfl hS hown (hts _ (List.mem_cons_of_mem _ mw_174)) (fun _ h9 => h9) dX3_does_66 ?_
    refine lv_iload hx hb dX3_does_69 (lv_at hl 3 rfl) ?_
    refine sg_sald hx hb hZ 2 rfl hS (y := 0) (N := 8) (vp_in_iff.mpr (by decide)) dX3_does_71 ?_
    refine W.eq (g2 := F0 m 72 ls [.int (-1), .int 1, .ref (h 36)]) (by rfl) ?_
    refine lv_iload_n hx hb dX3_does_72 rfl (lv_at hl 1 rfl) ?_
    refine lv_iload hx hb dX3_does_73 (lv_at hl 2 rfl) ?_
    refine lv_iconst (v := 1) hx hb dX3_does_75 ic_1 ?_
    refine lv_iadd hx hb dX3_does_76 ?_
    refine W.eq (g2 := F0 m 77 ls [.int 4, .int x2, .int (-1), .int 1, .ref (h 36)]) (by rw [show (3 + 1 : Int32) = 4 from by decide]) ?_
    have c_12 : v_9 = 4 := Int32.toInt_inj.mp (by have k9 : (4 : Int32).toInt = 4 := ti_4; omega)
    have q_13 : (f_11 36 3).toInt = 4 := (congrArg Int32.toInt (show f_11 36 3 = 4 from (Eq.trans (by rw [ef_11, sg_up_s, sgu_s]) c_12))).trans (by decide)
    refine sg_calli (va_runV (As := [.int 1, .int (-1), .int x2, .int 4]) (rest := []) ⟨hx, hb, hml, hown, hts⟩ (kX3_runs_1_m1_4_f4_f3 l D ca za h hh f_11 L Q hI x2 (Eq.trans (by rw [ef_11, sg_up_s, sgu_s]) c_12) (by rw [ef_11, sg_up_s, sgu_n (by decide)]; exact m_8) (by have k0 : (1 : Int32).toInt = 1 := ti_1; have k1 : ((-1) : Int32).toInt = (-1) := ti_m1; have k3 : (4 : Int32).toInt = 4 := ti_4; omega) H.size) (sl_c3_runs_0_0_0_0_3 hts ⟨Nat.le_of_ble_eq_true rfl, Nat.le_of_ble_eq_true rfl⟩) (sl_vX_36 hA hK hP hS hZ) rfl rfl hl.1 rfl (lv_room (Nat.le_of_ble_eq_true rfl)) dX3_does_77 ⟨Nat.le_refl _, Nat.le_refl _⟩) hA hS (fun r_18 f_15 L_16 Q_17 H locs hq hP hS => ?_)
    obtain ⟨⟨ef9, eL9, eQ9⟩, hq, p_19, u_20⟩ := hq
    rw [ef9, eL9, eQ9] at hP; clear ef9 eL9 eQ9
    have k_23 : (1 : Int32).toInt = 1 := by decide
    have k_24 : ((-1) : Int32).toInt = (-1) := by decide
    have k_25 : (4 : Int32).toInt = 4 := by decide
    exact hret _ _ _ _ (r_18) f_11 L Q dX3_does_80 hP hS ⟨⟨hI, hF, rfl, rfl⟩, trivial, ⟨by omega, by omega⟩, (Eq.trans (Eq.symm (hs.trans ((spl_e ev_2 (spl_e ev_5 (spl_e ev_9 (spl_e ef_11 (spl_e u_20 rfl)))))))) hsp)⟩
  refine lv_iload_n hx hb dX3_does_0 rfl (lv_at hl 1 rfl) ?_
  refine lv_iload_n hx hb dX3_does_1 rfl (lv_at hl 2 rfl) ?_
  refine sg_calli (va_runS (As := [.int 3, .int 0]) (rest := []) ⟨hx, hb, hml, hown, hts⟩ (kX3_ownerOf_3_0 l D ca za h hh f L Q hI H.size) (va_cwS 2 hts (gw_S (fun _ h => List.mem_cons_of_mem _ h) mw_189 mw_190 mw_47 mw_188) rfl rfl rfl hd_yX3_ownerOf.2 ⟨Nat.le_of_ble_eq_true rfl, Nat.le_of_ble_eq_true rfl⟩) (sg_preS hA hK hP hS hZ) rfl rfl hl.1 rfl (lv_room (Nat.le_of_ble_eq_true rfl)) dX3_does_2 ⟨Nat.le_refl _, Nat.le_refl _⟩) hA hS (fun r_31 f_28 L_29 Q_30 H locs hq hP hS => ?_)
  obtain ⟨⟨ef9, eL9, eQ9⟩, hq, u_32⟩ := hq
  rw [ef9, eL9, eQ9] at hP; clear ef9 eL9 eQ9
  obtain rfl : r_31 = 0 := Int32.toInt_inj.mp (by have k9 : (0 : Int32).toInt = 0 := ti_0; omega)
  refine lv_istore (lv' := [(5, .int 0), (0, .ref (h 36)), (1, .int 3), (2, .int 0), (3, .int x2), (4, .int 3)]) hx hb dX3_does_5 hl (by decide) rfl (fun ls hl => ?_)
  refine lv_iload hx hb dX3_does_7 (lv_at hl 0 rfl) ?_
  refine lv_if_lt (tgt := 19) hx hb dX3_does_9 (by decide) (fun c => absurd c (by decide)) (fun c => ?_)
  refine lv_iload hx hb dX3_does_12 (lv_at hl 5 rfl) ?_
  refine lv_bipush (v := 40) hx hb dX3_does_14 bp_40 ?_
  refine lv_icmp_le (tgt := 21) hx hb dX3_does_16 (by decide) (fun c => ?_) (fun c => absurd c (by decide))
  refine sg_gets hx hb hZ 3 rfl hS hown (hts _ (List.mem_cons_of_mem _ mw_173)) (fun _ h9 => h9) dX3_does_21 ?_
  refine lv_iload hx hb dX3_does_24 (lv_at hl 0 rfl) ?_
  refine lv_iconst (v := 4) hx hb dX3_does_26 ic_4 ?_
  refine lv_imul hx hb dX3_does_27 ?_
  refine W.eq (g2 := F0 m 28 ls [.int 0, .ref (za 3)]) (by rw [show (0 * 4 : Int32) = 0 from by decide]) ?_
  refine lv_iload_n hx hb dX3_does_28 rfl (lv_at hl 3 rfl) ?_
  refine lv_iadd hx hb dX3_does_29 ?_
  refine W.eq (g2 := F0 m 30 ls [.int 0, .ref (za 3)]) (by rw [show (0 + 0 : Int32) = 0 from by decide]) ?_
  refine sg_sald hx hb hZ 3 rfl hS (y := 0) (N := 32) (vp_in_iff.mpr (by decide)) dX3_does_30 ?_
  refine W.eq (g2 := F0 m 31 ls [.int 1]) (by rfl) ?_
  refine lv_istore (lv' := [(6, .int 1), (5, .int 0), (0, .ref (h 36)), (1, .int 3), (2, .int 0), (3, .int x2), (4, .int 3)]) hx hb dX3_does_31 hl (by decide) rfl (fun ls hl => ?_)
  refine lv_aload_n hx hb dX3_does_33 rfl (lv_at hl 2 rfl) ?_
  refine sl_gX_36_3_3 (v := 3) hx hb hts hown hK hP (show f 36 3 = 3 from hf_36_3) dX3_does_34 ?_
  refine lv_bipush (v := 24) hx hb dX3_does_37 bp_24 ?_
  refine lv_icmp_ge (tgt := 53) hx hb dX3_does_39 (by decide) (fun c => absurd c (by decide)) (fun c => ?_)
  refine lv_aload_n hx hb dX3_does_42 rfl (lv_at hl 2 rfl) ?_
  refine sl_gX_36_1_3 hx hb hts hown hK hP dX3_does_43 ?_
  refine lv_aload_n hx hb dX3_does_46 rfl (lv_at hl 2 rfl) ?_
  refine sl_gX_36_3_3 (v := 3) hx hb hts hown hK hP (show f 36 3 = 3 from hf_36_3) dX3_does_47 ?_
  refine lv_iload hx hb dX3_does_50 (lv_at hl 0 rfl) ?_
  refine sg_iast hx hb hh hA hK hP hS 38 (by decide) 0 (fun _ => rfl) rfl (i := 3) (x := 1) (vp_in_iff.mpr (by decide)) dX3_does_52 (fun f_33 H locs ef_33 hP hS => ?_)
  have ef_33 : f_33 = sg_up f 38 (sgu (f 38) 3 1) := ef_33
  have hI : sgI loX hiX f_33 := by rw [ef_33]; exact sgI.put hI 38 3 (show 0 ≤ (1 : Int32).toInt ∧ (1 : Int32).toInt ≤ 81 from by decide)
  have hF : sgK WkX3_does_3_0_3_f3_f3 f f_33 := sgK.put hF ef_33 (by rfl)
  exact blk_53 f_33 _ _ _ (hs.trans ((spl_e u_32 (spl_e ef_33 rfl)))) (by have zz36_3 : (f_33 36 3).toInt = 3 := (congrArg Int32.toInt (show f_33 36 3 = 3 from (by rw [ef_33, sg_up_n (by decide)]; exact hf_36_3))).trans (by decide); exact ⟨by omega, by omega⟩) (by have zz36_4 : (f_33 36 4).toInt = 3 := (congrArg Int32.toInt (show f_33 36 4 = 3 from (by rw [ef_33, sg_up_n (by decide)]; exact hf_36_4))).trans (by decide); exact ⟨by omega, by omega⟩) hI hF hP hS (lv_sub hl [2, 5, 6, 1, 0] rfl)

abbrev WkX3_runs_10_m1_3_f3_f3 : List (Nat × Nat × Option Nat) := [(36, 36, some 3), (38, 38, some 3)]
set_option maxHeartbeats 4000000 in
set_option maxRecDepth 100000 in
theorem kX3_runs_10_m1_3_f3_f3 (l : Launch) (D : va_G) (ca : Nat → ClassId) (za h : Nat → Nat) (hh : sgH 52 h) (f : sg_F) (L : sg_L) (Q : sg_Q) (hI : sgI loX hiX f) (x2 : Int32) (hf_36_3 : f 36 3 = 3) (hf_36_4 : f 36 4 = 3) (p0 : 3 ≤ (f 36 3).toInt ∧ (f 36 3).toInt ≤ 3) (sz : Nat) : Met l yX3_runs gwX3_runs { frames := 2, cells := 0, slots := 0, locals := 50 } (sgP D vwCl (tyX ca) 52 h (eX ca h) zcX za f L Q sz [.ref (h 36), .int 10, .int (-1), .int x2, .int 3]) (sgQi D vwCl 52 h (eX ca h) sz (fun r f1 L1 Q1 => ((sgI loX hiX f1 ∧ sgK WkX3_runs_10_m1_3_f3_f3 f f1 ∧ L1 = L ∧ Q1 = Q) ∧ True ∧ (4 ≤ (f1 36 3).toInt ∧ (f1 36 3).toInt ≤ 4) ∧ (r, f1) = sX3_runs_10_m1_3_f3_f3 x2 f L))) 0 0 (sgA 52 h sz) := by
  refine sg_ofWi (cc := cX3_runs) (maxL := 5) RX3 (by decide) rfl rfl (Nat.le_of_ble_eq_true rfl) ?_
  intro p e s m below meth cd Qz ls hx hb hml hown hts hK hZ hP hS hl hret
  have hA := sgY.self (n := 52) (h := h) (sz := s.heap.size)
  have hl : lv_has ls 5 [(0, .ref (h 36)), (1, .int 10), (2, .int (-1)), (3, .int x2), (4, .int 3)] := hl
  obtain ⟨H, hH⟩ : ∃ z : Heap, z = s.heap := ⟨_, rfl⟩
  obtain ⟨locs, hlo⟩ : ∃ z : List Loc, z = [] := ⟨_, rfl⟩
  have hP : va_P D vwCl (sgw 52 h (eX ca h) f L Q) H := by rw [hH]; exact hP
  have hS : va_S (sgA 52 h s.heap.size) s.heap H locs := by rw [hH, hlo]; exact hS
  suffices hgo : W p l e ({ frames := 2, cells := 0, slots := 0, locals := 50 }) s m ([.ref (h 36), .int 10, .int (-1), .int x2, .int 3] : List Value).toArray below meth cd H locs 0 0 Qz (F0 m 0 ls []) by rw [hH, hlo] at hgo; exact hgo
  clear hH hlo
  obtain ⟨sp, hsp⟩ : ∃ z : Int32 × sg_F, z = sX3_runs_10_m1_3_f3_f3 x2 f L := ⟨_, rfl⟩
  have hs : sp = sX3_runs_10_m1_3_f3_f3 x2 f L := hsp
  have o_1 : (f 36 3).toInt = 3 := (congrArg Int32.toInt (show f 36 3 = 3 from hf_36_3)).trans (by decide)
  have hF : sgK WkX3_runs_10_m1_3_f3_f3 f f := sgK.rf
  refine lv_iload_n hx hb dX3_runs_0 rfl (lv_at hl 1 rfl) ?_
  refine lv_lookup (x := 10) (off := 148) (tgt := 149) hx hb dX3_runs_1 (by decide) (by decide) (by decide) ?_
  refine lv_aload_n hx hb dX3_runs_149 rfl (lv_at hl 0 rfl) ?_
  refine lv_aload_n hx hb dX3_runs_150 rfl (lv_at hl 0 rfl) ?_
  refine sl_gX_36_4_3 (v := 3) hx hb hts hown hK hP (show f 36 4 = 3 from hf_36_4) dX3_runs_151 ?_
  refine lv_iconst (v := 0) hx hb dX3_runs_154 ic_0 ?_
  refine lv_iload_n hx hb dX3_runs_155 rfl (lv_at hl 3 rfl) ?_
  refine lv_iload hx hb dX3_runs_156 (lv_at hl 4 rfl) ?_
  have q_2 : (f 36 3).toInt = 3 := (congrArg Int32.toInt (show f 36 3 = 3 from hf_36_3)).trans (by decide)
  refine sg_calli (va_runV (As := [.int 3, .int 0, .int x2, .int 3]) (rest := []) ⟨hx, hb, hml, hown, hts⟩ (kX3_does_3_0_3_f3_f3 l D ca za h hh f L Q hI x2 hf_36_3 hf_36_4 (by have k0 : (3 : Int32).toInt = 3 := ti_3; have k1 : (0 : Int32).toInt = 0 := ti_0; have k3 : (3 : Int32).toInt = 3 := ti_3; omega) H.size) (sl_c3_does_1_0_0_24_3 hts ⟨Nat.le_of_ble_eq_true rfl, Nat.le_of_ble_eq_true rfl⟩) (sl_vX_36 hA hK hP hS hZ) rfl rfl hl.1 rfl (lv_room (Nat.le_of_ble_eq_true rfl)) dX3_runs_158 ⟨Nat.le_refl _, Nat.le_refl _⟩) hA hS (fun r_7 f_4 L_5 Q_6 H locs hq hP hS => ?_)
  obtain ⟨⟨hI, hk_f_4, eL9, eQ9⟩, hq, p_8, u_9⟩ := hq
  rw [eL9, eQ9] at hP; clear eL9 eQ9
  have hF : sgK WkX3_runs_10_m1_3_f3_f3 f f_4 := sgK.tr hF hk_f_4 (by decide +kernel)
  obtain ⟨v_10, ev_10⟩ : ∃ z : Int32, z = f_4 36 3 := ⟨_, rfl⟩
  have q_11 : 0 ≤ v_10.toInt ∧ v_10.toInt ≤ 19 := by rw [ev_10]; exact hI 36 3
  have q_12 : (f_4 36 3).toInt = v_10.toInt := (congrArg Int32.toInt (show f_4 36 3 = v_10 from ev_10.symm))
  have k_14 : (3 : Int32).toInt = 3 := by decide
  have k_15 : (0 : Int32).toInt = 0 := by decide
  have k_16 : (3 : Int32).toInt = 3 := by decide
  refine lv_iconst (v := 2) hx hb dX3_runs_161 ic_2 ?_
  refine lv_imul hx hb dX3_runs_162 ?_
  refine lv_topi (fun v_17 ev_17 => ?_)
  exact hret _ _ _ _ (v_17) f_4 L Q dX3_runs_163 hP hS ⟨⟨hI, hF, rfl, rfl⟩, trivial, ⟨by omega, by omega⟩, (Eq.trans (Eq.symm (hs.trans ((spl2_e u_9 (spl_e ev_10 (spl_e ev_17 rfl)))))) hsp)⟩

abbrev WkX3_does_0_1_2_f2_f3 : List (Nat × Nat × Option Nat) := [(36, 36, some 3), (38, 38, some 2), (38, 38, some 3)]
set_option maxHeartbeats 4000000 in
set_option maxRecDepth 100000 in
theorem kX3_does_0_1_2_f2_f3 (l : Launch) (D : va_G) (ca : Nat → ClassId) (za h : Nat → Nat) (hh : sgH 52 h) (f : sg_F) (L : sg_L) (Q : sg_Q) (hI : sgI loX hiX f) (x2 : Int32) (hf_36_3 : f 36 3 = 2) (hf_36_4 : f 36 4 = 3) (p0 : 2 ≤ (f 36 3).toInt ∧ (f 36 3).toInt ≤ 2) (sz : Nat) : Met l yX3_does gwX3_does { frames := 3, cells := 0, slots := 0, locals := 74 } (sgP D vwCl (tyX ca) 52 h (eX ca h) zcX za f L Q sz [.ref (h 36), .int 0, .int 1, .int x2, .int 2]) (sgQi D vwCl 52 h (eX ca h) sz (fun r f1 L1 Q1 => ((sgI loX hiX f1 ∧ sgK WkX3_does_0_1_2_f2_f3 f f1 ∧ L1 = L ∧ Q1 = Q) ∧ True ∧ (4 ≤ (f1 36 3).toInt ∧ (f1 36 3).toInt ≤ 4) ∧ (r, f1) = sX3_does_0_1_2_f2_f3 x2 f L))) 0 0 (sgA 52 h sz) := by
  refine sg_ofWi (cc := cX3_does) (maxL := 7) RX3 (by decide) rfl rfl (Nat.le_of_ble_eq_true rfl) ?_
  intro p e s m below meth cd Qz ls hx hb hml hown hts hK hZ hP hS hl hret
  have hA := sgY.self (n := 52) (h := h) (sz := s.heap.size)
  have hl : lv_has ls 7 [(0, .ref (h 36)), (1, .int 0), (2, .int 1), (3, .int x2), (4, .int 2)] := hl
  obtain ⟨H, hH⟩ : ∃ z : Heap, z = s.heap := ⟨_, rfl⟩
  obtain ⟨locs, hlo⟩ : ∃ z : List Loc, z = [] := ⟨_, rfl⟩
  have hP : va_P D vwCl (sgw 52 h (eX ca h) f L Q) H := by rw [hH]; exact hP
  have hS : va_S (sgA 52 h s.heap.size) s.heap H locs := by rw [hH, hlo]; exact hS
  suffices hgo : W p l e ({ frames := 3, cells := 0, slots := 0, locals := 74 }) s m ([.ref (h 36), .int 0, .int 1, .int x2, .int 2] : List Value).toArray below meth cd H locs 0 0 Qz (F0 m 0 ls []) by rw [hH, hlo] at hgo; exact hgo
  clear hH hlo
  obtain ⟨sp, hsp⟩ : ∃ z : Int32 × sg_F, z = sX3_does_0_1_2_f2_f3 x2 f L := ⟨_, rfl⟩
  have hs : sp = sX3_does_0_1_2_f2_f3 x2 f L := hsp
  have o_1 : (f 36 3).toInt = 2 := (congrArg Int32.toInt (show f 36 3 = 2 from hf_36_3)).trans (by decide)
  have hF : sgK WkX3_does_0_1_2_f2_f3 f f := sgK.rf
  have blk_53 : ∀ (fp_53 : sg_F) (H : Heap) (locs : List Loc) (ls : Array Slot), sp = sX3_does_0_1_2_f2_f3_b53 x2 fp_53 L → 2 ≤ (fp_53 36 3).toInt ∧ (fp_53 36 3).toInt ≤ 2 → 3 ≤ (fp_53 36 4).toInt ∧ (fp_53 36 4).toInt ≤ 3 → sgI loX hiX fp_53 → sgK WkX3_does_0_1_2_f2_f3 f fp_53 → va_P D vwCl (sgw 52 h (eX ca h) fp_53 L Q) H → va_S (sgA 52 h s.heap.size) s.heap H locs → lv_has ls 7 [(0, .ref (h 36)), (3, .int x2), (4, .int 2), (5, .int 0), (6, .int 10)] → W p l e ({ frames := 3, cells := 0, slots := 0, locals := 74 }) s m ([.ref (h 36), .int 0, .int 1, .int x2, .int 2] : List Value).toArray below meth cd H locs 0 0 Qz (F0 m 53 ls []) := by
    intro fp_53 H locs ls hs hy0_53 hy1_53 hI hF hP hS hl
    obtain ⟨v_2, ev_2⟩ : ∃ z : Int32, z = fp_53 36 3 := ⟨_, rfl⟩
    have q_3 : 0 ≤ v_2.toInt ∧ v_2.toInt ≤ 19 := by rw [ev_2]; exact hI 36 3
    have q_4 : (fp_53 36 3).toInt = v_2.toInt := by rw [ev_2]
    obtain ⟨v_5, ev_5⟩ : ∃ z : Int32, z = fp_53 36 4 := ⟨_, rfl⟩
    have q_6 : 0 ≤ v_5.toInt ∧ v_5.toInt ≤ 7 := by rw [ev_5]; exact hI 36 4
    have q_7 : (fp_53 36 4).toInt = v_5.toInt := by rw [ev_5]
    have m_8 : fp_53 36 4 = 3 := (hF 36 4 (by decide)).trans hf_36_4
    refine lv_aload_n hx hb dX3_does_53 rfl (lv_at hl 0 rfl) ?_
    refine lv_dup hx hb dX3_does_54 rfl ?_
    refine sl_gX_36_3_3 (v := v_2) hx hb hts hown hK hP (show fp_53 36 3 = v_2 from ev_2.symm) dX3_does_55 ?_
    refine lv_iconst (v := 1) hx hb dX3_does_58 ic_1 ?_
    refine lv_iadd hx hb dX3_does_59 ?_
    refine lv_topi (fun v_9 ev_9 => ?_)
    have q_10 : v_9.toInt = v_2.toInt + 1 := by rw [ev_9]; first | exact cm_add ti_1 (by omega) (by omega) | (have k1 : (1 : Int32).toInt = 1 := ti_1; exact (bn_addI (by omega) (by omega)).trans (by omega))
    refine sl_pX_36_3_3 (x := v_9) hx hb hts hown hh hA hK hP hS dX3_does_60 (fun f_11 H locs ef_11 hP hS => ?_)
    have hI : sgI loX hiX f_11 := by rw [ef_11]; exact sgI.put hI 36 3 (show 0 ≤ (v_9 : Int32).toInt ∧ (v_9 : Int32).toInt ≤ 19 from ⟨by omega, by omega⟩)
    have hF : sgK WkX3_does_0_1_2_f2_f3 f f_11 := sgK.put hF ef_11 (by rfl)
    refine lv_aload_n hx hb dX3_does_63 rfl (lv_at hl 0 rfl) ?_
    refine lv_iload hx hb dX3_does_64 (lv_at hl 4 rfl) ?_
    refine sg_gets hx hb hZ 2 rfl hS hown (hts _ (List.mem_cons_of_mem _ mw_174)) (fun _ h9 => h9) dX3_does_66 ?_
    refine lv_iload hx hb dX3_does_69 (lv_at hl 3 rfl) ?_
    refine sg_sald hx hb hZ 2 rfl hS (y := 0) (N := 8) (vp_in_iff.mpr (by decide)) dX3_does_71 ?_
    refine W.eq (g2 := F0 m 72 ls [.int (-1), .int 10, .ref (h 36)]) (by rfl) ?_
    refine lv_iload_n hx hb dX3_does_72 rfl (lv_at hl 1 rfl) ?_
    refine lv_iload hx hb dX3_does_73 (lv_at hl 2 rfl) ?_
    refine lv_iconst (v := 1) hx hb dX3_does_75 ic_1 ?_
    refine lv_iadd hx hb dX3_does_76 ?_
    refine W.eq (g2 := F0 m 77 ls [.int 3, .int x2, .int (-1), .int 10, .ref (h 36)]) (by rw [show (2 + 1 : Int32) = 3 from by decide]) ?_
    have c_12 : v_9 = 3 := Int32.toInt_inj.mp (by have k9 : (3 : Int32).toInt = 3 := ti_3; omega)
    have q_13 : (f_11 36 3).toInt = 3 := (congrArg Int32.toInt (show f_11 36 3 = 3 from (Eq.trans (by rw [ef_11, sg_up_s, sgu_s]) c_12))).trans (by decide)
    refine sg_calli (va_runV (As := [.int 10, .int (-1), .int x2, .int 3]) (rest := []) ⟨hx, hb, hml, hown, hts⟩ (kX3_runs_10_m1_3_f3_f3 l D ca za h hh f_11 L Q hI x2 (Eq.trans (by rw [ef_11, sg_up_s, sgu_s]) c_12) (by rw [ef_11, sg_up_s, sgu_n (by decide)]; exact m_8) (by have k0 : (10 : Int32).toInt = 10 := ti_10; have k1 : ((-1) : Int32).toInt = (-1) := ti_m1; have k3 : (3 : Int32).toInt = 3 := ti_3; omega) H.size) (sl_c3_runs_2_0_0_50_3 hts ⟨Nat.le_of_ble_eq_true rfl, Nat.le_of_ble_eq_true rfl⟩) (sl_vX_36 hA hK hP hS hZ) rfl rfl hl.1 rfl (lv_room (Nat.le_of_ble_eq_true rfl)) dX3_does_77 ⟨Nat.le_refl _, Nat.le_refl _⟩) hA hS (fun r_18 f_15 L_16 Q_17 H locs hq hP hS => ?_)
    obtain ⟨⟨hI, hk_f_15, eL9, eQ9⟩, hq, p_19, u_20⟩ := hq
    rw [eL9, eQ9] at hP; clear eL9 eQ9
    have hF : sgK WkX3_does_0_1_2_f2_f3 f f_15 := sgK.tr hF hk_f_15 (by decide +kernel)
    obtain ⟨v_21, ev_21⟩ : ∃ z : Int32, z = f_15 36 3 := ⟨_, rfl⟩
    have q_22 : 0 ≤ v_21.toInt ∧ v_21.toInt ≤ 19 := by rw [ev_21]; exact hI 36 3
    have q_23 : (f_15 36 3).toInt = v_21.toInt := (congrArg Int32.toInt (show f_15 36 3 = v_21 from ev_21.symm))
    have k_25 : (10 : Int32).toInt = 10 := by decide
    have k_26 : ((-1) : Int32).toInt = (-1) := by decide
    have k_27 : (3 : Int32).toInt = 3 := by decide
    exact hret _ _ _ _ (r_18) f_15 L Q dX3_does_80 hP hS ⟨⟨hI, hF, rfl, rfl⟩, trivial, ⟨by omega, by omega⟩, (Eq.trans (Eq.symm (hs.trans ((spl_e ev_2 (spl_e ev_5 (spl_e ev_9 (spl_e ef_11 (spl2_e u_20 (spl_e ev_21 rfl))))))))) hsp)⟩
  refine lv_iload_n hx hb dX3_does_0 rfl (lv_at hl 1 rfl) ?_
  refine lv_iload_n hx hb dX3_does_1 rfl (lv_at hl 2 rfl) ?_
  refine sg_calli (va_runS (As := [.int 0, .int 1]) (rest := []) ⟨hx, hb, hml, hown, hts⟩ (kX3_ownerOf_0_1 l D ca za h hh f L Q hI H.size) (va_cwS 2 hts (gw_S (fun _ h => List.mem_cons_of_mem _ h) mw_189 mw_190 mw_47 mw_188) rfl rfl rfl hd_yX3_ownerOf.2 ⟨Nat.le_of_ble_eq_true rfl, Nat.le_of_ble_eq_true rfl⟩) (sg_preS hA hK hP hS hZ) rfl rfl hl.1 rfl (lv_room (Nat.le_of_ble_eq_true rfl)) dX3_does_2 ⟨Nat.le_refl _, Nat.le_refl _⟩) hA hS (fun r_33 f_30 L_31 Q_32 H locs hq hP hS => ?_)
  obtain ⟨⟨ef9, eL9, eQ9⟩, hq, u_34⟩ := hq
  rw [ef9, eL9, eQ9] at hP; clear ef9 eL9 eQ9
  obtain rfl : r_33 = 0 := Int32.toInt_inj.mp (by have k9 : (0 : Int32).toInt = 0 := ti_0; omega)
  refine lv_istore (lv' := [(5, .int 0), (0, .ref (h 36)), (1, .int 0), (2, .int 1), (3, .int x2), (4, .int 2)]) hx hb dX3_does_5 hl (by decide) rfl (fun ls hl => ?_)
  refine lv_iload hx hb dX3_does_7 (lv_at hl 0 rfl) ?_
  refine lv_if_lt (tgt := 19) hx hb dX3_does_9 (by decide) (fun c => absurd c (by decide)) (fun c => ?_)
  refine lv_iload hx hb dX3_does_12 (lv_at hl 5 rfl) ?_
  refine lv_bipush (v := 40) hx hb dX3_does_14 bp_40 ?_
  refine lv_icmp_le (tgt := 21) hx hb dX3_does_16 (by decide) (fun c => ?_) (fun c => absurd c (by decide))
  refine sg_gets hx hb hZ 3 rfl hS hown (hts _ (List.mem_cons_of_mem _ mw_173)) (fun _ h9 => h9) dX3_does_21 ?_
  refine lv_iload hx hb dX3_does_24 (lv_at hl 0 rfl) ?_
  refine lv_iconst (v := 4) hx hb dX3_does_26 ic_4 ?_
  refine lv_imul hx hb dX3_does_27 ?_
  refine W.eq (g2 := F0 m 28 ls [.int 0, .ref (za 3)]) (by rw [show (0 * 4 : Int32) = 0 from by decide]) ?_
  refine lv_iload_n hx hb dX3_does_28 rfl (lv_at hl 3 rfl) ?_
  refine lv_iadd hx hb dX3_does_29 ?_
  refine W.eq (g2 := F0 m 30 ls [.int 1, .ref (za 3)]) (by rw [show (0 + 1 : Int32) = 1 from by decide]) ?_
  refine sg_sald hx hb hZ 3 rfl hS (y := 1) (N := 32) (vp_in_iff.mpr (by decide)) dX3_does_30 ?_
  refine W.eq (g2 := F0 m 31 ls [.int 10]) (by rfl) ?_
  refine lv_istore (lv' := [(6, .int 10), (5, .int 0), (0, .ref (h 36)), (1, .int 0), (2, .int 1), (3, .int x2), (4, .int 2)]) hx hb dX3_does_31 hl (by decide) rfl (fun ls hl => ?_)
  refine lv_aload_n hx hb dX3_does_33 rfl (lv_at hl 2 rfl) ?_
  refine sl_gX_36_3_3 (v := 2) hx hb hts hown hK hP (show f 36 3 = 2 from hf_36_3) dX3_does_34 ?_
  refine lv_bipush (v := 24) hx hb dX3_does_37 bp_24 ?_
  refine lv_icmp_ge (tgt := 53) hx hb dX3_does_39 (by decide) (fun c => absurd c (by decide)) (fun c => ?_)
  refine lv_aload_n hx hb dX3_does_42 rfl (lv_at hl 2 rfl) ?_
  refine sl_gX_36_1_3 hx hb hts hown hK hP dX3_does_43 ?_
  refine lv_aload_n hx hb dX3_does_46 rfl (lv_at hl 2 rfl) ?_
  refine sl_gX_36_3_3 (v := 2) hx hb hts hown hK hP (show f 36 3 = 2 from hf_36_3) dX3_does_47 ?_
  refine lv_iload hx hb dX3_does_50 (lv_at hl 0 rfl) ?_
  refine sg_iast hx hb hh hA hK hP hS 38 (by decide) 0 (fun _ => rfl) rfl (i := 2) (x := 10) (vp_in_iff.mpr (by decide)) dX3_does_52 (fun f_35 H locs ef_35 hP hS => ?_)
  have ef_35 : f_35 = sg_up f 38 (sgu (f 38) 2 10) := ef_35
  have hI : sgI loX hiX f_35 := by rw [ef_35]; exact sgI.put hI 38 2 (show 0 ≤ (10 : Int32).toInt ∧ (10 : Int32).toInt ≤ 81 from by decide)
  have hF : sgK WkX3_does_0_1_2_f2_f3 f f_35 := sgK.put hF ef_35 (by rfl)
  exact blk_53 f_35 _ _ _ (hs.trans ((spl_e u_34 (spl_e ef_35 rfl)))) (by have zz36_3 : (f_35 36 3).toInt = 2 := (congrArg Int32.toInt (show f_35 36 3 = 2 from (by rw [ef_35, sg_up_n (by decide)]; exact hf_36_3))).trans (by decide); exact ⟨by omega, by omega⟩) (by have zz36_4 : (f_35 36 4).toInt = 3 := (congrArg Int32.toInt (show f_35 36 4 = 3 from (by rw [ef_35, sg_up_n (by decide)]; exact hf_36_4))).trans (by decide); exact ⟨by omega, by omega⟩) hI hF hP hS (lv_sub hl [2, 5, 6, 1, 0] rfl)

abbrev WkX3_runs_30_0_2_f2_f3 : List (Nat × Nat × Option Nat) := [(36, 36, some 3), (38, 38, some 2), (38, 38, some 3)]
set_option maxHeartbeats 4000000 in
set_option maxRecDepth 100000 in
theorem kX3_runs_30_0_2_f2_f3 (l : Launch) (D : va_G) (ca : Nat → ClassId) (za h : Nat → Nat) (hh : sgH 52 h) (f : sg_F) (L : sg_L) (Q : sg_Q) (hI : sgI loX hiX f) (x2 : Int32) (hf_36_3 : f 36 3 = 2) (hf_36_4 : f 36 4 = 3) (p0 : 2 ≤ (f 36 3).toInt ∧ (f 36 3).toInt ≤ 2) (sz : Nat) : Met l yX3_runs gwX3_runs { frames := 4, cells := 0, slots := 0, locals := 100 } (sgP D vwCl (tyX ca) 52 h (eX ca h) zcX za f L Q sz [.ref (h 36), .int 30, .int 0, .int x2, .int 2]) (sgQi D vwCl 52 h (eX ca h) sz (fun r f1 L1 Q1 => ((sgI loX hiX f1 ∧ sgK WkX3_runs_30_0_2_f2_f3 f f1 ∧ L1 = L ∧ Q1 = Q) ∧ True ∧ (4 ≤ (f1 36 3).toInt ∧ (f1 36 3).toInt ≤ 4) ∧ (r, f1) = sX3_runs_30_0_2_f2_f3 x2 f L))) 0 0 (sgA 52 h sz) := by
  refine sg_ofWi (cc := cX3_runs) (maxL := 5) RX3 (by decide) rfl rfl (Nat.le_of_ble_eq_true rfl) ?_
  intro p e s m below meth cd Qz ls hx hb hml hown hts hK hZ hP hS hl hret
  have hA := sgY.self (n := 52) (h := h) (sz := s.heap.size)
  have hl : lv_has ls 5 [(0, .ref (h 36)), (1, .int 30), (2, .int 0), (3, .int x2), (4, .int 2)] := hl
  obtain ⟨H, hH⟩ : ∃ z : Heap, z = s.heap := ⟨_, rfl⟩
  obtain ⟨locs, hlo⟩ : ∃ z : List Loc, z = [] := ⟨_, rfl⟩
  have hP : va_P D vwCl (sgw 52 h (eX ca h) f L Q) H := by rw [hH]; exact hP
  have hS : va_S (sgA 52 h s.heap.size) s.heap H locs := by rw [hH, hlo]; exact hS
  suffices hgo : W p l e ({ frames := 4, cells := 0, slots := 0, locals := 100 }) s m ([.ref (h 36), .int 30, .int 0, .int x2, .int 2] : List Value).toArray below meth cd H locs 0 0 Qz (F0 m 0 ls []) by rw [hH, hlo] at hgo; exact hgo
  clear hH hlo
  obtain ⟨sp, hsp⟩ : ∃ z : Int32 × sg_F, z = sX3_runs_30_0_2_f2_f3 x2 f L := ⟨_, rfl⟩
  have hs : sp = sX3_runs_30_0_2_f2_f3 x2 f L := hsp
  have o_1 : (f 36 3).toInt = 2 := (congrArg Int32.toInt (show f 36 3 = 2 from hf_36_3)).trans (by decide)
  have hF : sgK WkX3_runs_30_0_2_f2_f3 f f := sgK.rf
  refine lv_iload_n hx hb dX3_runs_0 rfl (lv_at hl 1 rfl) ?_
  refine lv_lookup (x := 30) (off := 182) (tgt := 183) hx hb dX3_runs_1 (by decide) (by decide) (by decide) ?_
  refine lv_aload_n hx hb dX3_runs_183 rfl (lv_at hl 0 rfl) ?_
  refine lv_iload_n hx hb dX3_runs_184 rfl (lv_at hl 2 rfl) ?_
  refine lv_iconst (v := 1) hx hb dX3_runs_185 ic_1 ?_
  refine lv_iload_n hx hb dX3_runs_186 rfl (lv_at hl 3 rfl) ?_
  refine lv_iload hx hb dX3_runs_187 (lv_at hl 4 rfl) ?_
  have q_2 : (f 36 3).toInt = 2 := (congrArg Int32.toInt (show f 36 3 = 2 from hf_36_3)).trans (by decide)
  refine sg_calli (va_runV (As := [.int 0, .int 1, .int x2, .int 2]) (rest := []) ⟨hx, hb, hml, hown, hts⟩ (kX3_does_0_1_2_f2_f3 l D ca za h hh f L Q hI x2 hf_36_3 hf_36_4 (by have k0 : (0 : Int32).toInt = 0 := ti_0; have k1 : (1 : Int32).toInt = 1 := ti_1; have k3 : (2 : Int32).toInt = 2 := ti_2; omega) H.size) (sl_c3_does_3_0_0_74_3 hts ⟨Nat.le_of_ble_eq_true rfl, Nat.le_of_ble_eq_true rfl⟩) (sl_vX_36 hA hK hP hS hZ) rfl rfl hl.1 rfl (lv_room (Nat.le_of_ble_eq_true rfl)) dX3_runs_189 ⟨Nat.le_refl _, Nat.le_refl _⟩) hA hS (fun r_7 f_4 L_5 Q_6 H locs hq hP hS => ?_)
  obtain ⟨⟨hI, hk_f_4, eL9, eQ9⟩, hq, p_8, u_9⟩ := hq
  rw [eL9, eQ9] at hP; clear eL9 eQ9
  have hF : sgK WkX3_runs_30_0_2_f2_f3 f f_4 := sgK.tr hF hk_f_4 (by decide +kernel)
  obtain ⟨v_10, ev_10⟩ : ∃ z : Int32, z = f_4 36 3 := ⟨_, rfl⟩
  have q_11 : 0 ≤ v_10.toInt ∧ v_10.toInt ≤ 19 := by rw [ev_10]; exact hI 36 3
  have q_12 : (f_4 36 3).toInt = v_10.toInt := (congrArg Int32.toInt (show f_4 36 3 = v_10 from ev_10.symm))
  have k_14 : (0 : Int32).toInt = 0 := by decide
  have k_15 : (1 : Int32).toInt = 1 := by decide
  have k_16 : (2 : Int32).toInt = 2 := by decide
  refine lv_ineg hx hb dX3_runs_192 ?_
  refine lv_topi (fun v_17 ev_17 => ?_)
  exact hret _ _ _ _ (v_17) f_4 L Q dX3_runs_193 hP hS ⟨⟨hI, hF, rfl, rfl⟩, trivial, ⟨by omega, by omega⟩, (Eq.trans (Eq.symm (hs.trans ((spl2_e u_9 (spl_e ev_10 (spl_e ev_17 rfl)))))) hsp)⟩

abbrev WkX3_does_2_1_1_f1_f3 : List (Nat × Nat × Option Nat) := [(36, 36, some 3), (38, 38, some 1), (38, 38, some 2), (38, 38, some 3)]
set_option maxHeartbeats 4000000 in
set_option maxRecDepth 100000 in
theorem kX3_does_2_1_1_f1_f3 (l : Launch) (D : va_G) (ca : Nat → ClassId) (za h : Nat → Nat) (hh : sgH 52 h) (f : sg_F) (L : sg_L) (Q : sg_Q) (hI : sgI loX hiX f) (x2 : Int32) (hf_36_3 : f 36 3 = 1) (hf_36_4 : f 36 4 = 3) (p0 : 1 ≤ (f 36 3).toInt ∧ (f 36 3).toInt ≤ 1) (sz : Nat) : Met l yX3_does gwX3_does { frames := 5, cells := 0, slots := 0, locals := 124 } (sgP D vwCl (tyX ca) 52 h (eX ca h) zcX za f L Q sz [.ref (h 36), .int 2, .int 1, .int x2, .int 1]) (sgQi D vwCl 52 h (eX ca h) sz (fun r f1 L1 Q1 => ((sgI loX hiX f1 ∧ sgK WkX3_does_2_1_1_f1_f3 f f1 ∧ L1 = L ∧ Q1 = Q) ∧ True ∧ (4 ≤ (f1 36 3).toInt ∧ (f1 36 3).toInt ≤ 4) ∧ (r, f1) = sX3_does_2_1_1_f1_f3 x2 f L))) 0 0 (sgA 52 h sz) := by
  refine sg_ofWi (cc := cX3_does) (maxL := 7) RX3 (by decide) rfl rfl (Nat.le_of_ble_eq_true rfl) ?_
  intro p e s m below meth cd Qz ls hx hb hml hown hts hK hZ hP hS hl hret
  have hA := sgY.self (n := 52) (h := h) (sz := s.heap.size)
  have hl : lv_has ls 7 [(0, .ref (h 36)), (1, .int 2), (2, .int 1), (3, .int x2), (4, .int 1)] := hl
  obtain ⟨H, hH⟩ : ∃ z : Heap, z = s.heap := ⟨_, rfl⟩
  obtain ⟨locs, hlo⟩ : ∃ z : List Loc, z = [] := ⟨_, rfl⟩
  have hP : va_P D vwCl (sgw 52 h (eX ca h) f L Q) H := by rw [hH]; exact hP
  have hS : va_S (sgA 52 h s.heap.size) s.heap H locs := by rw [hH, hlo]; exact hS
  suffices hgo : W p l e ({ frames := 5, cells := 0, slots := 0, locals := 124 }) s m ([.ref (h 36), .int 2, .int 1, .int x2, .int 1] : List Value).toArray below meth cd H locs 0 0 Qz (F0 m 0 ls []) by rw [hH, hlo] at hgo; exact hgo
  clear hH hlo
  obtain ⟨sp, hsp⟩ : ∃ z : Int32 × sg_F, z = sX3_does_2_1_1_f1_f3 x2 f L := ⟨_, rfl⟩
  have hs : sp = sX3_does_2_1_1_f1_f3 x2 f L := hsp
  have o_1 : (f 36 3).toInt = 1 := (congrArg Int32.toInt (show f 36 3 = 1 from hf_36_3)).trans (by decide)
  have hF : sgK WkX3_does_2_1_1_f1_f3 f f := sgK.rf
  have blk_53 : ∀ (fp_53 : sg_F) (H : Heap) (locs : List Loc) (ls : Array Slot), sp = sX3_does_2_1_1_f1_f3_b53 x2 fp_53 L → 1 ≤ (fp_53 36 3).toInt ∧ (fp_53 36 3).toInt ≤ 1 → 3 ≤ (fp_53 36 4).toInt ∧ (fp_53 36 4).toInt ≤ 3 → sgI loX hiX fp_53 → sgK WkX3_does_2_1_1_f1_f3 f fp_53 → va_P D vwCl (sgw 52 h (eX ca h) fp_53 L Q) H → va_S (sgA 52 h s.heap.size) s.heap H locs → lv_has ls 7 [(0, .ref (h 36)), (3, .int x2), (4, .int 1), (5, .int 2), (6, .int 30)] → W p l e ({ frames := 5, cells := 0, slots := 0, locals := 124 }) s m ([.ref (h 36), .int 2, .int 1, .int x2, .int 1] : List Value).toArray below meth cd H locs 0 0 Qz (F0 m 53 ls []) := by
    intro fp_53 H locs ls hs hy0_53 hy1_53 hI hF hP hS hl
    obtain ⟨v_2, ev_2⟩ : ∃ z : Int32, z = fp_53 36 3 := ⟨_, rfl⟩
    have q_3 : 0 ≤ v_2.toInt ∧ v_2.toInt ≤ 19 := by rw [ev_2]; exact hI 36 3
    have q_4 : (fp_53 36 3).toInt = v_2.toInt := by rw [ev_2]
    obtain ⟨v_5, ev_5⟩ : ∃ z : Int32, z = fp_53 36 4 := ⟨_, rfl⟩
    have q_6 : 0 ≤ v_5.toInt ∧ v_5.toInt ≤ 7 := by rw [ev_5]; exact hI 36 4
    have q_7 : (fp_53 36 4).toInt = v_5.toInt := by rw [ev_5]
    have m_8 : fp_53 36 4 = 3 := (hF 36 4 (by decide)).trans hf_36_4
    refine lv_aload_n hx hb dX3_does_53 rfl (lv_at hl 0 rfl) ?_
    refine lv_dup hx hb dX3_does_54 rfl ?_
    refine sl_gX_36_3_3 (v := v_2) hx hb hts hown hK hP (show fp_53 36 3 = v_2 from ev_2.symm) dX3_does_55 ?_
    refine lv_iconst (v := 1) hx hb dX3_does_58 ic_1 ?_
    refine lv_iadd hx hb dX3_does_59 ?_
    refine lv_topi (fun v_9 ev_9 => ?_)
    have q_10 : v_9.toInt = v_2.toInt + 1 := by rw [ev_9]; first | exact cm_add ti_1 (by omega) (by omega) | (have k1 : (1 : Int32).toInt = 1 := ti_1; exact (bn_addI (by omega) (by omega)).trans (by omega))
    refine sl_pX_36_3_3 (x := v_9) hx hb hts hown hh hA hK hP hS dX3_does_60 (fun f_11 H locs ef_11 hP hS => ?_)
    have hI : sgI loX hiX f_11 := by rw [ef_11]; exact sgI.put hI 36 3 (show 0 ≤ (v_9 : Int32).toInt ∧ (v_9 : Int32).toInt ≤ 19 from ⟨by omega, by omega⟩)
    have hF : sgK WkX3_does_2_1_1_f1_f3 f f_11 := sgK.put hF ef_11 (by rfl)
    refine lv_aload_n hx hb dX3_does_63 rfl (lv_at hl 0 rfl) ?_
    refine lv_iload hx hb dX3_does_64 (lv_at hl 4 rfl) ?_
    refine sg_gets hx hb hZ 2 rfl hS hown (hts _ (List.mem_cons_of_mem _ mw_174)) (fun _ h9 => h9) dX3_does_66 ?_
    refine lv_iload hx hb dX3_does_69 (lv_at hl 3 rfl) ?_
    refine sg_sald hx hb hZ 2 rfl hS (y := 2) (N := 8) (vp_in_iff.mpr (by decide)) dX3_does_71 ?_
    refine W.eq (g2 := F0 m 72 ls [.int 0, .int 30, .ref (h 36)]) (by rfl) ?_
    refine lv_iload_n hx hb dX3_does_72 rfl (lv_at hl 1 rfl) ?_
    refine lv_iload hx hb dX3_does_73 (lv_at hl 2 rfl) ?_
    refine lv_iconst (v := 1) hx hb dX3_does_75 ic_1 ?_
    refine lv_iadd hx hb dX3_does_76 ?_
    refine W.eq (g2 := F0 m 77 ls [.int 2, .int x2, .int 0, .int 30, .ref (h 36)]) (by rw [show (1 + 1 : Int32) = 2 from by decide]) ?_
    have c_12 : v_9 = 2 := Int32.toInt_inj.mp (by have k9 : (2 : Int32).toInt = 2 := ti_2; omega)
    have q_13 : (f_11 36 3).toInt = 2 := (congrArg Int32.toInt (show f_11 36 3 = 2 from (Eq.trans (by rw [ef_11, sg_up_s, sgu_s]) c_12))).trans (by decide)
    refine sg_calli (va_runV (As := [.int 30, .int 0, .int x2, .int 2]) (rest := []) ⟨hx, hb, hml, hown, hts⟩ (kX3_runs_30_0_2_f2_f3 l D ca za h hh f_11 L Q hI x2 (Eq.trans (by rw [ef_11, sg_up_s, sgu_s]) c_12) (by rw [ef_11, sg_up_s, sgu_n (by decide)]; exact m_8) (by have k0 : (30 : Int32).toInt = 30 := ti_30; have k1 : (0 : Int32).toInt = 0 := ti_0; have k3 : (2 : Int32).toInt = 2 := ti_2; omega) H.size) (sl_c3_runs_4_0_0_100_3 hts ⟨Nat.le_of_ble_eq_true rfl, Nat.le_of_ble_eq_true rfl⟩) (sl_vX_36 hA hK hP hS hZ) rfl rfl hl.1 rfl (lv_room (Nat.le_of_ble_eq_true rfl)) dX3_does_77 ⟨Nat.le_refl _, Nat.le_refl _⟩) hA hS (fun r_18 f_15 L_16 Q_17 H locs hq hP hS => ?_)
    obtain ⟨⟨hI, hk_f_15, eL9, eQ9⟩, hq, p_19, u_20⟩ := hq
    rw [eL9, eQ9] at hP; clear eL9 eQ9
    have hF : sgK WkX3_does_2_1_1_f1_f3 f f_15 := sgK.tr hF hk_f_15 (by decide +kernel)
    obtain ⟨v_21, ev_21⟩ : ∃ z : Int32, z = f_15 36 3 := ⟨_, rfl⟩
    have q_22 : 0 ≤ v_21.toInt ∧ v_21.toInt ≤ 19 := by rw [ev_21]; exact hI 36 3
    have q_23 : (f_15 36 3).toInt = v_21.toInt := (congrArg Int32.toInt (show f_15 36 3 = v_21 from ev_21.symm))
    have k_25 : (30 : Int32).toInt = 30 := by decide
    have k_26 : (0 : Int32).toInt = 0 := by decide
    have k_27 : (2 : Int32).toInt = 2 := by decide
    exact hret _ _ _ _ (r_18) f_15 L Q dX3_does_80 hP hS ⟨⟨hI, hF, rfl, rfl⟩, trivial, ⟨by omega, by omega⟩, (Eq.trans (Eq.symm (hs.trans ((spl_e ev_2 (spl_e ev_5 (spl_e ev_9 (spl_e ef_11 (spl2_e u_20 (spl_e ev_21 rfl))))))))) hsp)⟩
  refine lv_iload_n hx hb dX3_does_0 rfl (lv_at hl 1 rfl) ?_
  refine lv_iload_n hx hb dX3_does_1 rfl (lv_at hl 2 rfl) ?_
  refine sg_calli (va_runS (As := [.int 2, .int 1]) (rest := []) ⟨hx, hb, hml, hown, hts⟩ (kX3_ownerOf_2_1 l D ca za h hh f L Q hI H.size) (va_cwS 2 hts (gw_S (fun _ h => List.mem_cons_of_mem _ h) mw_189 mw_190 mw_47 mw_188) rfl rfl rfl hd_yX3_ownerOf.2 ⟨Nat.le_of_ble_eq_true rfl, Nat.le_of_ble_eq_true rfl⟩) (sg_preS hA hK hP hS hZ) rfl rfl hl.1 rfl (lv_room (Nat.le_of_ble_eq_true rfl)) dX3_does_2 ⟨Nat.le_refl _, Nat.le_refl _⟩) hA hS (fun r_33 f_30 L_31 Q_32 H locs hq hP hS => ?_)
  obtain ⟨⟨ef9, eL9, eQ9⟩, hq, u_34⟩ := hq
  rw [ef9, eL9, eQ9] at hP; clear ef9 eL9 eQ9
  obtain rfl : r_33 = 2 := Int32.toInt_inj.mp (by have k9 : (2 : Int32).toInt = 2 := ti_2; omega)
  refine lv_istore (lv' := [(5, .int 2), (0, .ref (h 36)), (1, .int 2), (2, .int 1), (3, .int x2), (4, .int 1)]) hx hb dX3_does_5 hl (by decide) rfl (fun ls hl => ?_)
  refine lv_iload hx hb dX3_does_7 (lv_at hl 0 rfl) ?_
  refine lv_if_lt (tgt := 19) hx hb dX3_does_9 (by decide) (fun c => absurd c (by decide)) (fun c => ?_)
  refine lv_iload hx hb dX3_does_12 (lv_at hl 5 rfl) ?_
  refine lv_bipush (v := 40) hx hb dX3_does_14 bp_40 ?_
  refine lv_icmp_le (tgt := 21) hx hb dX3_does_16 (by decide) (fun c => ?_) (fun c => absurd c (by decide))
  refine sg_gets hx hb hZ 3 rfl hS hown (hts _ (List.mem_cons_of_mem _ mw_173)) (fun _ h9 => h9) dX3_does_21 ?_
  refine lv_iload hx hb dX3_does_24 (lv_at hl 0 rfl) ?_
  refine lv_iconst (v := 4) hx hb dX3_does_26 ic_4 ?_
  refine lv_imul hx hb dX3_does_27 ?_
  refine W.eq (g2 := F0 m 28 ls [.int 8, .ref (za 3)]) (by rw [show (2 * 4 : Int32) = 8 from by decide]) ?_
  refine lv_iload_n hx hb dX3_does_28 rfl (lv_at hl 3 rfl) ?_
  refine lv_iadd hx hb dX3_does_29 ?_
  refine W.eq (g2 := F0 m 30 ls [.int 9, .ref (za 3)]) (by rw [show (8 + 1 : Int32) = 9 from by decide]) ?_
  refine sg_sald hx hb hZ 3 rfl hS (y := 9) (N := 32) (vp_in_iff.mpr (by decide)) dX3_does_30 ?_
  refine W.eq (g2 := F0 m 31 ls [.int 30]) (by rfl) ?_
  refine lv_istore (lv' := [(6, .int 30), (5, .int 2), (0, .ref (h 36)), (1, .int 2), (2, .int 1), (3, .int x2), (4, .int 1)]) hx hb dX3_does_31 hl (by decide) rfl (fun ls hl => ?_)
  refine lv_aload_n hx hb dX3_does_33 rfl (lv_at hl 2 rfl) ?_
  refine sl_gX_36_3_3 (v := 1) hx hb hts hown hK hP (show f 36 3 = 1 from hf_36_3) dX3_does_34 ?_
  refine lv_bipush (v := 24) hx hb dX3_does_37 bp_24 ?_
  refine lv_icmp_ge (tgt := 53) hx hb dX3_does_39 (by decide) (fun c => absurd c (by decide)) (fun c => ?_)
  refine lv_aload_n hx hb dX3_does_42 rfl (lv_at hl 2 rfl) ?_
  refine sl_gX_36_1_3 hx hb hts hown hK hP dX3_does_43 ?_
  refine lv_aload_n hx hb dX3_does_46 rfl (lv_at hl 2 rfl) ?_
  refine sl_gX_36_3_3 (v := 1) hx hb hts hown hK hP (show f 36 3 = 1 from hf_36_3) dX3_does_47 ?_
  refine lv_iload hx hb dX3_does_50 (lv_at hl 0 rfl) ?_
  refine sg_iast hx hb hh hA hK hP hS 38 (by decide) 0 (fun _ => rfl) rfl (i := 1) (x := 30) (vp_in_iff.mpr (by decide)) dX3_does_52 (fun f_35 H locs ef_35 hP hS => ?_)
  have ef_35 : f_35 = sg_up f 38 (sgu (f 38) 1 30) := ef_35
  have hI : sgI loX hiX f_35 := by rw [ef_35]; exact sgI.put hI 38 1 (show 0 ≤ (30 : Int32).toInt ∧ (30 : Int32).toInt ≤ 81 from by decide)
  have hF : sgK WkX3_does_2_1_1_f1_f3 f f_35 := sgK.put hF ef_35 (by rfl)
  exact blk_53 f_35 _ _ _ (hs.trans ((spl_e u_34 (spl_e ef_35 rfl)))) (by have zz36_3 : (f_35 36 3).toInt = 1 := (congrArg Int32.toInt (show f_35 36 3 = 1 from (by rw [ef_35, sg_up_n (by decide)]; exact hf_36_3))).trans (by decide); exact ⟨by omega, by omega⟩) (by have zz36_4 : (f_35 36 4).toInt = 3 := (congrArg Int32.toInt (show f_35 36 4 = 3 from (by rw [ef_35, sg_up_n (by decide)]; exact hf_36_4))).trans (by decide); exact ⟨by omega, by omega⟩) hI hF hP hS (lv_sub hl [2, 5, 6, 1, 0] rfl)

abbrev WkX3_runs_41_2_1_f1_f3 : List (Nat × Nat × Option Nat) := [(36, 36, some 3), (38, 38, some 1), (38, 38, some 2), (38, 38, some 3)]
set_option maxHeartbeats 4000000 in
set_option maxRecDepth 100000 in
theorem kX3_runs_41_2_1_f1_f3 (l : Launch) (D : va_G) (ca : Nat → ClassId) (za h : Nat → Nat) (hh : sgH 52 h) (f : sg_F) (L : sg_L) (Q : sg_Q) (hI : sgI loX hiX f) (x2 : Int32) (hf_36_3 : f 36 3 = 1) (hf_36_4 : f 36 4 = 3) (p0 : 1 ≤ (f 36 3).toInt ∧ (f 36 3).toInt ≤ 1) (sz : Nat) : Met l yX3_runs gwX3_runs { frames := 6, cells := 0, slots := 0, locals := 150 } (sgP D vwCl (tyX ca) 52 h (eX ca h) zcX za f L Q sz [.ref (h 36), .int 41, .int 2, .int x2, .int 1]) (sgQi D vwCl 52 h (eX ca h) sz (fun r f1 L1 Q1 => ((sgI loX hiX f1 ∧ sgK WkX3_runs_41_2_1_f1_f3 f f1 ∧ L1 = L ∧ Q1 = Q) ∧ True ∧ (4 ≤ (f1 36 3).toInt ∧ (f1 36 3).toInt ≤ 4) ∧ (r, f1) = sX3_runs_41_2_1_f1_f3 x2 f L))) 0 0 (sgA 52 h sz) := by
  refine sg_ofWi (cc := cX3_runs) (maxL := 5) RX3 (by decide) rfl rfl (Nat.le_of_ble_eq_true rfl) ?_
  intro p e s m below meth cd Qz ls hx hb hml hown hts hK hZ hP hS hl hret
  have hA := sgY.self (n := 52) (h := h) (sz := s.heap.size)
  have hl : lv_has ls 5 [(0, .ref (h 36)), (1, .int 41), (2, .int 2), (3, .int x2), (4, .int 1)] := hl
  obtain ⟨H, hH⟩ : ∃ z : Heap, z = s.heap := ⟨_, rfl⟩
  obtain ⟨locs, hlo⟩ : ∃ z : List Loc, z = [] := ⟨_, rfl⟩
  have hP : va_P D vwCl (sgw 52 h (eX ca h) f L Q) H := by rw [hH]; exact hP
  have hS : va_S (sgA 52 h s.heap.size) s.heap H locs := by rw [hH, hlo]; exact hS
  suffices hgo : W p l e ({ frames := 6, cells := 0, slots := 0, locals := 150 }) s m ([.ref (h 36), .int 41, .int 2, .int x2, .int 1] : List Value).toArray below meth cd H locs 0 0 Qz (F0 m 0 ls []) by rw [hH, hlo] at hgo; exact hgo
  clear hH hlo
  obtain ⟨sp, hsp⟩ : ∃ z : Int32 × sg_F, z = sX3_runs_41_2_1_f1_f3 x2 f L := ⟨_, rfl⟩
  have hs : sp = sX3_runs_41_2_1_f1_f3 x2 f L := hsp
  have o_1 : (f 36 3).toInt = 1 := (congrArg Int32.toInt (show f 36 3 = 1 from hf_36_3)).trans (by decide)
  have hF : sgK WkX3_runs_41_2_1_f1_f3 f f := sgK.rf
  refine lv_iload_n hx hb dX3_runs_0 rfl (lv_at hl 1 rfl) ?_
  refine lv_lookup (x := 41) (off := 205) (tgt := 206) hx hb dX3_runs_1 (by decide) (by decide) (by decide) ?_
  refine lv_aload_n hx hb dX3_runs_206 rfl (lv_at hl 0 rfl) ?_
  refine lv_iload_n hx hb dX3_runs_207 rfl (lv_at hl 2 rfl) ?_
  refine lv_iconst (v := 1) hx hb dX3_runs_208 ic_1 ?_
  refine lv_iload_n hx hb dX3_runs_209 rfl (lv_at hl 3 rfl) ?_
  refine lv_iconst (v := 1) hx hb dX3_runs_210 ic_1 ?_
  refine lv_iadd hx hb dX3_runs_211 ?_
  refine lv_topi (fun v_2 ev_2 => ?_)
  refine lv_iload hx hb dX3_runs_212 (lv_at hl 4 rfl) ?_
  have q_3 : (f 36 3).toInt = 1 := (congrArg Int32.toInt (show f 36 3 = 1 from hf_36_3)).trans (by decide)
  refine sg_calli (va_runV (As := [.int 2, .int 1, .int v_2, .int 1]) (rest := []) ⟨hx, hb, hml, hown, hts⟩ (kX3_does_2_1_1_f1_f3 l D ca za h hh f L Q hI v_2 hf_36_3 hf_36_4 (by have k0 : (2 : Int32).toInt = 2 := ti_2; have k1 : (1 : Int32).toInt = 1 := ti_1; have k3 : (1 : Int32).toInt = 1 := ti_1; omega) H.size) (sl_c3_does_5_0_0_124_3 hts ⟨Nat.le_of_ble_eq_true rfl, Nat.le_of_ble_eq_true rfl⟩) (sl_vX_36 hA hK hP hS hZ) rfl rfl hl.1 rfl (lv_room (Nat.le_of_ble_eq_true rfl)) dX3_runs_214 ⟨Nat.le_refl _, Nat.le_refl _⟩) hA hS (fun r_8 f_5 L_6 Q_7 H locs hq hP hS => ?_)
  obtain ⟨⟨hI, hk_f_5, eL9, eQ9⟩, hq, p_9, u_10⟩ := hq
  rw [eL9, eQ9] at hP; clear eL9 eQ9
  have hF : sgK WkX3_runs_41_2_1_f1_f3 f f_5 := sgK.tr hF hk_f_5 (by decide +kernel)
  obtain ⟨v_11, ev_11⟩ : ∃ z : Int32, z = f_5 36 3 := ⟨_, rfl⟩
  have q_12 : 0 ≤ v_11.toInt ∧ v_11.toInt ≤ 19 := by rw [ev_11]; exact hI 36 3
  have q_13 : (f_5 36 3).toInt = v_11.toInt := (congrArg Int32.toInt (show f_5 36 3 = v_11 from ev_11.symm))
  have k_15 : (2 : Int32).toInt = 2 := by decide
  have k_16 : (1 : Int32).toInt = 1 := by decide
  have k_17 : (1 : Int32).toInt = 1 := by decide
  exact hret _ _ _ _ (r_8) f_5 L Q dX3_runs_217 hP hS ⟨⟨hI, hF, rfl, rfl⟩, trivial, ⟨by omega, by omega⟩, (Eq.trans (Eq.symm (hs.trans ((spl_e ev_2 (spl2_e u_10 (spl_e ev_11 rfl)))))) hsp)⟩

abbrev WkX3_does_3_1_0_f0_f3 : List (Nat × Nat × Option Nat) := [(36, 36, some 3), (38, 38, some 0), (38, 38, some 1), (38, 38, some 2), (38, 38, some 3)]
set_option maxHeartbeats 4000000 in
set_option maxRecDepth 100000 in
theorem kX3_does_3_1_0_f0_f3 (l : Launch) (D : va_G) (ca : Nat → ClassId) (za h : Nat → Nat) (hh : sgH 52 h) (f : sg_F) (L : sg_L) (Q : sg_Q) (hI : sgI loX hiX f) (x2 : Int32) (hf_36_3 : f 36 3 = 0) (hf_36_4 : f 36 4 = 3) (p0 : 0 ≤ (f 36 3).toInt ∧ (f 36 3).toInt ≤ 0) (sz : Nat) : Met l yX3_does gwX3_does { frames := 7, cells := 0, slots := 0, locals := 174 } (sgP D vwCl (tyX ca) 52 h (eX ca h) zcX za f L Q sz [.ref (h 36), .int 3, .int 1, .int x2, .int 0]) (sgQi D vwCl 52 h (eX ca h) sz (fun r f1 L1 Q1 => ((sgI loX hiX f1 ∧ sgK WkX3_does_3_1_0_f0_f3 f f1 ∧ L1 = L ∧ Q1 = Q) ∧ True ∧ (4 ≤ (f1 36 3).toInt ∧ (f1 36 3).toInt ≤ 4) ∧ (r, f1) = sX3_does_3_1_0_f0_f3 x2 f L))) 0 0 (sgA 52 h sz) := by
  refine sg_ofWi (cc := cX3_does) (maxL := 7) RX3 (by decide) rfl rfl (Nat.le_of_ble_eq_true rfl) ?_
  intro p e s m below meth cd Qz ls hx hb hml hown hts hK hZ hP hS hl hret
  have hA := sgY.self (n := 52) (h := h) (sz := s.heap.size)
  have hl : lv_has ls 7 [(0, .ref (h 36)), (1, .int 3), (2, .int 1), (3, .int x2), (4, .int 0)] := hl
  obtain ⟨H, hH⟩ : ∃ z : Heap, z = s.heap := ⟨_, rfl⟩
  obtain ⟨locs, hlo⟩ : ∃ z : List Loc, z = [] := ⟨_, rfl⟩
  have hP : va_P D vwCl (sgw 52 h (eX ca h) f L Q) H := by rw [hH]; exact hP
  have hS : va_S (sgA 52 h s.heap.size) s.heap H locs := by rw [hH, hlo]; exact hS
  suffices hgo : W p l e ({ frames := 7, cells := 0, slots := 0, locals := 174 }) s m ([.ref (h 36), .int 3, .int 1, .int x2, .int 0] : List Value).toArray below meth cd H locs 0 0 Qz (F0 m 0 ls []) by rw [hH, hlo] at hgo; exact hgo
  clear hH hlo
  obtain ⟨sp, hsp⟩ : ∃ z : Int32 × sg_F, z = sX3_does_3_1_0_f0_f3 x2 f L := ⟨_, rfl⟩
  have hs : sp = sX3_does_3_1_0_f0_f3 x2 f L := hsp
  have o_1 : (f 36 3).toInt = 0 := (congrArg Int32.toInt (show f 36 3 = 0 from hf_36_3)).trans (by decide)
  have hF : sgK WkX3_does_3_1_0_f0_f3 f f := sgK.rf
  have blk_53 : ∀ (fp_53 : sg_F) (H : Heap) (locs : List Loc) (ls : Array Slot), sp = sX3_does_3_1_0_f0_f3_b53 x2 fp_53 L → 0 ≤ (fp_53 36 3).toInt ∧ (fp_53 36 3).toInt ≤ 0 → 3 ≤ (fp_53 36 4).toInt ∧ (fp_53 36 4).toInt ≤ 3 → sgI loX hiX fp_53 → sgK WkX3_does_3_1_0_f0_f3 f fp_53 → va_P D vwCl (sgw 52 h (eX ca h) fp_53 L Q) H → va_S (sgA 52 h s.heap.size) s.heap H locs → lv_has ls 7 [(0, .ref (h 36)), (3, .int x2), (4, .int 0), (5, .int 3), (6, .int 41)] → W p l e ({ frames := 7, cells := 0, slots := 0, locals := 174 }) s m ([.ref (h 36), .int 3, .int 1, .int x2, .int 0] : List Value).toArray below meth cd H locs 0 0 Qz (F0 m 53 ls []) := by
    intro fp_53 H locs ls hs hy0_53 hy1_53 hI hF hP hS hl
    obtain ⟨v_2, ev_2⟩ : ∃ z : Int32, z = fp_53 36 3 := ⟨_, rfl⟩
    have q_3 : 0 ≤ v_2.toInt ∧ v_2.toInt ≤ 19 := by rw [ev_2]; exact hI 36 3
    have q_4 : (fp_53 36 3).toInt = v_2.toInt := by rw [ev_2]
    obtain ⟨v_5, ev_5⟩ : ∃ z : Int32, z = fp_53 36 4 := ⟨_, rfl⟩
    have q_6 : 0 ≤ v_5.toInt ∧ v_5.toInt ≤ 7 := by rw [ev_5]; exact hI 36 4
    have q_7 : (fp_53 36 4).toInt = v_5.toInt := by rw [ev_5]
    have m_8 : fp_53 36 4 = 3 := (hF 36 4 (by decide)).trans hf_36_4
    refine lv_aload_n hx hb dX3_does_53 rfl (lv_at hl 0 rfl) ?_
    refine lv_dup hx hb dX3_does_54 rfl ?_
    refine sl_gX_36_3_3 (v := v_2) hx hb hts hown hK hP (show fp_53 36 3 = v_2 from ev_2.symm) dX3_does_55 ?_
    refine lv_iconst (v := 1) hx hb dX3_does_58 ic_1 ?_
    refine lv_iadd hx hb dX3_does_59 ?_
    refine lv_topi (fun v_9 ev_9 => ?_)
    have q_10 : v_9.toInt = v_2.toInt + 1 := by rw [ev_9]; first | exact cm_add ti_1 (by omega) (by omega) | (have k1 : (1 : Int32).toInt = 1 := ti_1; exact (bn_addI (by omega) (by omega)).trans (by omega))
    refine sl_pX_36_3_3 (x := v_9) hx hb hts hown hh hA hK hP hS dX3_does_60 (fun f_11 H locs ef_11 hP hS => ?_)
    have hI : sgI loX hiX f_11 := by rw [ef_11]; exact sgI.put hI 36 3 (show 0 ≤ (v_9 : Int32).toInt ∧ (v_9 : Int32).toInt ≤ 19 from ⟨by omega, by omega⟩)
    have hF : sgK WkX3_does_3_1_0_f0_f3 f f_11 := sgK.put hF ef_11 (by rfl)
    refine lv_aload_n hx hb dX3_does_63 rfl (lv_at hl 0 rfl) ?_
    refine lv_iload hx hb dX3_does_64 (lv_at hl 4 rfl) ?_
    refine sg_gets hx hb hZ 2 rfl hS hown (hts _ (List.mem_cons_of_mem _ mw_174)) (fun _ h9 => h9) dX3_does_66 ?_
    refine lv_iload hx hb dX3_does_69 (lv_at hl 3 rfl) ?_
    refine sg_sald hx hb hZ 2 rfl hS (y := 3) (N := 8) (vp_in_iff.mpr (by decide)) dX3_does_71 ?_
    refine W.eq (g2 := F0 m 72 ls [.int 2, .int 41, .ref (h 36)]) (by rfl) ?_
    refine lv_iload_n hx hb dX3_does_72 rfl (lv_at hl 1 rfl) ?_
    refine lv_iload hx hb dX3_does_73 (lv_at hl 2 rfl) ?_
    refine lv_iconst (v := 1) hx hb dX3_does_75 ic_1 ?_
    refine lv_iadd hx hb dX3_does_76 ?_
    refine W.eq (g2 := F0 m 77 ls [.int 1, .int x2, .int 2, .int 41, .ref (h 36)]) (by rw [show (0 + 1 : Int32) = 1 from by decide]) ?_
    have c_12 : v_9 = 1 := Int32.toInt_inj.mp (by have k9 : (1 : Int32).toInt = 1 := ti_1; omega)
    have q_13 : (f_11 36 3).toInt = 1 := (congrArg Int32.toInt (show f_11 36 3 = 1 from (Eq.trans (by rw [ef_11, sg_up_s, sgu_s]) c_12))).trans (by decide)
    refine sg_calli (va_runV (As := [.int 41, .int 2, .int x2, .int 1]) (rest := []) ⟨hx, hb, hml, hown, hts⟩ (kX3_runs_41_2_1_f1_f3 l D ca za h hh f_11 L Q hI x2 (Eq.trans (by rw [ef_11, sg_up_s, sgu_s]) c_12) (by rw [ef_11, sg_up_s, sgu_n (by decide)]; exact m_8) (by have k0 : (41 : Int32).toInt = 41 := ti_41; have k1 : (2 : Int32).toInt = 2 := ti_2; have k3 : (1 : Int32).toInt = 1 := ti_1; omega) H.size) (sl_c3_runs_6_0_0_150_3 hts ⟨Nat.le_of_ble_eq_true rfl, Nat.le_of_ble_eq_true rfl⟩) (sl_vX_36 hA hK hP hS hZ) rfl rfl hl.1 rfl (lv_room (Nat.le_of_ble_eq_true rfl)) dX3_does_77 ⟨Nat.le_refl _, Nat.le_refl _⟩) hA hS (fun r_18 f_15 L_16 Q_17 H locs hq hP hS => ?_)
    obtain ⟨⟨hI, hk_f_15, eL9, eQ9⟩, hq, p_19, u_20⟩ := hq
    rw [eL9, eQ9] at hP; clear eL9 eQ9
    have hF : sgK WkX3_does_3_1_0_f0_f3 f f_15 := sgK.tr hF hk_f_15 (by decide +kernel)
    obtain ⟨v_21, ev_21⟩ : ∃ z : Int32, z = f_15 36 3 := ⟨_, rfl⟩
    have q_22 : 0 ≤ v_21.toInt ∧ v_21.toInt ≤ 19 := by rw [ev_21]; exact hI 36 3
    have q_23 : (f_15 36 3).toInt = v_21.toInt := (congrArg Int32.toInt (show f_15 36 3 = v_21 from ev_21.symm))
    have k_25 : (41 : Int32).toInt = 41 := by decide
    have k_26 : (2 : Int32).toInt = 2 := by decide
    have k_27 : (1 : Int32).toInt = 1 := by decide
    exact hret _ _ _ _ (r_18) f_15 L Q dX3_does_80 hP hS ⟨⟨hI, hF, rfl, rfl⟩, trivial, ⟨by omega, by omega⟩, (Eq.trans (Eq.symm (hs.trans ((spl_e ev_2 (spl_e ev_5 (spl_e ev_9 (spl_e ef_11 (spl2_e u_20 (spl_e ev_21 rfl))))))))) hsp)⟩
  refine lv_iload_n hx hb dX3_does_0 rfl (lv_at hl 1 rfl) ?_
  refine lv_iload_n hx hb dX3_does_1 rfl (lv_at hl 2 rfl) ?_
  refine sg_calli (va_runS (As := [.int 3, .int 1]) (rest := []) ⟨hx, hb, hml, hown, hts⟩ (kX3_ownerOf_3_1 l D ca za h hh f L Q hI H.size) (va_cwS 2 hts (gw_S (fun _ h => List.mem_cons_of_mem _ h) mw_189 mw_190 mw_47 mw_188) rfl rfl rfl hd_yX3_ownerOf.2 ⟨Nat.le_of_ble_eq_true rfl, Nat.le_of_ble_eq_true rfl⟩) (sg_preS hA hK hP hS hZ) rfl rfl hl.1 rfl (lv_room (Nat.le_of_ble_eq_true rfl)) dX3_does_2 ⟨Nat.le_refl _, Nat.le_refl _⟩) hA hS (fun r_33 f_30 L_31 Q_32 H locs hq hP hS => ?_)
  obtain ⟨⟨ef9, eL9, eQ9⟩, hq, u_34⟩ := hq
  rw [ef9, eL9, eQ9] at hP; clear ef9 eL9 eQ9
  obtain rfl : r_33 = 3 := Int32.toInt_inj.mp (by have k9 : (3 : Int32).toInt = 3 := ti_3; omega)
  refine lv_istore (lv' := [(5, .int 3), (0, .ref (h 36)), (1, .int 3), (2, .int 1), (3, .int x2), (4, .int 0)]) hx hb dX3_does_5 hl (by decide) rfl (fun ls hl => ?_)
  refine lv_iload hx hb dX3_does_7 (lv_at hl 0 rfl) ?_
  refine lv_if_lt (tgt := 19) hx hb dX3_does_9 (by decide) (fun c => absurd c (by decide)) (fun c => ?_)
  refine lv_iload hx hb dX3_does_12 (lv_at hl 5 rfl) ?_
  refine lv_bipush (v := 40) hx hb dX3_does_14 bp_40 ?_
  refine lv_icmp_le (tgt := 21) hx hb dX3_does_16 (by decide) (fun c => ?_) (fun c => absurd c (by decide))
  refine sg_gets hx hb hZ 3 rfl hS hown (hts _ (List.mem_cons_of_mem _ mw_173)) (fun _ h9 => h9) dX3_does_21 ?_
  refine lv_iload hx hb dX3_does_24 (lv_at hl 0 rfl) ?_
  refine lv_iconst (v := 4) hx hb dX3_does_26 ic_4 ?_
  refine lv_imul hx hb dX3_does_27 ?_
  refine W.eq (g2 := F0 m 28 ls [.int 12, .ref (za 3)]) (by rw [show (3 * 4 : Int32) = 12 from by decide]) ?_
  refine lv_iload_n hx hb dX3_does_28 rfl (lv_at hl 3 rfl) ?_
  refine lv_iadd hx hb dX3_does_29 ?_
  refine W.eq (g2 := F0 m 30 ls [.int 13, .ref (za 3)]) (by rw [show (12 + 1 : Int32) = 13 from by decide]) ?_
  refine sg_sald hx hb hZ 3 rfl hS (y := 13) (N := 32) (vp_in_iff.mpr (by decide)) dX3_does_30 ?_
  refine W.eq (g2 := F0 m 31 ls [.int 41]) (by rfl) ?_
  refine lv_istore (lv' := [(6, .int 41), (5, .int 3), (0, .ref (h 36)), (1, .int 3), (2, .int 1), (3, .int x2), (4, .int 0)]) hx hb dX3_does_31 hl (by decide) rfl (fun ls hl => ?_)
  refine lv_aload_n hx hb dX3_does_33 rfl (lv_at hl 2 rfl) ?_
  refine sl_gX_36_3_3 (v := 0) hx hb hts hown hK hP (show f 36 3 = 0 from hf_36_3) dX3_does_34 ?_
  refine lv_bipush (v := 24) hx hb dX3_does_37 bp_24 ?_
  refine lv_icmp_ge (tgt := 53) hx hb dX3_does_39 (by decide) (fun c => absurd c (by decide)) (fun c => ?_)
  refine lv_aload_n hx hb dX3_does_42 rfl (lv_at hl 2 rfl) ?_
  refine sl_gX_36_1_3 hx hb hts hown hK hP dX3_does_43 ?_
  refine lv_aload_n hx hb dX3_does_46 rfl (lv_at hl 2 rfl) ?_
  refine sl_gX_36_3_3 (v := 0) hx hb hts hown hK hP (show f 36 3 = 0 from hf_36_3) dX3_does_47 ?_
  refine lv_iload hx hb dX3_does_50 (lv_at hl 0 rfl) ?_
  refine sg_iast hx hb hh hA hK hP hS 38 (by decide) 0 (fun _ => rfl) rfl (i := 0) (x := 41) (vp_in_iff.mpr (by decide)) dX3_does_52 (fun f_35 H locs ef_35 hP hS => ?_)
  have ef_35 : f_35 = sg_up f 38 (sgu (f 38) 0 41) := ef_35
  have hI : sgI loX hiX f_35 := by rw [ef_35]; exact sgI.put hI 38 0 (show 0 ≤ (41 : Int32).toInt ∧ (41 : Int32).toInt ≤ 81 from by decide)
  have hF : sgK WkX3_does_3_1_0_f0_f3 f f_35 := sgK.put hF ef_35 (by rfl)
  exact blk_53 f_35 _ _ _ (hs.trans ((spl_e u_34 (spl_e ef_35 rfl)))) (by have zz36_3 : (f_35 36 3).toInt = 0 := (congrArg Int32.toInt (show f_35 36 3 = 0 from (by rw [ef_35, sg_up_n (by decide)]; exact hf_36_3))).trans (by decide); exact ⟨by omega, by omega⟩) (by have zz36_4 : (f_35 36 4).toInt = 3 := (congrArg Int32.toInt (show f_35 36 4 = 3 from (by rw [ef_35, sg_up_n (by decide)]; exact hf_36_4))).trans (by decide); exact ⟨by omega, by omega⟩) hI hF hP hS (lv_sub hl [2, 5, 6, 1, 0] rfl)

set_option maxHeartbeats 4000000 in
set_option maxRecDepth 100000 in
theorem kX3_ownerOf_4_1 (l : Launch) (D : va_G) (ca : Nat → ClassId) (za h : Nat → Nat) (hh : sgH 52 h) (f : sg_F) (L : sg_L) (Q : sg_Q) (hI : sgI loX hiX f) (sz : Nat) : Met l yX3_ownerOf gwX3_ownerOf { frames := 0, cells := 0, slots := 0, locals := 0 } (sgP D vwCl (tyX ca) 52 h (eX ca h) zcX za f L Q sz [.int 4, .int 1]) (sgQi D vwCl 52 h (eX ca h) sz (fun r f1 L1 Q1 => ((f1 = f ∧ L1 = L ∧ Q1 = Q) ∧ (0 ≤ r.toInt ∧ r.toInt ≤ 0) ∧ (r) = sX3_ownerOf_4_1 f L))) 0 0 (sgA 52 h sz) := by
  refine sg_ofWi (cc := cX3_ownerOf) (maxL := 4) RX3 (by decide) rfl rfl (Nat.le_of_ble_eq_true rfl) ?_
  intro p e s m below meth cd Qz ls hx hb hml hown hts hK hZ hP hS hl hret
  have hA := sgY.self (n := 52) (h := h) (sz := s.heap.size)
  have hl : lv_has ls 4 [(0, .int 4), (1, .int 1)] := hl
  obtain ⟨H, hH⟩ : ∃ z : Heap, z = s.heap := ⟨_, rfl⟩
  obtain ⟨locs, hlo⟩ : ∃ z : List Loc, z = [] := ⟨_, rfl⟩
  have hP : va_P D vwCl (sgw 52 h (eX ca h) f L Q) H := by rw [hH]; exact hP
  have hS : va_S (sgA 52 h s.heap.size) s.heap H locs := by rw [hH, hlo]; exact hS
  suffices hgo : W p l e ({ frames := 0, cells := 0, slots := 0, locals := 0 }) s m ([.int 4, .int 1] : List Value).toArray below meth cd H locs 0 0 Qz (F0 m 0 ls []) by rw [hH, hlo] at hgo; exact hgo
  clear hH hlo
  obtain ⟨sp, hsp⟩ : ∃ z : Int32, z = sX3_ownerOf_4_1 f L := ⟨_, rfl⟩
  have hs : sp = sX3_ownerOf_4_1 f L := hsp
  refine lv_iload_n hx hb dX3_ownerOf_0 rfl (lv_at hl 0 rfl) ?_
  refine lv_istore_n (lv' := [(2, .int 4), (0, .int 4), (1, .int 1)]) hx hb dX3_ownerOf_1 rfl hl (by decide) rfl (fun ls hl => ?_)
  refine lv_iconst (v := 0) hx hb dX3_ownerOf_2 ic_0 ?_
  refine lv_istore_n (lv' := [(3, .int 0), (2, .int 4), (0, .int 4), (1, .int 1)]) hx hb dX3_ownerOf_3 rfl hl (by decide) rfl (fun ls hl => ?_)
  refine lv_iload_n hx hb dX3_ownerOf_4 rfl (lv_at hl 0 rfl) ?_
  refine lv_bipush (v := 8) hx hb dX3_ownerOf_5 bp_8 ?_
  refine lv_icmp_ge (tgt := 40) hx hb dX3_ownerOf_7 (by decide) (fun c => absurd c (by decide)) (fun c => ?_)
  refine lv_iload_n hx hb dX3_ownerOf_10 rfl (lv_at hl 1 rfl) ?_
  refine lv_if_lt (tgt := 40) hx hb dX3_ownerOf_11 (by decide) (fun c => absurd c (by decide)) (fun c => ?_)
  refine sg_gets hx hb hZ 3 rfl hS hown (hts _ (List.mem_cons_of_mem _ mw_173)) (fun _ h9 => h9) dX3_ownerOf_14 ?_
  refine lv_iload_n hx hb dX3_ownerOf_17 rfl (lv_at hl 1 rfl) ?_
  refine lv_iconst (v := 4) hx hb dX3_ownerOf_18 ic_4 ?_
  refine lv_imul hx hb dX3_ownerOf_19 ?_
  refine W.eq (g2 := F0 m 20 ls [.int 16, .ref (za 3)]) (by rw [show (4 * 4 : Int32) = 16 from by decide]) ?_
  refine lv_iload_n hx hb dX3_ownerOf_20 rfl (lv_at hl 3 rfl) ?_
  refine lv_iadd hx hb dX3_ownerOf_21 ?_
  refine W.eq (g2 := F0 m 22 ls [.int 17, .ref (za 3)]) (by rw [show (16 + 1 : Int32) = 17 from by decide]) ?_
  refine sg_sald hx hb hZ 3 rfl hS (y := 17) (N := 32) (vp_in_iff.mpr (by decide)) dX3_ownerOf_22 ?_
  refine W.eq (g2 := F0 m 23 ls [.int 0]) (by rfl) ?_
  refine lv_if_eq (tgt := 28) hx hb dX3_ownerOf_23 (by decide) (fun c => ?_) (fun c => absurd c (by decide))
  refine sg_gets hx hb hZ 2 rfl hS hown (hts _ (List.mem_cons_of_mem _ mw_174)) (fun _ h9 => h9) dX3_ownerOf_28 ?_
  refine lv_iload_n hx hb dX3_ownerOf_31 rfl (lv_at hl 1 rfl) ?_
  refine sg_sald hx hb hZ 2 rfl hS (y := 4) (N := 8) (vp_in_iff.mpr (by decide)) dX3_ownerOf_32 ?_
  refine W.eq (g2 := F0 m 33 ls [.int 1]) (by rfl) ?_
  refine lv_istore_n (lv' := [(2, .int 1), (3, .int 0), (0, .int 4), (1, .int 1)]) hx hb dX3_ownerOf_33 rfl hl (by decide) rfl (fun ls hl => ?_)
  refine lv_iinc (v := 1) (lv' := [(3, .int 1), (2, .int 1), (0, .int 4), (1, .int 1)]) hx hb dX3_ownerOf_34 hl (k := 1) rfl (by decide) (by decide) rfl (fun ls hl => ?_)
  refine lv_goto (tgt := 4) hx hb dX3_ownerOf_37 (by decide) ?_
  refine lv_iload_n hx hb dX3_ownerOf_4 rfl (lv_at hl 0 rfl) ?_
  refine lv_bipush (v := 8) hx hb dX3_ownerOf_5 bp_8 ?_
  refine lv_icmp_ge (tgt := 40) hx hb dX3_ownerOf_7 (by decide) (fun c => absurd c (by decide)) (fun c => ?_)
  refine lv_iload_n hx hb dX3_ownerOf_10 rfl (lv_at hl 1 rfl) ?_
  refine lv_if_lt (tgt := 40) hx hb dX3_ownerOf_11 (by decide) (fun c => absurd c (by decide)) (fun c => ?_)
  refine sg_gets hx hb hZ 3 rfl hS hown (hts _ (List.mem_cons_of_mem _ mw_173)) (fun _ h9 => h9) dX3_ownerOf_14 ?_
  refine lv_iload_n hx hb dX3_ownerOf_17 rfl (lv_at hl 1 rfl) ?_
  refine lv_iconst (v := 4) hx hb dX3_ownerOf_18 ic_4 ?_
  refine lv_imul hx hb dX3_ownerOf_19 ?_
  refine W.eq (g2 := F0 m 20 ls [.int 4, .ref (za 3)]) (by rw [show (1 * 4 : Int32) = 4 from by decide]) ?_
  refine lv_iload_n hx hb dX3_ownerOf_20 rfl (lv_at hl 3 rfl) ?_
  refine lv_iadd hx hb dX3_ownerOf_21 ?_
  refine W.eq (g2 := F0 m 22 ls [.int 5, .ref (za 3)]) (by rw [show (4 + 1 : Int32) = 5 from by decide]) ?_
  refine sg_sald hx hb hZ 3 rfl hS (y := 5) (N := 32) (vp_in_iff.mpr (by decide)) dX3_ownerOf_22 ?_
  refine W.eq (g2 := F0 m 23 ls [.int 0]) (by rfl) ?_
  refine lv_if_eq (tgt := 28) hx hb dX3_ownerOf_23 (by decide) (fun c => ?_) (fun c => absurd c (by decide))
  refine sg_gets hx hb hZ 2 rfl hS hown (hts _ (List.mem_cons_of_mem _ mw_174)) (fun _ h9 => h9) dX3_ownerOf_28 ?_
  refine lv_iload_n hx hb dX3_ownerOf_31 rfl (lv_at hl 1 rfl) ?_
  refine sg_sald hx hb hZ 2 rfl hS (y := 1) (N := 8) (vp_in_iff.mpr (by decide)) dX3_ownerOf_32 ?_
  refine W.eq (g2 := F0 m 33 ls [.int 0]) (by rfl) ?_
  refine lv_istore_n (lv' := [(2, .int 0), (3, .int 1), (0, .int 4), (1, .int 1)]) hx hb dX3_ownerOf_33 rfl hl (by decide) rfl (fun ls hl => ?_)
  refine lv_iinc (v := 2) (lv' := [(3, .int 2), (2, .int 0), (0, .int 4), (1, .int 1)]) hx hb dX3_ownerOf_34 hl (k := 1) rfl (by decide) (by decide) rfl (fun ls hl => ?_)
  refine lv_goto (tgt := 4) hx hb dX3_ownerOf_37 (by decide) ?_
  refine lv_iload_n hx hb dX3_ownerOf_4 rfl (lv_at hl 0 rfl) ?_
  refine lv_bipush (v := 8) hx hb dX3_ownerOf_5 bp_8 ?_
  refine lv_icmp_ge (tgt := 40) hx hb dX3_ownerOf_7 (by decide) (fun c => absurd c (by decide)) (fun c => ?_)
  refine lv_iload_n hx hb dX3_ownerOf_10 rfl (lv_at hl 1 rfl) ?_
  refine lv_if_lt (tgt := 40) hx hb dX3_ownerOf_11 (by decide) (fun c => absurd c (by decide)) (fun c => ?_)
  refine sg_gets hx hb hZ 3 rfl hS hown (hts _ (List.mem_cons_of_mem _ mw_173)) (fun _ h9 => h9) dX3_ownerOf_14 ?_
  refine lv_iload_n hx hb dX3_ownerOf_17 rfl (lv_at hl 1 rfl) ?_
  refine lv_iconst (v := 4) hx hb dX3_ownerOf_18 ic_4 ?_
  refine lv_imul hx hb dX3_ownerOf_19 ?_
  refine W.eq (g2 := F0 m 20 ls [.int 0, .ref (za 3)]) (by rw [show (0 * 4 : Int32) = 0 from by decide]) ?_
  refine lv_iload_n hx hb dX3_ownerOf_20 rfl (lv_at hl 3 rfl) ?_
  refine lv_iadd hx hb dX3_ownerOf_21 ?_
  refine W.eq (g2 := F0 m 22 ls [.int 1, .ref (za 3)]) (by rw [show (0 + 1 : Int32) = 1 from by decide]) ?_
  refine sg_sald hx hb hZ 3 rfl hS (y := 1) (N := 32) (vp_in_iff.mpr (by decide)) dX3_ownerOf_22 ?_
  refine W.eq (g2 := F0 m 23 ls [.int 10]) (by rfl) ?_
  refine lv_if_eq (tgt := 28) hx hb dX3_ownerOf_23 (by decide) (fun c => absurd c (by decide)) (fun c => ?_)
  refine lv_iload_n hx hb dX3_ownerOf_26 rfl (lv_at hl 1 rfl) ?_
  have k99 : (0 : Int32).toInt = 0 := ti_0
  exact hret _ _ _ _ (0) f L Q dX3_ownerOf_27 hP hS ⟨⟨rfl, rfl, rfl⟩, (by decide), (Eq.trans (Eq.symm hs) hsp)⟩

set_option maxHeartbeats 4000000 in
set_option maxRecDepth 100000 in
theorem kX3_runs_1_m1_3_f3_f4 (l : Launch) (D : va_G) (ca : Nat → ClassId) (za h : Nat → Nat) (hh : sgH 52 h) (f : sg_F) (L : sg_L) (Q : sg_Q) (hI : sgI loX hiX f) (x2 : Int32) (hf_36_3 : f 36 3 = 3) (hf_36_4 : f 36 4 = 4) (p0 : 3 ≤ (f 36 3).toInt ∧ (f 36 3).toInt ≤ 3) (sz : Nat) : Met l yX3_runs gwX3_runs { frames := 0, cells := 0, slots := 0, locals := 0 } (sgP D vwCl (tyX ca) 52 h (eX ca h) zcX za f L Q sz [.ref (h 36), .int 1, .int (-1), .int x2, .int 3]) (sgQi D vwCl 52 h (eX ca h) sz (fun r f1 L1 Q1 => ((f1 = f ∧ L1 = L ∧ Q1 = Q) ∧ True ∧ (3 ≤ (f1 36 3).toInt ∧ (f1 36 3).toInt ≤ 3) ∧ (r) = sX3_runs_1_m1_3_f3_f4 x2 f L))) 0 0 (sgA 52 h sz) := by
  refine sg_ofWi (cc := cX3_runs) (maxL := 5) RX3 (by decide) rfl rfl (Nat.le_of_ble_eq_true rfl) ?_
  intro p e s m below meth cd Qz ls hx hb hml hown hts hK hZ hP hS hl hret
  have hA := sgY.self (n := 52) (h := h) (sz := s.heap.size)
  have hl : lv_has ls 5 [(0, .ref (h 36)), (1, .int 1), (2, .int (-1)), (3, .int x2), (4, .int 3)] := hl
  obtain ⟨H, hH⟩ : ∃ z : Heap, z = s.heap := ⟨_, rfl⟩
  obtain ⟨locs, hlo⟩ : ∃ z : List Loc, z = [] := ⟨_, rfl⟩
  have hP : va_P D vwCl (sgw 52 h (eX ca h) f L Q) H := by rw [hH]; exact hP
  have hS : va_S (sgA 52 h s.heap.size) s.heap H locs := by rw [hH, hlo]; exact hS
  suffices hgo : W p l e ({ frames := 0, cells := 0, slots := 0, locals := 0 }) s m ([.ref (h 36), .int 1, .int (-1), .int x2, .int 3] : List Value).toArray below meth cd H locs 0 0 Qz (F0 m 0 ls []) by rw [hH, hlo] at hgo; exact hgo
  clear hH hlo
  obtain ⟨sp, hsp⟩ : ∃ z : Int32, z = sX3_runs_1_m1_3_f3_f4 x2 f L := ⟨_, rfl⟩
  have hs : sp = sX3_runs_1_m1_3_f3_f4 x2 f L := hsp
  have o_1 : (f 36 3).toInt = 3 := (congrArg Int32.toInt (show f 36 3 = 3 from hf_36_3)).trans (by decide)
  refine lv_iload_n hx hb dX3_runs_0 rfl (lv_at hl 1 rfl) ?_
  refine lv_lookup (x := 1) (off := 115) (tgt := 116) hx hb dX3_runs_1 (by decide) (by decide) (by decide) ?_
  refine lv_iload_n hx hb dX3_runs_116 rfl (lv_at hl 3 rfl) ?_
  refine lv_aload_n hx hb dX3_runs_117 rfl (lv_at hl 0 rfl) ?_
  refine sl_gX_36_5_3 (v := (f 36 5)) hx hb hts hown hK hP rfl dX3_runs_118 ?_
  refine lv_topi (fun v_2 ev_2 => ?_)
  have q_3 : 0 ≤ v_2.toInt ∧ v_2.toInt ≤ 49 := by rw [ev_2]; exact hI 36 5
  refine lv_iadd hx hb dX3_runs_121 ?_
  refine lv_topi (fun v_4 ev_4 => ?_)
  have q_5 : (f 36 3).toInt = 3 := (congrArg Int32.toInt (show f 36 3 = 3 from hf_36_3)).trans (by decide)
  exact hret _ _ _ _ (v_4) f L Q dX3_runs_122 hP hS ⟨⟨rfl, rfl, rfl⟩, trivial, ⟨by omega, by omega⟩, (Eq.trans (Eq.symm (hs.trans ((spl_e ev_2 (spl_e ev_4 rfl))))) hsp)⟩

abbrev WkX3_does_0_0_2_f2_f4 : List (Nat × Nat × Option Nat) := [(36, 36, some 3), (38, 38, some 2)]
set_option maxHeartbeats 4000000 in
set_option maxRecDepth 100000 in
theorem kX3_does_0_0_2_f2_f4 (l : Launch) (D : va_G) (ca : Nat → ClassId) (za h : Nat → Nat) (hh : sgH 52 h) (f : sg_F) (L : sg_L) (Q : sg_Q) (hI : sgI loX hiX f) (x2 : Int32) (hf_36_3 : f 36 3 = 2) (hf_36_4 : f 36 4 = 4) (p0 : 2 ≤ (f 36 3).toInt ∧ (f 36 3).toInt ≤ 2) (sz : Nat) : Met l yX3_does gwX3_does { frames := 1, cells := 0, slots := 0, locals := 24 } (sgP D vwCl (tyX ca) 52 h (eX ca h) zcX za f L Q sz [.ref (h 36), .int 0, .int 0, .int x2, .int 2]) (sgQi D vwCl 52 h (eX ca h) sz (fun r f1 L1 Q1 => ((sgI loX hiX f1 ∧ sgK WkX3_does_0_0_2_f2_f4 f f1 ∧ L1 = L ∧ Q1 = Q) ∧ True ∧ (3 ≤ (f1 36 3).toInt ∧ (f1 36 3).toInt ≤ 3) ∧ (r, f1) = sX3_does_0_0_2_f2_f4 x2 f L))) 0 0 (sgA 52 h sz) := by
  refine sg_ofWi (cc := cX3_does) (maxL := 7) RX3 (by decide) rfl rfl (Nat.le_of_ble_eq_true rfl) ?_
  intro p e s m below meth cd Qz ls hx hb hml hown hts hK hZ hP hS hl hret
  have hA := sgY.self (n := 52) (h := h) (sz := s.heap.size)
  have hl : lv_has ls 7 [(0, .ref (h 36)), (1, .int 0), (2, .int 0), (3, .int x2), (4, .int 2)] := hl
  obtain ⟨H, hH⟩ : ∃ z : Heap, z = s.heap := ⟨_, rfl⟩
  obtain ⟨locs, hlo⟩ : ∃ z : List Loc, z = [] := ⟨_, rfl⟩
  have hP : va_P D vwCl (sgw 52 h (eX ca h) f L Q) H := by rw [hH]; exact hP
  have hS : va_S (sgA 52 h s.heap.size) s.heap H locs := by rw [hH, hlo]; exact hS
  suffices hgo : W p l e ({ frames := 1, cells := 0, slots := 0, locals := 24 }) s m ([.ref (h 36), .int 0, .int 0, .int x2, .int 2] : List Value).toArray below meth cd H locs 0 0 Qz (F0 m 0 ls []) by rw [hH, hlo] at hgo; exact hgo
  clear hH hlo
  obtain ⟨sp, hsp⟩ : ∃ z : Int32 × sg_F, z = sX3_does_0_0_2_f2_f4 x2 f L := ⟨_, rfl⟩
  have hs : sp = sX3_does_0_0_2_f2_f4 x2 f L := hsp
  have o_1 : (f 36 3).toInt = 2 := (congrArg Int32.toInt (show f 36 3 = 2 from hf_36_3)).trans (by decide)
  have hF : sgK WkX3_does_0_0_2_f2_f4 f f := sgK.rf
  have blk_53 : ∀ (fp_53 : sg_F) (H : Heap) (locs : List Loc) (ls : Array Slot), sp = sX3_does_0_0_2_f2_f4_b53 x2 fp_53 L → 2 ≤ (fp_53 36 3).toInt ∧ (fp_53 36 3).toInt ≤ 2 → 4 ≤ (fp_53 36 4).toInt ∧ (fp_53 36 4).toInt ≤ 4 → sgI loX hiX fp_53 → sgK WkX3_does_0_0_2_f2_f4 f fp_53 → va_P D vwCl (sgw 52 h (eX ca h) fp_53 L Q) H → va_S (sgA 52 h s.heap.size) s.heap H locs → lv_has ls 7 [(0, .ref (h 36)), (3, .int x2), (4, .int 2), (5, .int 0), (6, .int 1)] → W p l e ({ frames := 1, cells := 0, slots := 0, locals := 24 }) s m ([.ref (h 36), .int 0, .int 0, .int x2, .int 2] : List Value).toArray below meth cd H locs 0 0 Qz (F0 m 53 ls []) := by
    intro fp_53 H locs ls hs hy0_53 hy1_53 hI hF hP hS hl
    obtain ⟨v_2, ev_2⟩ : ∃ z : Int32, z = fp_53 36 3 := ⟨_, rfl⟩
    have q_3 : 0 ≤ v_2.toInt ∧ v_2.toInt ≤ 19 := by rw [ev_2]; exact hI 36 3
    have q_4 : (fp_53 36 3).toInt = v_2.toInt := by rw [ev_2]
    obtain ⟨v_5, ev_5⟩ : ∃ z : Int32, z = fp_53 36 4 := ⟨_, rfl⟩
    have q_6 : 0 ≤ v_5.toInt ∧ v_5.toInt ≤ 7 := by rw [ev_5]; exact hI 36 4
    have q_7 : (fp_53 36 4).toInt = v_5.toInt := by rw [ev_5]
    have m_8 : fp_53 36 4 = 4 := (hF 36 4 (by decide)).trans hf_36_4
    refine lv_aload_n hx hb dX3_does_53 rfl (lv_at hl 0 rfl) ?_
    refine lv_dup hx hb dX3_does_54 rfl ?_
    refine sl_gX_36_3_3 (v := v_2) hx hb hts hown hK hP (show fp_53 36 3 = v_2 from ev_2.symm) dX3_does_55 ?_
    refine lv_iconst (v := 1) hx hb dX3_does_58 ic_1 ?_
    refine lv_iadd hx hb dX3_does_59 ?_
    refine lv_topi (fun v_9 ev_9 => ?_)
    have q_10 : v_9.toInt = v_2.toInt + 1 := by rw [ev_9]; first | exact cm_add ti_1 (by omega) (by omega) | (have k1 : (1 : Int32).toInt = 1 := ti_1; exact (bn_addI (by omega) (by omega)).trans (by omega))
    refine sl_pX_36_3_3 (x := v_9) hx hb hts hown hh hA hK hP hS dX3_does_60 (fun f_11 H locs ef_11 hP hS => ?_)
    have hI : sgI loX hiX f_11 := by rw [ef_11]; exact sgI.put hI 36 3 (show 0 ≤ (v_9 : Int32).toInt ∧ (v_9 : Int32).toInt ≤ 19 from ⟨by omega, by omega⟩)
    have hF : sgK WkX3_does_0_0_2_f2_f4 f f_11 := sgK.put hF ef_11 (by rfl)
    refine lv_aload_n hx hb dX3_does_63 rfl (lv_at hl 0 rfl) ?_
    refine lv_iload hx hb dX3_does_64 (lv_at hl 4 rfl) ?_
    refine sg_gets hx hb hZ 2 rfl hS hown (hts _ (List.mem_cons_of_mem _ mw_174)) (fun _ h9 => h9) dX3_does_66 ?_
    refine lv_iload hx hb dX3_does_69 (lv_at hl 3 rfl) ?_
    refine sg_sald hx hb hZ 2 rfl hS (y := 0) (N := 8) (vp_in_iff.mpr (by decide)) dX3_does_71 ?_
    refine W.eq (g2 := F0 m 72 ls [.int (-1), .int 1, .ref (h 36)]) (by rfl) ?_
    refine lv_iload_n hx hb dX3_does_72 rfl (lv_at hl 1 rfl) ?_
    refine lv_iload hx hb dX3_does_73 (lv_at hl 2 rfl) ?_
    refine lv_iconst (v := 1) hx hb dX3_does_75 ic_1 ?_
    refine lv_iadd hx hb dX3_does_76 ?_
    refine W.eq (g2 := F0 m 77 ls [.int 3, .int x2, .int (-1), .int 1, .ref (h 36)]) (by rw [show (2 + 1 : Int32) = 3 from by decide]) ?_
    have c_12 : v_9 = 3 := Int32.toInt_inj.mp (by have k9 : (3 : Int32).toInt = 3 := ti_3; omega)
    have q_13 : (f_11 36 3).toInt = 3 := (congrArg Int32.toInt (show f_11 36 3 = 3 from (Eq.trans (by rw [ef_11, sg_up_s, sgu_s]) c_12))).trans (by decide)
    refine sg_calli (va_runV (As := [.int 1, .int (-1), .int x2, .int 3]) (rest := []) ⟨hx, hb, hml, hown, hts⟩ (kX3_runs_1_m1_3_f3_f4 l D ca za h hh f_11 L Q hI x2 (Eq.trans (by rw [ef_11, sg_up_s, sgu_s]) c_12) (by rw [ef_11, sg_up_s, sgu_n (by decide)]; exact m_8) (by have k0 : (1 : Int32).toInt = 1 := ti_1; have k1 : ((-1) : Int32).toInt = (-1) := ti_m1; have k3 : (3 : Int32).toInt = 3 := ti_3; omega) H.size) (sl_c3_runs_0_0_0_0_3 hts ⟨Nat.le_of_ble_eq_true rfl, Nat.le_of_ble_eq_true rfl⟩) (sl_vX_36 hA hK hP hS hZ) rfl rfl hl.1 rfl (lv_room (Nat.le_of_ble_eq_true rfl)) dX3_does_77 ⟨Nat.le_refl _, Nat.le_refl _⟩) hA hS (fun r_18 f_15 L_16 Q_17 H locs hq hP hS => ?_)
    obtain ⟨⟨ef9, eL9, eQ9⟩, hq, p_19, u_20⟩ := hq
    rw [ef9, eL9, eQ9] at hP; clear ef9 eL9 eQ9
    have k_23 : (1 : Int32).toInt = 1 := by decide
    have k_24 : ((-1) : Int32).toInt = (-1) := by decide
    have k_25 : (3 : Int32).toInt = 3 := by decide
    exact hret _ _ _ _ (r_18) f_11 L Q dX3_does_80 hP hS ⟨⟨hI, hF, rfl, rfl⟩, trivial, ⟨by omega, by omega⟩, (Eq.trans (Eq.symm (hs.trans ((spl_e ev_2 (spl_e ev_5 (spl_e ev_9 (spl_e ef_11 (spl_e u_20 rfl)))))))) hsp)⟩
  refine lv_iload_n hx hb dX3_does_0 rfl (lv_at hl 1 rfl) ?_
  refine lv_iload_n hx hb dX3_does_1 rfl (lv_at hl 2 rfl) ?_
  refine sg_calli (va_runS (As := [.int 0, .int 0]) (rest := []) ⟨hx, hb, hml, hown, hts⟩ (kX3_ownerOf_0_0 l D ca za h hh f L Q hI H.size) (va_cwS 2 hts (gw_S (fun _ h => List.mem_cons_of_mem _ h) mw_189 mw_190 mw_47 mw_188) rfl rfl rfl hd_yX3_ownerOf.2 ⟨Nat.le_of_ble_eq_true rfl, Nat.le_of_ble_eq_true rfl⟩) (sg_preS hA hK hP hS hZ) rfl rfl hl.1 rfl (lv_room (Nat.le_of_ble_eq_true rfl)) dX3_does_2 ⟨Nat.le_refl _, Nat.le_refl _⟩) hA hS (fun r_31 f_28 L_29 Q_30 H locs hq hP hS => ?_)
  obtain ⟨⟨ef9, eL9, eQ9⟩, hq, u_32⟩ := hq
  rw [ef9, eL9, eQ9] at hP; clear ef9 eL9 eQ9
  obtain rfl : r_31 = 0 := Int32.toInt_inj.mp (by have k9 : (0 : Int32).toInt = 0 := ti_0; omega)
  refine lv_istore (lv' := [(5, .int 0), (0, .ref (h 36)), (1, .int 0), (2, .int 0), (3, .int x2), (4, .int 2)]) hx hb dX3_does_5 hl (by decide) rfl (fun ls hl => ?_)
  refine lv_iload hx hb dX3_does_7 (lv_at hl 0 rfl) ?_
  refine lv_if_lt (tgt := 19) hx hb dX3_does_9 (by decide) (fun c => absurd c (by decide)) (fun c => ?_)
  refine lv_iload hx hb dX3_does_12 (lv_at hl 5 rfl) ?_
  refine lv_bipush (v := 40) hx hb dX3_does_14 bp_40 ?_
  refine lv_icmp_le (tgt := 21) hx hb dX3_does_16 (by decide) (fun c => ?_) (fun c => absurd c (by decide))
  refine sg_gets hx hb hZ 3 rfl hS hown (hts _ (List.mem_cons_of_mem _ mw_173)) (fun _ h9 => h9) dX3_does_21 ?_
  refine lv_iload hx hb dX3_does_24 (lv_at hl 0 rfl) ?_
  refine lv_iconst (v := 4) hx hb dX3_does_26 ic_4 ?_
  refine lv_imul hx hb dX3_does_27 ?_
  refine W.eq (g2 := F0 m 28 ls [.int 0, .ref (za 3)]) (by rw [show (0 * 4 : Int32) = 0 from by decide]) ?_
  refine lv_iload_n hx hb dX3_does_28 rfl (lv_at hl 3 rfl) ?_
  refine lv_iadd hx hb dX3_does_29 ?_
  refine W.eq (g2 := F0 m 30 ls [.int 0, .ref (za 3)]) (by rw [show (0 + 0 : Int32) = 0 from by decide]) ?_
  refine sg_sald hx hb hZ 3 rfl hS (y := 0) (N := 32) (vp_in_iff.mpr (by decide)) dX3_does_30 ?_
  refine W.eq (g2 := F0 m 31 ls [.int 1]) (by rfl) ?_
  refine lv_istore (lv' := [(6, .int 1), (5, .int 0), (0, .ref (h 36)), (1, .int 0), (2, .int 0), (3, .int x2), (4, .int 2)]) hx hb dX3_does_31 hl (by decide) rfl (fun ls hl => ?_)
  refine lv_aload_n hx hb dX3_does_33 rfl (lv_at hl 2 rfl) ?_
  refine sl_gX_36_3_3 (v := 2) hx hb hts hown hK hP (show f 36 3 = 2 from hf_36_3) dX3_does_34 ?_
  refine lv_bipush (v := 24) hx hb dX3_does_37 bp_24 ?_
  refine lv_icmp_ge (tgt := 53) hx hb dX3_does_39 (by decide) (fun c => absurd c (by decide)) (fun c => ?_)
  refine lv_aload_n hx hb dX3_does_42 rfl (lv_at hl 2 rfl) ?_
  refine sl_gX_36_1_3 hx hb hts hown hK hP dX3_does_43 ?_
  refine lv_aload_n hx hb dX3_does_46 rfl (lv_at hl 2 rfl) ?_
  refine sl_gX_36_3_3 (v := 2) hx hb hts hown hK hP (show f 36 3 = 2 from hf_36_3) dX3_does_47 ?_
  refine lv_iload hx hb dX3_does_50 (lv_at hl 0 rfl) ?_
  refine sg_iast hx hb hh hA hK hP hS 38 (by decide) 0 (fun _ => rfl) rfl (i := 2) (x := 1) (vp_in_iff.mpr (by decide)) dX3_does_52 (fun f_33 H locs ef_33 hP hS => ?_)
  have ef_33 : f_33 = sg_up f 38 (sgu (f 38) 2 1) := ef_33
  have hI : sgI loX hiX f_33 := by rw [ef_33]; exact sgI.put hI 38 2 (show 0 ≤ (1 : Int32).toInt ∧ (1 : Int32).toInt ≤ 81 from by decide)
  have hF : sgK WkX3_does_0_0_2_f2_f4 f f_33 := sgK.put hF ef_33 (by rfl)
  exact blk_53 f_33 _ _ _ (hs.trans ((spl_e u_32 (spl_e ef_33 rfl)))) (by have zz36_3 : (f_33 36 3).toInt = 2 := (congrArg Int32.toInt (show f_33 36 3 = 2 from (by rw [ef_33, sg_up_n (by decide)]; exact hf_36_3))).trans (by decide); exact ⟨by omega, by omega⟩) (by have zz36_4 : (f_33 36 4).toInt = 4 := (congrArg Int32.toInt (show f_33 36 4 = 4 from (by rw [ef_33, sg_up_n (by decide)]; exact hf_36_4))).trans (by decide); exact ⟨by omega, by omega⟩) hI hF hP hS (lv_sub hl [2, 5, 6, 1, 0] rfl)

abbrev WkX3_runs_20_0_2_f2_f4 : List (Nat × Nat × Option Nat) := [(36, 36, some 3), (38, 38, some 2)]
set_option maxHeartbeats 4000000 in
set_option maxRecDepth 100000 in
theorem kX3_runs_20_0_2_f2_f4 (l : Launch) (D : va_G) (ca : Nat → ClassId) (za h : Nat → Nat) (hh : sgH 52 h) (f : sg_F) (L : sg_L) (Q : sg_Q) (hI : sgI loX hiX f) (x2 : Int32) (hf_36_3 : f 36 3 = 2) (hf_36_4 : f 36 4 = 4) (p0 : 2 ≤ (f 36 3).toInt ∧ (f 36 3).toInt ≤ 2) (sz : Nat) : Met l yX3_runs gwX3_runs { frames := 2, cells := 0, slots := 0, locals := 50 } (sgP D vwCl (tyX ca) 52 h (eX ca h) zcX za f L Q sz [.ref (h 36), .int 20, .int 0, .int x2, .int 2]) (sgQi D vwCl 52 h (eX ca h) sz (fun r f1 L1 Q1 => ((sgI loX hiX f1 ∧ sgK WkX3_runs_20_0_2_f2_f4 f f1 ∧ L1 = L ∧ Q1 = Q) ∧ True ∧ (3 ≤ (f1 36 3).toInt ∧ (f1 36 3).toInt ≤ 3) ∧ (r, f1) = sX3_runs_20_0_2_f2_f4 x2 f L))) 0 0 (sgA 52 h sz) := by
  refine sg_ofWi (cc := cX3_runs) (maxL := 5) RX3 (by decide) rfl rfl (Nat.le_of_ble_eq_true rfl) ?_
  intro p e s m below meth cd Qz ls hx hb hml hown hts hK hZ hP hS hl hret
  have hA := sgY.self (n := 52) (h := h) (sz := s.heap.size)
  have hl : lv_has ls 5 [(0, .ref (h 36)), (1, .int 20), (2, .int 0), (3, .int x2), (4, .int 2)] := hl
  obtain ⟨H, hH⟩ : ∃ z : Heap, z = s.heap := ⟨_, rfl⟩
  obtain ⟨locs, hlo⟩ : ∃ z : List Loc, z = [] := ⟨_, rfl⟩
  have hP : va_P D vwCl (sgw 52 h (eX ca h) f L Q) H := by rw [hH]; exact hP
  have hS : va_S (sgA 52 h s.heap.size) s.heap H locs := by rw [hH, hlo]; exact hS
  suffices hgo : W p l e ({ frames := 2, cells := 0, slots := 0, locals := 50 }) s m ([.ref (h 36), .int 20, .int 0, .int x2, .int 2] : List Value).toArray below meth cd H locs 0 0 Qz (F0 m 0 ls []) by rw [hH, hlo] at hgo; exact hgo
  clear hH hlo
  obtain ⟨sp, hsp⟩ : ∃ z : Int32 × sg_F, z = sX3_runs_20_0_2_f2_f4 x2 f L := ⟨_, rfl⟩
  have hs : sp = sX3_runs_20_0_2_f2_f4 x2 f L := hsp
  have o_1 : (f 36 3).toInt = 2 := (congrArg Int32.toInt (show f 36 3 = 2 from hf_36_3)).trans (by decide)
  have hF : sgK WkX3_runs_20_0_2_f2_f4 f f := sgK.rf
  refine lv_iload_n hx hb dX3_runs_0 rfl (lv_at hl 1 rfl) ?_
  refine lv_lookup (x := 20) (off := 170) (tgt := 171) hx hb dX3_runs_1 (by decide) (by decide) (by decide) ?_
  refine lv_aload_n hx hb dX3_runs_171 rfl (lv_at hl 0 rfl) ?_
  refine lv_iload_n hx hb dX3_runs_172 rfl (lv_at hl 2 rfl) ?_
  refine lv_iconst (v := 0) hx hb dX3_runs_173 ic_0 ?_
  refine lv_iload_n hx hb dX3_runs_174 rfl (lv_at hl 3 rfl) ?_
  refine lv_iload hx hb dX3_runs_175 (lv_at hl 4 rfl) ?_
  have q_2 : (f 36 3).toInt = 2 := (congrArg Int32.toInt (show f 36 3 = 2 from hf_36_3)).trans (by decide)
  refine sg_calli (va_runV (As := [.int 0, .int 0, .int x2, .int 2]) (rest := []) ⟨hx, hb, hml, hown, hts⟩ (kX3_does_0_0_2_f2_f4 l D ca za h hh f L Q hI x2 hf_36_3 hf_36_4 (by have k0 : (0 : Int32).toInt = 0 := ti_0; have k1 : (0 : Int32).toInt = 0 := ti_0; have k3 : (2 : Int32).toInt = 2 := ti_2; omega) H.size) (sl_c3_does_1_0_0_24_3 hts ⟨Nat.le_of_ble_eq_true rfl, Nat.le_of_ble_eq_true rfl⟩) (sl_vX_36 hA hK hP hS hZ) rfl rfl hl.1 rfl (lv_room (Nat.le_of_ble_eq_true rfl)) dX3_runs_177 ⟨Nat.le_refl _, Nat.le_refl _⟩) hA hS (fun r_7 f_4 L_5 Q_6 H locs hq hP hS => ?_)
  obtain ⟨⟨hI, hk_f_4, eL9, eQ9⟩, hq, p_8, u_9⟩ := hq
  rw [eL9, eQ9] at hP; clear eL9 eQ9
  have hF : sgK WkX3_runs_20_0_2_f2_f4 f f_4 := sgK.tr hF hk_f_4 (by decide +kernel)
  obtain ⟨v_10, ev_10⟩ : ∃ z : Int32, z = f_4 36 3 := ⟨_, rfl⟩
  have q_11 : 0 ≤ v_10.toInt ∧ v_10.toInt ≤ 19 := by rw [ev_10]; exact hI 36 3
  have q_12 : (f_4 36 3).toInt = v_10.toInt := (congrArg Int32.toInt (show f_4 36 3 = v_10 from ev_10.symm))
  have k_14 : (0 : Int32).toInt = 0 := by decide
  have k_15 : (0 : Int32).toInt = 0 := by decide
  have k_16 : (2 : Int32).toInt = 2 := by decide
  refine lv_iconst (v := 3) hx hb dX3_runs_180 ic_3 ?_
  refine lv_iadd hx hb dX3_runs_181 ?_
  refine lv_topi (fun v_17 ev_17 => ?_)
  exact hret _ _ _ _ (v_17) f_4 L Q dX3_runs_182 hP hS ⟨⟨hI, hF, rfl, rfl⟩, trivial, ⟨by omega, by omega⟩, (Eq.trans (Eq.symm (hs.trans ((spl2_e u_9 (spl_e ev_10 (spl_e ev_17 rfl)))))) hsp)⟩

abbrev WkX3_does_4_0_1_f1_f4 : List (Nat × Nat × Option Nat) := [(36, 36, some 3), (38, 38, some 1), (38, 38, some 2)]
set_option maxHeartbeats 4000000 in
set_option maxRecDepth 100000 in
theorem kX3_does_4_0_1_f1_f4 (l : Launch) (D : va_G) (ca : Nat → ClassId) (za h : Nat → Nat) (hh : sgH 52 h) (f : sg_F) (L : sg_L) (Q : sg_Q) (hI : sgI loX hiX f) (x2 : Int32) (hf_36_3 : f 36 3 = 1) (hf_36_4 : f 36 4 = 4) (p0 : 1 ≤ (f 36 3).toInt ∧ (f 36 3).toInt ≤ 1) (sz : Nat) : Met l yX3_does gwX3_does { frames := 3, cells := 0, slots := 0, locals := 74 } (sgP D vwCl (tyX ca) 52 h (eX ca h) zcX za f L Q sz [.ref (h 36), .int 4, .int 0, .int x2, .int 1]) (sgQi D vwCl 52 h (eX ca h) sz (fun r f1 L1 Q1 => ((sgI loX hiX f1 ∧ sgK WkX3_does_4_0_1_f1_f4 f f1 ∧ L1 = L ∧ Q1 = Q) ∧ True ∧ (3 ≤ (f1 36 3).toInt ∧ (f1 36 3).toInt ≤ 3) ∧ (r, f1) = sX3_does_4_0_1_f1_f4 x2 f L))) 0 0 (sgA 52 h sz) := by
  refine sg_ofWi (cc := cX3_does) (maxL := 7) RX3 (by decide) rfl rfl (Nat.le_of_ble_eq_true rfl) ?_
  intro p e s m below meth cd Qz ls hx hb hml hown hts hK hZ hP hS hl hret
  have hA := sgY.self (n := 52) (h := h) (sz := s.heap.size)
  have hl : lv_has ls 7 [(0, .ref (h 36)), (1, .int 4), (2, .int 0), (3, .int x2), (4, .int 1)] := hl
  obtain ⟨H, hH⟩ : ∃ z : Heap, z = s.heap := ⟨_, rfl⟩
  obtain ⟨locs, hlo⟩ : ∃ z : List Loc, z = [] := ⟨_, rfl⟩
  have hP : va_P D vwCl (sgw 52 h (eX ca h) f L Q) H := by rw [hH]; exact hP
  have hS : va_S (sgA 52 h s.heap.size) s.heap H locs := by rw [hH, hlo]; exact hS
  suffices hgo : W p l e ({ frames := 3, cells := 0, slots := 0, locals := 74 }) s m ([.ref (h 36), .int 4, .int 0, .int x2, .int 1] : List Value).toArray below meth cd H locs 0 0 Qz (F0 m 0 ls []) by rw [hH, hlo] at hgo; exact hgo
  clear hH hlo
  obtain ⟨sp, hsp⟩ : ∃ z : Int32 × sg_F, z = sX3_does_4_0_1_f1_f4 x2 f L := ⟨_, rfl⟩
  have hs : sp = sX3_does_4_0_1_f1_f4 x2 f L := hsp
  have o_1 : (f 36 3).toInt = 1 := (congrArg Int32.toInt (show f 36 3 = 1 from hf_36_3)).trans (by decide)
  have hF : sgK WkX3_does_4_0_1_f1_f4 f f := sgK.rf
  have blk_53 : ∀ (fp_53 : sg_F) (H : Heap) (locs : List Loc) (ls : Array Slot), sp = sX3_does_4_0_1_f1_f4_b53 x2 fp_53 L → 1 ≤ (fp_53 36 3).toInt ∧ (fp_53 36 3).toInt ≤ 1 → 4 ≤ (fp_53 36 4).toInt ∧ (fp_53 36 4).toInt ≤ 4 → sgI loX hiX fp_53 → sgK WkX3_does_4_0_1_f1_f4 f fp_53 → va_P D vwCl (sgw 52 h (eX ca h) fp_53 L Q) H → va_S (sgA 52 h s.heap.size) s.heap H locs → lv_has ls 7 [(0, .ref (h 36)), (3, .int x2), (4, .int 1), (5, .int 1), (6, .int 20)] → W p l e ({ frames := 3, cells := 0, slots := 0, locals := 74 }) s m ([.ref (h 36), .int 4, .int 0, .int x2, .int 1] : List Value).toArray below meth cd H locs 0 0 Qz (F0 m 53 ls []) := by
    intro fp_53 H locs ls hs hy0_53 hy1_53 hI hF hP hS hl
    obtain ⟨v_2, ev_2⟩ : ∃ z : Int32, z = fp_53 36 3 := ⟨_, rfl⟩
    have q_3 : 0 ≤ v_2.toInt ∧ v_2.toInt ≤ 19 := by rw [ev_2]; exact hI 36 3
    have q_4 : (fp_53 36 3).toInt = v_2.toInt := by rw [ev_2]
    obtain ⟨v_5, ev_5⟩ : ∃ z : Int32, z = fp_53 36 4 := ⟨_, rfl⟩
    have q_6 : 0 ≤ v_5.toInt ∧ v_5.toInt ≤ 7 := by rw [ev_5]; exact hI 36 4
    have q_7 : (fp_53 36 4).toInt = v_5.toInt := by rw [ev_5]
    have m_8 : fp_53 36 4 = 4 := (hF 36 4 (by decide)).trans hf_36_4
    refine lv_aload_n hx hb dX3_does_53 rfl (lv_at hl 0 rfl) ?_
    refine lv_dup hx hb dX3_does_54 rfl ?_
    refine sl_gX_36_3_3 (v := v_2) hx hb hts hown hK hP (show fp_53 36 3 = v_2 from ev_2.symm) dX3_does_55 ?_
    refine lv_iconst (v := 1) hx hb dX3_does_58 ic_1 ?_
    refine lv_iadd hx hb dX3_does_59 ?_
    refine lv_topi (fun v_9 ev_9 => ?_)
    have q_10 : v_9.toInt = v_2.toInt + 1 := by rw [ev_9]; first | exact cm_add ti_1 (by omega) (by omega) | (have k1 : (1 : Int32).toInt = 1 := ti_1; exact (bn_addI (by omega) (by omega)).trans (by omega))
    refine sl_pX_36_3_3 (x := v_9) hx hb hts hown hh hA hK hP hS dX3_does_60 (fun f_11 H locs ef_11 hP hS => ?_)
    have hI : sgI loX hiX f_11 := by rw [ef_11]; exact sgI.put hI 36 3 (show 0 ≤ (v_9 : Int32).toInt ∧ (v_9 : Int32).toInt ≤ 19 from ⟨by omega, by omega⟩)
    have hF : sgK WkX3_does_4_0_1_f1_f4 f f_11 := sgK.put hF ef_11 (by rfl)
    refine lv_aload_n hx hb dX3_does_63 rfl (lv_at hl 0 rfl) ?_
    refine lv_iload hx hb dX3_does_64 (lv_at hl 4 rfl) ?_
    refine sg_gets hx hb hZ 2 rfl hS hown (hts _ (List.mem_cons_of_mem _ mw_174)) (fun _ h9 => h9) dX3_does_66 ?_
    refine lv_iload hx hb dX3_does_69 (lv_at hl 3 rfl) ?_
    refine sg_sald hx hb hZ 2 rfl hS (y := 1) (N := 8) (vp_in_iff.mpr (by decide)) dX3_does_71 ?_
    refine W.eq (g2 := F0 m 72 ls [.int 0, .int 20, .ref (h 36)]) (by rfl) ?_
    refine lv_iload_n hx hb dX3_does_72 rfl (lv_at hl 1 rfl) ?_
    refine lv_iload hx hb dX3_does_73 (lv_at hl 2 rfl) ?_
    refine lv_iconst (v := 1) hx hb dX3_does_75 ic_1 ?_
    refine lv_iadd hx hb dX3_does_76 ?_
    refine W.eq (g2 := F0 m 77 ls [.int 2, .int x2, .int 0, .int 20, .ref (h 36)]) (by rw [show (1 + 1 : Int32) = 2 from by decide]) ?_
    have c_12 : v_9 = 2 := Int32.toInt_inj.mp (by have k9 : (2 : Int32).toInt = 2 := ti_2; omega)
    have q_13 : (f_11 36 3).toInt = 2 := (congrArg Int32.toInt (show f_11 36 3 = 2 from (Eq.trans (by rw [ef_11, sg_up_s, sgu_s]) c_12))).trans (by decide)
    refine sg_calli (va_runV (As := [.int 20, .int 0, .int x2, .int 2]) (rest := []) ⟨hx, hb, hml, hown, hts⟩ (kX3_runs_20_0_2_f2_f4 l D ca za h hh f_11 L Q hI x2 (Eq.trans (by rw [ef_11, sg_up_s, sgu_s]) c_12) (by rw [ef_11, sg_up_s, sgu_n (by decide)]; exact m_8) (by have k0 : (20 : Int32).toInt = 20 := ti_20; have k1 : (0 : Int32).toInt = 0 := ti_0; have k3 : (2 : Int32).toInt = 2 := ti_2; omega) H.size) (sl_c3_runs_2_0_0_50_3 hts ⟨Nat.le_of_ble_eq_true rfl, Nat.le_of_ble_eq_true rfl⟩) (sl_vX_36 hA hK hP hS hZ) rfl rfl hl.1 rfl (lv_room (Nat.le_of_ble_eq_true rfl)) dX3_does_77 ⟨Nat.le_refl _, Nat.le_refl _⟩) hA hS (fun r_18 f_15 L_16 Q_17 H locs hq hP hS => ?_)
    obtain ⟨⟨hI, hk_f_15, eL9, eQ9⟩, hq, p_19, u_20⟩ := hq
    rw [eL9, eQ9] at hP; clear eL9 eQ9
    have hF : sgK WkX3_does_4_0_1_f1_f4 f f_15 := sgK.tr hF hk_f_15 (by decide +kernel)
    obtain ⟨v_21, ev_21⟩ : ∃ z : Int32, z = f_15 36 3 := ⟨_, rfl⟩
    have q_22 : 0 ≤ v_21.toInt ∧ v_21.toInt ≤ 19 := by rw [ev_21]; exact hI 36 3
    have q_23 : (f_15 36 3).toInt = v_21.toInt := (congrArg Int32.toInt (show f_15 36 3 = v_21 from ev_21.symm))
    have k_25 : (20 : Int32).toInt = 20 := by decide
    have k_26 : (0 : Int32).toInt = 0 := by decide
    have k_27 : (2 : Int32).toInt = 2 := by decide
    exact hret _ _ _ _ (r_18) f_15 L Q dX3_does_80 hP hS ⟨⟨hI, hF, rfl, rfl⟩, trivial, ⟨by omega, by omega⟩, (Eq.trans (Eq.symm (hs.trans ((spl_e ev_2 (spl_e ev_5 (spl_e ev_9 (spl_e ef_11 (spl2_e u_20 (spl_e ev_21 rfl))))))))) hsp)⟩
  refine lv_iload_n hx hb dX3_does_0 rfl (lv_at hl 1 rfl) ?_
  refine lv_iload_n hx hb dX3_does_1 rfl (lv_at hl 2 rfl) ?_
  refine sg_calli (va_runS (As := [.int 4, .int 0]) (rest := []) ⟨hx, hb, hml, hown, hts⟩ (kX3_ownerOf_4_0 l D ca za h hh f L Q hI H.size) (va_cwS 2 hts (gw_S (fun _ h => List.mem_cons_of_mem _ h) mw_189 mw_190 mw_47 mw_188) rfl rfl rfl hd_yX3_ownerOf.2 ⟨Nat.le_of_ble_eq_true rfl, Nat.le_of_ble_eq_true rfl⟩) (sg_preS hA hK hP hS hZ) rfl rfl hl.1 rfl (lv_room (Nat.le_of_ble_eq_true rfl)) dX3_does_2 ⟨Nat.le_refl _, Nat.le_refl _⟩) hA hS (fun r_33 f_30 L_31 Q_32 H locs hq hP hS => ?_)
  obtain ⟨⟨ef9, eL9, eQ9⟩, hq, u_34⟩ := hq
  rw [ef9, eL9, eQ9] at hP; clear ef9 eL9 eQ9
  obtain rfl : r_33 = 1 := Int32.toInt_inj.mp (by have k9 : (1 : Int32).toInt = 1 := ti_1; omega)
  refine lv_istore (lv' := [(5, .int 1), (0, .ref (h 36)), (1, .int 4), (2, .int 0), (3, .int x2), (4, .int 1)]) hx hb dX3_does_5 hl (by decide) rfl (fun ls hl => ?_)
  refine lv_iload hx hb dX3_does_7 (lv_at hl 0 rfl) ?_
  refine lv_if_lt (tgt := 19) hx hb dX3_does_9 (by decide) (fun c => absurd c (by decide)) (fun c => ?_)
  refine lv_iload hx hb dX3_does_12 (lv_at hl 5 rfl) ?_
  refine lv_bipush (v := 40) hx hb dX3_does_14 bp_40 ?_
  refine lv_icmp_le (tgt := 21) hx hb dX3_does_16 (by decide) (fun c => ?_) (fun c => absurd c (by decide))
  refine sg_gets hx hb hZ 3 rfl hS hown (hts _ (List.mem_cons_of_mem _ mw_173)) (fun _ h9 => h9) dX3_does_21 ?_
  refine lv_iload hx hb dX3_does_24 (lv_at hl 0 rfl) ?_
  refine lv_iconst (v := 4) hx hb dX3_does_26 ic_4 ?_
  refine lv_imul hx hb dX3_does_27 ?_
  refine W.eq (g2 := F0 m 28 ls [.int 4, .ref (za 3)]) (by rw [show (1 * 4 : Int32) = 4 from by decide]) ?_
  refine lv_iload_n hx hb dX3_does_28 rfl (lv_at hl 3 rfl) ?_
  refine lv_iadd hx hb dX3_does_29 ?_
  refine W.eq (g2 := F0 m 30 ls [.int 4, .ref (za 3)]) (by rw [show (4 + 0 : Int32) = 4 from by decide]) ?_
  refine sg_sald hx hb hZ 3 rfl hS (y := 4) (N := 32) (vp_in_iff.mpr (by decide)) dX3_does_30 ?_
  refine W.eq (g2 := F0 m 31 ls [.int 20]) (by rfl) ?_
  refine lv_istore (lv' := [(6, .int 20), (5, .int 1), (0, .ref (h 36)), (1, .int 4), (2, .int 0), (3, .int x2), (4, .int 1)]) hx hb dX3_does_31 hl (by decide) rfl (fun ls hl => ?_)
  refine lv_aload_n hx hb dX3_does_33 rfl (lv_at hl 2 rfl) ?_
  refine sl_gX_36_3_3 (v := 1) hx hb hts hown hK hP (show f 36 3 = 1 from hf_36_3) dX3_does_34 ?_
  refine lv_bipush (v := 24) hx hb dX3_does_37 bp_24 ?_
  refine lv_icmp_ge (tgt := 53) hx hb dX3_does_39 (by decide) (fun c => absurd c (by decide)) (fun c => ?_)
  refine lv_aload_n hx hb dX3_does_42 rfl (lv_at hl 2 rfl) ?_
  refine sl_gX_36_1_3 hx hb hts hown hK hP dX3_does_43 ?_
  refine lv_aload_n hx hb dX3_does_46 rfl (lv_at hl 2 rfl) ?_
  refine sl_gX_36_3_3 (v := 1) hx hb hts hown hK hP (show f 36 3 = 1 from hf_36_3) dX3_does_47 ?_
  refine lv_iload hx hb dX3_does_50 (lv_at hl 0 rfl) ?_
  refine sg_iast hx hb hh hA hK hP hS 38 (by decide) 0 (fun _ => rfl) rfl (i := 1) (x := 20) (vp_in_iff.mpr (by decide)) dX3_does_52 (fun f_35 H locs ef_35 hP hS => ?_)
  have ef_35 : f_35 = sg_up f 38 (sgu (f 38) 1 20) := ef_35
  have hI : sgI loX hiX f_35 := by rw [ef_35]; exact sgI.put hI 38 1 (show 0 ≤ (20 : Int32).toInt ∧ (20 : Int32).toInt ≤ 81 from by decide)
  have hF : sgK WkX3_does_4_0_1_f1_f4 f f_35 := sgK.put hF ef_35 (by rfl)
  exact blk_53 f_35 _ _ _ (hs.trans ((spl_e u_34 (spl_e ef_35 rfl)))) (by have zz36_3 : (f_35 36 3).toInt = 1 := (congrArg Int32.toInt (show f_35 36 3 = 1 from (by rw [ef_35, sg_up_n (by decide)]; exact hf_36_3))).trans (by decide); exact ⟨by omega, by omega⟩) (by have zz36_4 : (f_35 36 4).toInt = 4 := (congrArg Int32.toInt (show f_35 36 4 = 4 from (by rw [ef_35, sg_up_n (by decide)]; exact hf_36_4))).trans (by decide); exact ⟨by omega, by omega⟩) hI hF hP hS (lv_sub hl [2, 5, 6, 1, 0] rfl)

abbrev WkX3_runs_10_m1_1_f1_f4 : List (Nat × Nat × Option Nat) := [(36, 36, some 3), (38, 38, some 1), (38, 38, some 2)]
set_option maxHeartbeats 4000000 in
set_option maxRecDepth 100000 in
theorem kX3_runs_10_m1_1_f1_f4 (l : Launch) (D : va_G) (ca : Nat → ClassId) (za h : Nat → Nat) (hh : sgH 52 h) (f : sg_F) (L : sg_L) (Q : sg_Q) (hI : sgI loX hiX f) (x2 : Int32) (hf_36_3 : f 36 3 = 1) (hf_36_4 : f 36 4 = 4) (p0 : 1 ≤ (f 36 3).toInt ∧ (f 36 3).toInt ≤ 1) (sz : Nat) : Met l yX3_runs gwX3_runs { frames := 4, cells := 0, slots := 0, locals := 100 } (sgP D vwCl (tyX ca) 52 h (eX ca h) zcX za f L Q sz [.ref (h 36), .int 10, .int (-1), .int x2, .int 1]) (sgQi D vwCl 52 h (eX ca h) sz (fun r f1 L1 Q1 => ((sgI loX hiX f1 ∧ sgK WkX3_runs_10_m1_1_f1_f4 f f1 ∧ L1 = L ∧ Q1 = Q) ∧ True ∧ (3 ≤ (f1 36 3).toInt ∧ (f1 36 3).toInt ≤ 3) ∧ (r, f1) = sX3_runs_10_m1_1_f1_f4 x2 f L))) 0 0 (sgA 52 h sz) := by
  refine sg_ofWi (cc := cX3_runs) (maxL := 5) RX3 (by decide) rfl rfl (Nat.le_of_ble_eq_true rfl) ?_
  intro p e s m below meth cd Qz ls hx hb hml hown hts hK hZ hP hS hl hret
  have hA := sgY.self (n := 52) (h := h) (sz := s.heap.size)
  have hl : lv_has ls 5 [(0, .ref (h 36)), (1, .int 10), (2, .int (-1)), (3, .int x2), (4, .int 1)] := hl
  obtain ⟨H, hH⟩ : ∃ z : Heap, z = s.heap := ⟨_, rfl⟩
  obtain ⟨locs, hlo⟩ : ∃ z : List Loc, z = [] := ⟨_, rfl⟩
  have hP : va_P D vwCl (sgw 52 h (eX ca h) f L Q) H := by rw [hH]; exact hP
  have hS : va_S (sgA 52 h s.heap.size) s.heap H locs := by rw [hH, hlo]; exact hS
  suffices hgo : W p l e ({ frames := 4, cells := 0, slots := 0, locals := 100 }) s m ([.ref (h 36), .int 10, .int (-1), .int x2, .int 1] : List Value).toArray below meth cd H locs 0 0 Qz (F0 m 0 ls []) by rw [hH, hlo] at hgo; exact hgo
  clear hH hlo
  obtain ⟨sp, hsp⟩ : ∃ z : Int32 × sg_F, z = sX3_runs_10_m1_1_f1_f4 x2 f L := ⟨_, rfl⟩
  have hs : sp = sX3_runs_10_m1_1_f1_f4 x2 f L := hsp
  have o_1 : (f 36 3).toInt = 1 := (congrArg Int32.toInt (show f 36 3 = 1 from hf_36_3)).trans (by decide)
  have hF : sgK WkX3_runs_10_m1_1_f1_f4 f f := sgK.rf
  refine lv_iload_n hx hb dX3_runs_0 rfl (lv_at hl 1 rfl) ?_
  refine lv_lookup (x := 10) (off := 148) (tgt := 149) hx hb dX3_runs_1 (by decide) (by decide) (by decide) ?_
  refine lv_aload_n hx hb dX3_runs_149 rfl (lv_at hl 0 rfl) ?_
  refine lv_aload_n hx hb dX3_runs_150 rfl (lv_at hl 0 rfl) ?_
  refine sl_gX_36_4_3 (v := 4) hx hb hts hown hK hP (show f 36 4 = 4 from hf_36_4) dX3_runs_151 ?_
  refine lv_iconst (v := 0) hx hb dX3_runs_154 ic_0 ?_
  refine lv_iload_n hx hb dX3_runs_155 rfl (lv_at hl 3 rfl) ?_
  refine lv_iload hx hb dX3_runs_156 (lv_at hl 4 rfl) ?_
  have q_2 : (f 36 3).toInt = 1 := (congrArg Int32.toInt (show f 36 3 = 1 from hf_36_3)).trans (by decide)
  refine sg_calli (va_runV (As := [.int 4, .int 0, .int x2, .int 1]) (rest := []) ⟨hx, hb, hml, hown, hts⟩ (kX3_does_4_0_1_f1_f4 l D ca za h hh f L Q hI x2 hf_36_3 hf_36_4 (by have k0 : (4 : Int32).toInt = 4 := ti_4; have k1 : (0 : Int32).toInt = 0 := ti_0; have k3 : (1 : Int32).toInt = 1 := ti_1; omega) H.size) (sl_c3_does_3_0_0_74_3 hts ⟨Nat.le_of_ble_eq_true rfl, Nat.le_of_ble_eq_true rfl⟩) (sl_vX_36 hA hK hP hS hZ) rfl rfl hl.1 rfl (lv_room (Nat.le_of_ble_eq_true rfl)) dX3_runs_158 ⟨Nat.le_refl _, Nat.le_refl _⟩) hA hS (fun r_7 f_4 L_5 Q_6 H locs hq hP hS => ?_)
  obtain ⟨⟨hI, hk_f_4, eL9, eQ9⟩, hq, p_8, u_9⟩ := hq
  rw [eL9, eQ9] at hP; clear eL9 eQ9
  have hF : sgK WkX3_runs_10_m1_1_f1_f4 f f_4 := sgK.tr hF hk_f_4 (by decide +kernel)
  obtain ⟨v_10, ev_10⟩ : ∃ z : Int32, z = f_4 36 3 := ⟨_, rfl⟩
  have q_11 : 0 ≤ v_10.toInt ∧ v_10.toInt ≤ 19 := by rw [ev_10]; exact hI 36 3
  have q_12 : (f_4 36 3).toInt = v_10.toInt := (congrArg Int32.toInt (show f_4 36 3 = v_10 from ev_10.symm))
  have k_14 : (4 : Int32).toInt = 4 := by decide
  have k_15 : (0 : Int32).toInt = 0 := by decide
  have k_16 : (1 : Int32).toInt = 1 := by decide
  refine lv_iconst (v := 2) hx hb dX3_runs_161 ic_2 ?_
  refine lv_imul hx hb dX3_runs_162 ?_
  refine lv_topi (fun v_17 ev_17 => ?_)
  exact hret _ _ _ _ (v_17) f_4 L Q dX3_runs_163 hP hS ⟨⟨hI, hF, rfl, rfl⟩, trivial, ⟨by omega, by omega⟩, (Eq.trans (Eq.symm (hs.trans ((spl2_e u_9 (spl_e ev_10 (spl_e ev_17 rfl)))))) hsp)⟩

abbrev WkX3_does_4_1_0_f0_f4 : List (Nat × Nat × Option Nat) := [(36, 36, some 3), (38, 38, some 0), (38, 38, some 1), (38, 38, some 2)]
set_option maxHeartbeats 4000000 in
set_option maxRecDepth 100000 in
theorem kX3_does_4_1_0_f0_f4 (l : Launch) (D : va_G) (ca : Nat → ClassId) (za h : Nat → Nat) (hh : sgH 52 h) (f : sg_F) (L : sg_L) (Q : sg_Q) (hI : sgI loX hiX f) (x2 : Int32) (hf_36_3 : f 36 3 = 0) (hf_36_4 : f 36 4 = 4) (p0 : 0 ≤ (f 36 3).toInt ∧ (f 36 3).toInt ≤ 0) (sz : Nat) : Met l yX3_does gwX3_does { frames := 5, cells := 0, slots := 0, locals := 124 } (sgP D vwCl (tyX ca) 52 h (eX ca h) zcX za f L Q sz [.ref (h 36), .int 4, .int 1, .int x2, .int 0]) (sgQi D vwCl 52 h (eX ca h) sz (fun r f1 L1 Q1 => ((sgI loX hiX f1 ∧ sgK WkX3_does_4_1_0_f0_f4 f f1 ∧ L1 = L ∧ Q1 = Q) ∧ True ∧ (3 ≤ (f1 36 3).toInt ∧ (f1 36 3).toInt ≤ 3) ∧ (r, f1) = sX3_does_4_1_0_f0_f4 x2 f L))) 0 0 (sgA 52 h sz) := by
  refine sg_ofWi (cc := cX3_does) (maxL := 7) RX3 (by decide) rfl rfl (Nat.le_of_ble_eq_true rfl) ?_
  intro p e s m below meth cd Qz ls hx hb hml hown hts hK hZ hP hS hl hret
  have hA := sgY.self (n := 52) (h := h) (sz := s.heap.size)
  have hl : lv_has ls 7 [(0, .ref (h 36)), (1, .int 4), (2, .int 1), (3, .int x2), (4, .int 0)] := hl
  obtain ⟨H, hH⟩ : ∃ z : Heap, z = s.heap := ⟨_, rfl⟩
  obtain ⟨locs, hlo⟩ : ∃ z : List Loc, z = [] := ⟨_, rfl⟩
  have hP : va_P D vwCl (sgw 52 h (eX ca h) f L Q) H := by rw [hH]; exact hP
  have hS : va_S (sgA 52 h s.heap.size) s.heap H locs := by rw [hH, hlo]; exact hS
  suffices hgo : W p l e ({ frames := 5, cells := 0, slots := 0, locals := 124 }) s m ([.ref (h 36), .int 4, .int 1, .int x2, .int 0] : List Value).toArray below meth cd H locs 0 0 Qz (F0 m 0 ls []) by rw [hH, hlo] at hgo; exact hgo
  clear hH hlo
  obtain ⟨sp, hsp⟩ : ∃ z : Int32 × sg_F, z = sX3_does_4_1_0_f0_f4 x2 f L := ⟨_, rfl⟩
  have hs : sp = sX3_does_4_1_0_f0_f4 x2 f L := hsp
  have o_1 : (f 36 3).toInt = 0 := (congrArg Int32.toInt (show f 36 3 = 0 from hf_36_3)).trans (by decide)
  have hF : sgK WkX3_does_4_1_0_f0_f4 f f := sgK.rf
  have blk_53 : ∀ (fp_53 : sg_F) (H : Heap) (locs : List Loc) (ls : Array Slot), sp = sX3_does_4_1_0_f0_f4_b53 x2 fp_53 L → 0 ≤ (fp_53 36 3).toInt ∧ (fp_53 36 3).toInt ≤ 0 → 4 ≤ (fp_53 36 4).toInt ∧ (fp_53 36 4).toInt ≤ 4 → sgI loX hiX fp_53 → sgK WkX3_does_4_1_0_f0_f4 f fp_53 → va_P D vwCl (sgw 52 h (eX ca h) fp_53 L Q) H → va_S (sgA 52 h s.heap.size) s.heap H locs → lv_has ls 7 [(0, .ref (h 36)), (3, .int x2), (4, .int 0), (5, .int 0), (6, .int 10)] → W p l e ({ frames := 5, cells := 0, slots := 0, locals := 124 }) s m ([.ref (h 36), .int 4, .int 1, .int x2, .int 0] : List Value).toArray below meth cd H locs 0 0 Qz (F0 m 53 ls []) := by
    intro fp_53 H locs ls hs hy0_53 hy1_53 hI hF hP hS hl
    obtain ⟨v_2, ev_2⟩ : ∃ z : Int32, z = fp_53 36 3 := ⟨_, rfl⟩
    have q_3 : 0 ≤ v_2.toInt ∧ v_2.toInt ≤ 19 := by rw [ev_2]; exact hI 36 3
    have q_4 : (fp_53 36 3).toInt = v_2.toInt := by rw [ev_2]
    obtain ⟨v_5, ev_5⟩ : ∃ z : Int32, z = fp_53 36 4 := ⟨_, rfl⟩
    have q_6 : 0 ≤ v_5.toInt ∧ v_5.toInt ≤ 7 := by rw [ev_5]; exact hI 36 4
    have q_7 : (fp_53 36 4).toInt = v_5.toInt := by rw [ev_5]
    have m_8 : fp_53 36 4 = 4 := (hF 36 4 (by decide)).trans hf_36_4
    refine lv_aload_n hx hb dX3_does_53 rfl (lv_at hl 0 rfl) ?_
    refine lv_dup hx hb dX3_does_54 rfl ?_
    refine sl_gX_36_3_3 (v := v_2) hx hb hts hown hK hP (show fp_53 36 3 = v_2 from ev_2.symm) dX3_does_55 ?_
    refine lv_iconst (v := 1) hx hb dX3_does_58 ic_1 ?_
    refine lv_iadd hx hb dX3_does_59 ?_
    refine lv_topi (fun v_9 ev_9 => ?_)
    have q_10 : v_9.toInt = v_2.toInt + 1 := by rw [ev_9]; first | exact cm_add ti_1 (by omega) (by omega) | (have k1 : (1 : Int32).toInt = 1 := ti_1; exact (bn_addI (by omega) (by omega)).trans (by omega))
    refine sl_pX_36_3_3 (x := v_9) hx hb hts hown hh hA hK hP hS dX3_does_60 (fun f_11 H locs ef_11 hP hS => ?_)
    have hI : sgI loX hiX f_11 := by rw [ef_11]; exact sgI.put hI 36 3 (show 0 ≤ (v_9 : Int32).toInt ∧ (v_9 : Int32).toInt ≤ 19 from ⟨by omega, by omega⟩)
    have hF : sgK WkX3_does_4_1_0_f0_f4 f f_11 := sgK.put hF ef_11 (by rfl)
    refine lv_aload_n hx hb dX3_does_63 rfl (lv_at hl 0 rfl) ?_
    refine lv_iload hx hb dX3_does_64 (lv_at hl 4 rfl) ?_
    refine sg_gets hx hb hZ 2 rfl hS hown (hts _ (List.mem_cons_of_mem _ mw_174)) (fun _ h9 => h9) dX3_does_66 ?_
    refine lv_iload hx hb dX3_does_69 (lv_at hl 3 rfl) ?_
    refine sg_sald hx hb hZ 2 rfl hS (y := 0) (N := 8) (vp_in_iff.mpr (by decide)) dX3_does_71 ?_
    refine W.eq (g2 := F0 m 72 ls [.int (-1), .int 10, .ref (h 36)]) (by rfl) ?_
    refine lv_iload_n hx hb dX3_does_72 rfl (lv_at hl 1 rfl) ?_
    refine lv_iload hx hb dX3_does_73 (lv_at hl 2 rfl) ?_
    refine lv_iconst (v := 1) hx hb dX3_does_75 ic_1 ?_
    refine lv_iadd hx hb dX3_does_76 ?_
    refine W.eq (g2 := F0 m 77 ls [.int 1, .int x2, .int (-1), .int 10, .ref (h 36)]) (by rw [show (0 + 1 : Int32) = 1 from by decide]) ?_
    have c_12 : v_9 = 1 := Int32.toInt_inj.mp (by have k9 : (1 : Int32).toInt = 1 := ti_1; omega)
    have q_13 : (f_11 36 3).toInt = 1 := (congrArg Int32.toInt (show f_11 36 3 = 1 from (Eq.trans (by rw [ef_11, sg_up_s, sgu_s]) c_12))).trans (by decide)
    refine sg_calli (va_runV (As := [.int 10, .int (-1), .int x2, .int 1]) (rest := []) ⟨hx, hb, hml, hown, hts⟩ (kX3_runs_10_m1_1_f1_f4 l D ca za h hh f_11 L Q hI x2 (Eq.trans (by rw [ef_11, sg_up_s, sgu_s]) c_12) (by rw [ef_11, sg_up_s, sgu_n (by decide)]; exact m_8) (by have k0 : (10 : Int32).toInt = 10 := ti_10; have k1 : ((-1) : Int32).toInt = (-1) := ti_m1; have k3 : (1 : Int32).toInt = 1 := ti_1; omega) H.size) (sl_c3_runs_4_0_0_100_3 hts ⟨Nat.le_of_ble_eq_true rfl, Nat.le_of_ble_eq_true rfl⟩) (sl_vX_36 hA hK hP hS hZ) rfl rfl hl.1 rfl (lv_room (Nat.le_of_ble_eq_true rfl)) dX3_does_77 ⟨Nat.le_refl _, Nat.le_refl _⟩) hA hS (fun r_18 f_15 L_16 Q_17 H locs hq hP hS => ?_)
    obtain ⟨⟨hI, hk_f_15, eL9, eQ9⟩, hq, p_19, u_20⟩ := hq
    rw [eL9, eQ9] at hP; clear eL9 eQ9
    have hF : sgK WkX3_does_4_1_0_f0_f4 f f_15 := sgK.tr hF hk_f_15 (by decide +kernel)
    obtain ⟨v_21, ev_21⟩ : ∃ z : Int32, z = f_15 36 3 := ⟨_, rfl⟩
    have q_22 : 0 ≤ v_21.toInt ∧ v_21.toInt ≤ 19 := by rw [ev_21]; exact hI 36 3
    have q_23 : (f_15 36 3).toInt = v_21.toInt := (congrArg Int32.toInt (show f_15 36 3 = v_21 from ev_21.symm))
    have k_25 : (10 : Int32).toInt = 10 := by decide
    have k_26 : ((-1) : Int32).toInt = (-1) := by decide
    have k_27 : (1 : Int32).toInt = 1 := by decide
    exact hret _ _ _ _ (r_18) f_15 L Q dX3_does_80 hP hS ⟨⟨hI, hF, rfl, rfl⟩, trivial, ⟨by omega, by omega⟩, (Eq.trans (Eq.symm (hs.trans ((spl_e ev_2 (spl_e ev_5 (spl_e ev_9 (spl_e ef_11 (spl2_e u_20 (spl_e ev_21 rfl))))))))) hsp)⟩
  refine lv_iload_n hx hb dX3_does_0 rfl (lv_at hl 1 rfl) ?_
  refine lv_iload_n hx hb dX3_does_1 rfl (lv_at hl 2 rfl) ?_
  refine sg_calli (va_runS (As := [.int 4, .int 1]) (rest := []) ⟨hx, hb, hml, hown, hts⟩ (kX3_ownerOf_4_1 l D ca za h hh f L Q hI H.size) (va_cwS 2 hts (gw_S (fun _ h => List.mem_cons_of_mem _ h) mw_189 mw_190 mw_47 mw_188) rfl rfl rfl hd_yX3_ownerOf.2 ⟨Nat.le_of_ble_eq_true rfl, Nat.le_of_ble_eq_true rfl⟩) (sg_preS hA hK hP hS hZ) rfl rfl hl.1 rfl (lv_room (Nat.le_of_ble_eq_true rfl)) dX3_does_2 ⟨Nat.le_refl _, Nat.le_refl _⟩) hA hS (fun r_33 f_30 L_31 Q_32 H locs hq hP hS => ?_)
  obtain ⟨⟨ef9, eL9, eQ9⟩, hq, u_34⟩ := hq
  rw [ef9, eL9, eQ9] at hP; clear ef9 eL9 eQ9
  obtain rfl : r_33 = 0 := Int32.toInt_inj.mp (by have k9 : (0 : Int32).toInt = 0 := ti_0; omega)
  refine lv_istore (lv' := [(5, .int 0), (0, .ref (h 36)), (1, .int 4), (2, .int 1), (3, .int x2), (4, .int 0)]) hx hb dX3_does_5 hl (by decide) rfl (fun ls hl => ?_)
  refine lv_iload hx hb dX3_does_7 (lv_at hl 0 rfl) ?_
  refine lv_if_lt (tgt := 19) hx hb dX3_does_9 (by decide) (fun c => absurd c (by decide)) (fun c => ?_)
  refine lv_iload hx hb dX3_does_12 (lv_at hl 5 rfl) ?_
  refine lv_bipush (v := 40) hx hb dX3_does_14 bp_40 ?_
  refine lv_icmp_le (tgt := 21) hx hb dX3_does_16 (by decide) (fun c => ?_) (fun c => absurd c (by decide))
  refine sg_gets hx hb hZ 3 rfl hS hown (hts _ (List.mem_cons_of_mem _ mw_173)) (fun _ h9 => h9) dX3_does_21 ?_
  refine lv_iload hx hb dX3_does_24 (lv_at hl 0 rfl) ?_
  refine lv_iconst (v := 4) hx hb dX3_does_26 ic_4 ?_
  refine lv_imul hx hb dX3_does_27 ?_
  refine W.eq (g2 := F0 m 28 ls [.int 0, .ref (za 3)]) (by rw [show (0 * 4 : Int32) = 0 from by decide]) ?_
  refine lv_iload_n hx hb dX3_does_28 rfl (lv_at hl 3 rfl) ?_
  refine lv_iadd hx hb dX3_does_29 ?_
  refine W.eq (g2 := F0 m 30 ls [.int 1, .ref (za 3)]) (by rw [show (0 + 1 : Int32) = 1 from by decide]) ?_
  refine sg_sald hx hb hZ 3 rfl hS (y := 1) (N := 32) (vp_in_iff.mpr (by decide)) dX3_does_30 ?_
  refine W.eq (g2 := F0 m 31 ls [.int 10]) (by rfl) ?_
  refine lv_istore (lv' := [(6, .int 10), (5, .int 0), (0, .ref (h 36)), (1, .int 4), (2, .int 1), (3, .int x2), (4, .int 0)]) hx hb dX3_does_31 hl (by decide) rfl (fun ls hl => ?_)
  refine lv_aload_n hx hb dX3_does_33 rfl (lv_at hl 2 rfl) ?_
  refine sl_gX_36_3_3 (v := 0) hx hb hts hown hK hP (show f 36 3 = 0 from hf_36_3) dX3_does_34 ?_
  refine lv_bipush (v := 24) hx hb dX3_does_37 bp_24 ?_
  refine lv_icmp_ge (tgt := 53) hx hb dX3_does_39 (by decide) (fun c => absurd c (by decide)) (fun c => ?_)
  refine lv_aload_n hx hb dX3_does_42 rfl (lv_at hl 2 rfl) ?_
  refine sl_gX_36_1_3 hx hb hts hown hK hP dX3_does_43 ?_
  refine lv_aload_n hx hb dX3_does_46 rfl (lv_at hl 2 rfl) ?_
  refine sl_gX_36_3_3 (v := 0) hx hb hts hown hK hP (show f 36 3 = 0 from hf_36_3) dX3_does_47 ?_
  refine lv_iload hx hb dX3_does_50 (lv_at hl 0 rfl) ?_
  refine sg_iast hx hb hh hA hK hP hS 38 (by decide) 0 (fun _ => rfl) rfl (i := 0) (x := 10) (vp_in_iff.mpr (by decide)) dX3_does_52 (fun f_35 H locs ef_35 hP hS => ?_)
  have ef_35 : f_35 = sg_up f 38 (sgu (f 38) 0 10) := ef_35
  have hI : sgI loX hiX f_35 := by rw [ef_35]; exact sgI.put hI 38 0 (show 0 ≤ (10 : Int32).toInt ∧ (10 : Int32).toInt ≤ 81 from by decide)
  have hF : sgK WkX3_does_4_1_0_f0_f4 f f_35 := sgK.put hF ef_35 (by rfl)
  exact blk_53 f_35 _ _ _ (hs.trans ((spl_e u_34 (spl_e ef_35 rfl)))) (by have zz36_3 : (f_35 36 3).toInt = 0 := (congrArg Int32.toInt (show f_35 36 3 = 0 from (by rw [ef_35, sg_up_n (by decide)]; exact hf_36_3))).trans (by decide); exact ⟨by omega, by omega⟩) (by have zz36_4 : (f_35 36 4).toInt = 4 := (congrArg Int32.toInt (show f_35 36 4 = 4 from (by rw [ef_35, sg_up_n (by decide)]; exact hf_36_4))).trans (by decide); exact ⟨by omega, by omega⟩) hI hF hP hS (lv_sub hl [2, 5, 6, 1, 0] rfl)

set_option maxHeartbeats 4000000 in
set_option maxRecDepth 100000 in
theorem kX3_ownerOf_5_1 (l : Launch) (D : va_G) (ca : Nat → ClassId) (za h : Nat → Nat) (hh : sgH 52 h) (f : sg_F) (L : sg_L) (Q : sg_Q) (hI : sgI loX hiX f) (sz : Nat) : Met l yX3_ownerOf gwX3_ownerOf { frames := 0, cells := 0, slots := 0, locals := 0 } (sgP D vwCl (tyX ca) 52 h (eX ca h) zcX za f L Q sz [.int 5, .int 1]) (sgQi D vwCl 52 h (eX ca h) sz (fun r f1 L1 Q1 => ((f1 = f ∧ L1 = L ∧ Q1 = Q) ∧ (3 ≤ r.toInt ∧ r.toInt ≤ 3) ∧ (r) = sX3_ownerOf_5_1 f L))) 0 0 (sgA 52 h sz) := by
  refine sg_ofWi (cc := cX3_ownerOf) (maxL := 4) RX3 (by decide) rfl rfl (Nat.le_of_ble_eq_true rfl) ?_
  intro p e s m below meth cd Qz ls hx hb hml hown hts hK hZ hP hS hl hret
  have hA := sgY.self (n := 52) (h := h) (sz := s.heap.size)
  have hl : lv_has ls 4 [(0, .int 5), (1, .int 1)] := hl
  obtain ⟨H, hH⟩ : ∃ z : Heap, z = s.heap := ⟨_, rfl⟩
  obtain ⟨locs, hlo⟩ : ∃ z : List Loc, z = [] := ⟨_, rfl⟩
  have hP : va_P D vwCl (sgw 52 h (eX ca h) f L Q) H := by rw [hH]; exact hP
  have hS : va_S (sgA 52 h s.heap.size) s.heap H locs := by rw [hH, hlo]; exact hS
  suffices hgo : W p l e ({ frames := 0, cells := 0, slots := 0, locals := 0 }) s m ([.int 5, .int 1] : List Value).toArray below meth cd H locs 0 0 Qz (F0 m 0 ls []) by rw [hH, hlo] at hgo; exact hgo
  clear hH hlo
  obtain ⟨sp, hsp⟩ : ∃ z : Int32, z = sX3_ownerOf_5_1 f L := ⟨_, rfl⟩
  have hs : sp = sX3_ownerOf_5_1 f L := hsp
  refine lv_iload_n hx hb dX3_ownerOf_0 rfl (lv_at hl 0 rfl) ?_
  refine lv_istore_n (lv' := [(2, .int 5), (0, .int 5), (1, .int 1)]) hx hb dX3_ownerOf_1 rfl hl (by decide) rfl (fun ls hl => ?_)
  refine lv_iconst (v := 0) hx hb dX3_ownerOf_2 ic_0 ?_
  refine lv_istore_n (lv' := [(3, .int 0), (2, .int 5), (0, .int 5), (1, .int 1)]) hx hb dX3_ownerOf_3 rfl hl (by decide) rfl (fun ls hl => ?_)
  refine lv_iload_n hx hb dX3_ownerOf_4 rfl (lv_at hl 0 rfl) ?_
  refine lv_bipush (v := 8) hx hb dX3_ownerOf_5 bp_8 ?_
  refine lv_icmp_ge (tgt := 40) hx hb dX3_ownerOf_7 (by decide) (fun c => absurd c (by decide)) (fun c => ?_)
  refine lv_iload_n hx hb dX3_ownerOf_10 rfl (lv_at hl 1 rfl) ?_
  refine lv_if_lt (tgt := 40) hx hb dX3_ownerOf_11 (by decide) (fun c => absurd c (by decide)) (fun c => ?_)
  refine sg_gets hx hb hZ 3 rfl hS hown (hts _ (List.mem_cons_of_mem _ mw_173)) (fun _ h9 => h9) dX3_ownerOf_14 ?_
  refine lv_iload_n hx hb dX3_ownerOf_17 rfl (lv_at hl 1 rfl) ?_
  refine lv_iconst (v := 4) hx hb dX3_ownerOf_18 ic_4 ?_
  refine lv_imul hx hb dX3_ownerOf_19 ?_
  refine W.eq (g2 := F0 m 20 ls [.int 20, .ref (za 3)]) (by rw [show (5 * 4 : Int32) = 20 from by decide]) ?_
  refine lv_iload_n hx hb dX3_ownerOf_20 rfl (lv_at hl 3 rfl) ?_
  refine lv_iadd hx hb dX3_ownerOf_21 ?_
  refine W.eq (g2 := F0 m 22 ls [.int 21, .ref (za 3)]) (by rw [show (20 + 1 : Int32) = 21 from by decide]) ?_
  refine sg_sald hx hb hZ 3 rfl hS (y := 21) (N := 32) (vp_in_iff.mpr (by decide)) dX3_ownerOf_22 ?_
  refine W.eq (g2 := F0 m 23 ls [.int 0]) (by rfl) ?_
  refine lv_if_eq (tgt := 28) hx hb dX3_ownerOf_23 (by decide) (fun c => ?_) (fun c => absurd c (by decide))
  refine sg_gets hx hb hZ 2 rfl hS hown (hts _ (List.mem_cons_of_mem _ mw_174)) (fun _ h9 => h9) dX3_ownerOf_28 ?_
  refine lv_iload_n hx hb dX3_ownerOf_31 rfl (lv_at hl 1 rfl) ?_
  refine sg_sald hx hb hZ 2 rfl hS (y := 5) (N := 8) (vp_in_iff.mpr (by decide)) dX3_ownerOf_32 ?_
  refine W.eq (g2 := F0 m 33 ls [.int 3]) (by rfl) ?_
  refine lv_istore_n (lv' := [(2, .int 3), (3, .int 0), (0, .int 5), (1, .int 1)]) hx hb dX3_ownerOf_33 rfl hl (by decide) rfl (fun ls hl => ?_)
  refine lv_iinc (v := 1) (lv' := [(3, .int 1), (2, .int 3), (0, .int 5), (1, .int 1)]) hx hb dX3_ownerOf_34 hl (k := 1) rfl (by decide) (by decide) rfl (fun ls hl => ?_)
  refine lv_goto (tgt := 4) hx hb dX3_ownerOf_37 (by decide) ?_
  refine lv_iload_n hx hb dX3_ownerOf_4 rfl (lv_at hl 0 rfl) ?_
  refine lv_bipush (v := 8) hx hb dX3_ownerOf_5 bp_8 ?_
  refine lv_icmp_ge (tgt := 40) hx hb dX3_ownerOf_7 (by decide) (fun c => absurd c (by decide)) (fun c => ?_)
  refine lv_iload_n hx hb dX3_ownerOf_10 rfl (lv_at hl 1 rfl) ?_
  refine lv_if_lt (tgt := 40) hx hb dX3_ownerOf_11 (by decide) (fun c => absurd c (by decide)) (fun c => ?_)
  refine sg_gets hx hb hZ 3 rfl hS hown (hts _ (List.mem_cons_of_mem _ mw_173)) (fun _ h9 => h9) dX3_ownerOf_14 ?_
  refine lv_iload_n hx hb dX3_ownerOf_17 rfl (lv_at hl 1 rfl) ?_
  refine lv_iconst (v := 4) hx hb dX3_ownerOf_18 ic_4 ?_
  refine lv_imul hx hb dX3_ownerOf_19 ?_
  refine W.eq (g2 := F0 m 20 ls [.int 12, .ref (za 3)]) (by rw [show (3 * 4 : Int32) = 12 from by decide]) ?_
  refine lv_iload_n hx hb dX3_ownerOf_20 rfl (lv_at hl 3 rfl) ?_
  refine lv_iadd hx hb dX3_ownerOf_21 ?_
  refine W.eq (g2 := F0 m 22 ls [.int 13, .ref (za 3)]) (by rw [show (12 + 1 : Int32) = 13 from by decide]) ?_
  refine sg_sald hx hb hZ 3 rfl hS (y := 13) (N := 32) (vp_in_iff.mpr (by decide)) dX3_ownerOf_22 ?_
  refine W.eq (g2 := F0 m 23 ls [.int 41]) (by rfl) ?_
  refine lv_if_eq (tgt := 28) hx hb dX3_ownerOf_23 (by decide) (fun c => absurd c (by decide)) (fun c => ?_)
  refine lv_iload_n hx hb dX3_ownerOf_26 rfl (lv_at hl 1 rfl) ?_
  have k99 : (3 : Int32).toInt = 3 := ti_3
  exact hret _ _ _ _ (3) f L Q dX3_ownerOf_27 hP hS ⟨⟨rfl, rfl, rfl⟩, (by decide), (Eq.trans (Eq.symm hs) hsp)⟩

set_option maxHeartbeats 4000000 in
set_option maxRecDepth 100000 in
theorem kX3_runs_1_m1_4_f4_f5 (l : Launch) (D : va_G) (ca : Nat → ClassId) (za h : Nat → Nat) (hh : sgH 52 h) (f : sg_F) (L : sg_L) (Q : sg_Q) (hI : sgI loX hiX f) (x2 : Int32) (hf_36_3 : f 36 3 = 4) (hf_36_4 : f 36 4 = 5) (p0 : 4 ≤ (f 36 3).toInt ∧ (f 36 3).toInt ≤ 4) (sz : Nat) : Met l yX3_runs gwX3_runs { frames := 0, cells := 0, slots := 0, locals := 0 } (sgP D vwCl (tyX ca) 52 h (eX ca h) zcX za f L Q sz [.ref (h 36), .int 1, .int (-1), .int x2, .int 4]) (sgQi D vwCl 52 h (eX ca h) sz (fun r f1 L1 Q1 => ((f1 = f ∧ L1 = L ∧ Q1 = Q) ∧ True ∧ (4 ≤ (f1 36 3).toInt ∧ (f1 36 3).toInt ≤ 4) ∧ (r) = sX3_runs_1_m1_4_f4_f5 x2 f L))) 0 0 (sgA 52 h sz) := by
  refine sg_ofWi (cc := cX3_runs) (maxL := 5) RX3 (by decide) rfl rfl (Nat.le_of_ble_eq_true rfl) ?_
  intro p e s m below meth cd Qz ls hx hb hml hown hts hK hZ hP hS hl hret
  have hA := sgY.self (n := 52) (h := h) (sz := s.heap.size)
  have hl : lv_has ls 5 [(0, .ref (h 36)), (1, .int 1), (2, .int (-1)), (3, .int x2), (4, .int 4)] := hl
  obtain ⟨H, hH⟩ : ∃ z : Heap, z = s.heap := ⟨_, rfl⟩
  obtain ⟨locs, hlo⟩ : ∃ z : List Loc, z = [] := ⟨_, rfl⟩
  have hP : va_P D vwCl (sgw 52 h (eX ca h) f L Q) H := by rw [hH]; exact hP
  have hS : va_S (sgA 52 h s.heap.size) s.heap H locs := by rw [hH, hlo]; exact hS
  suffices hgo : W p l e ({ frames := 0, cells := 0, slots := 0, locals := 0 }) s m ([.ref (h 36), .int 1, .int (-1), .int x2, .int 4] : List Value).toArray below meth cd H locs 0 0 Qz (F0 m 0 ls []) by rw [hH, hlo] at hgo; exact hgo
  clear hH hlo
  obtain ⟨sp, hsp⟩ : ∃ z : Int32, z = sX3_runs_1_m1_4_f4_f5 x2 f L := ⟨_, rfl⟩
  have hs : sp = sX3_runs_1_m1_4_f4_f5 x2 f L := hsp
  have o_1 : (f 36 3).toInt = 4 := (congrArg Int32.toInt (show f 36 3 = 4 from hf_36_3)).trans (by decide)
  refine lv_iload_n hx hb dX3_runs_0 rfl (lv_at hl 1 rfl) ?_
  refine lv_lookup (x := 1) (off := 115) (tgt := 116) hx hb dX3_runs_1 (by decide) (by decide) (by decide) ?_
  refine lv_iload_n hx hb dX3_runs_116 rfl (lv_at hl 3 rfl) ?_
  refine lv_aload_n hx hb dX3_runs_117 rfl (lv_at hl 0 rfl) ?_
  refine sl_gX_36_5_3 (v := (f 36 5)) hx hb hts hown hK hP rfl dX3_runs_118 ?_
  refine lv_topi (fun v_2 ev_2 => ?_)
  have q_3 : 0 ≤ v_2.toInt ∧ v_2.toInt ≤ 49 := by rw [ev_2]; exact hI 36 5
  refine lv_iadd hx hb dX3_runs_121 ?_
  refine lv_topi (fun v_4 ev_4 => ?_)
  have q_5 : (f 36 3).toInt = 4 := (congrArg Int32.toInt (show f 36 3 = 4 from hf_36_3)).trans (by decide)
  exact hret _ _ _ _ (v_4) f L Q dX3_runs_122 hP hS ⟨⟨rfl, rfl, rfl⟩, trivial, ⟨by omega, by omega⟩, (Eq.trans (Eq.symm (hs.trans ((spl_e ev_2 (spl_e ev_4 rfl))))) hsp)⟩

abbrev WkX3_does_5_0_3_f3_f5 : List (Nat × Nat × Option Nat) := [(36, 36, some 3), (38, 38, some 3)]
set_option maxHeartbeats 4000000 in
set_option maxRecDepth 100000 in
theorem kX3_does_5_0_3_f3_f5 (l : Launch) (D : va_G) (ca : Nat → ClassId) (za h : Nat → Nat) (hh : sgH 52 h) (f : sg_F) (L : sg_L) (Q : sg_Q) (hI : sgI loX hiX f) (x2 : Int32) (hf_36_3 : f 36 3 = 3) (hf_36_4 : f 36 4 = 5) (p0 : 3 ≤ (f 36 3).toInt ∧ (f 36 3).toInt ≤ 3) (sz : Nat) : Met l yX3_does gwX3_does { frames := 1, cells := 0, slots := 0, locals := 24 } (sgP D vwCl (tyX ca) 52 h (eX ca h) zcX za f L Q sz [.ref (h 36), .int 5, .int 0, .int x2, .int 3]) (sgQi D vwCl 52 h (eX ca h) sz (fun r f1 L1 Q1 => ((sgI loX hiX f1 ∧ sgK WkX3_does_5_0_3_f3_f5 f f1 ∧ L1 = L ∧ Q1 = Q) ∧ True ∧ (4 ≤ (f1 36 3).toInt ∧ (f1 36 3).toInt ≤ 4) ∧ (r, f1) = sX3_does_5_0_3_f3_f5 x2 f L))) 0 0 (sgA 52 h sz) := by
  refine sg_ofWi (cc := cX3_does) (maxL := 7) RX3 (by decide) rfl rfl (Nat.le_of_ble_eq_true rfl) ?_
  intro p e s m below meth cd Qz ls hx hb hml hown hts hK hZ hP hS hl hret
  have hA := sgY.self (n := 52) (h := h) (sz := s.heap.size)
  have hl : lv_has ls 7 [(0, .ref (h 36)), (1, .int 5), (2, .int 0), (3, .int x2), (4, .int 3)] := hl
  obtain ⟨H, hH⟩ : ∃ z : Heap, z = s.heap := ⟨_, rfl⟩
  obtain ⟨locs, hlo⟩ : ∃ z : List Loc, z = [] := ⟨_, rfl⟩
  have hP : va_P D vwCl (sgw 52 h (eX ca h) f L Q) H := by rw [hH]; exact hP
  have hS : va_S (sgA 52 h s.heap.size) s.heap H locs := by rw [hH, hlo]; exact hS
  suffices hgo : W p l e ({ frames := 1, cells := 0, slots := 0, locals := 24 }) s m ([.ref (h 36), .int 5, .int 0, .int x2, .int 3] : List Value).toArray below meth cd H locs 0 0 Qz (F0 m 0 ls []) by rw [hH, hlo] at hgo; exact hgo
  clear hH hlo
  obtain ⟨sp, hsp⟩ : ∃ z : Int32 × sg_F, z = sX3_does_5_0_3_f3_f5 x2 f L := ⟨_, rfl⟩
  have hs : sp = sX3_does_5_0_3_f3_f5 x2 f L := hsp
  have o_1 : (f 36 3).toInt = 3 := (congrArg Int32.toInt (show f 36 3 = 3 from hf_36_3)).trans (by decide)
  have hF : sgK WkX3_does_5_0_3_f3_f5 f f := sgK.rf
  have blk_53 : ∀ (fp_53 : sg_F) (H : Heap) (locs : List Loc) (ls : Array Slot), sp = sX3_does_5_0_3_f3_f5_b53 x2 fp_53 L → 3 ≤ (fp_53 36 3).toInt ∧ (fp_53 36 3).toInt ≤ 3 → 5 ≤ (fp_53 36 4).toInt ∧ (fp_53 36 4).toInt ≤ 5 → sgI loX hiX fp_53 → sgK WkX3_does_5_0_3_f3_f5 f fp_53 → va_P D vwCl (sgw 52 h (eX ca h) fp_53 L Q) H → va_S (sgA 52 h s.heap.size) s.heap H locs → lv_has ls 7 [(0, .ref (h 36)), (3, .int x2), (4, .int 3), (5, .int 0), (6, .int 1)] → W p l e ({ frames := 1, cells := 0, slots := 0, locals := 24 }) s m ([.ref (h 36), .int 5, .int 0, .int x2, .int 3] : List Value).toArray below meth cd H locs 0 0 Qz (F0 m 53 ls []) := by
    intro fp_53 H locs ls hs hy0_53 hy1_53 hI hF hP hS hl
    obtain ⟨v_2, ev_2⟩ : ∃ z : Int32, z = fp_53 36 3 := ⟨_, rfl⟩
    have q_3 : 0 ≤ v_2.toInt ∧ v_2.toInt ≤ 19 := by rw [ev_2]; exact hI 36 3
    have q_4 : (fp_53 36 3).toInt = v_2.toInt := by rw [ev_2]
    obtain ⟨v_5, ev_5⟩ : ∃ z : Int32, z = fp_53 36 4 := ⟨_, rfl⟩
    have q_6 : 0 ≤ v_5.toInt ∧ v_5.toInt ≤ 7 := by rw [ev_5]; exact hI 36 4
    have q_7 : (fp_53 36 4).toInt = v_5.toInt := by rw [ev_5]
    have m_8 : fp_53 36 4 = 5 := (hF 36 4 (by decide)).trans hf_36_4
    refine lv_aload_n hx hb dX3_does_53 rfl (lv_at hl 0 rfl) ?_
    refine lv_dup hx hb dX3_does_54 rfl ?_
    refine sl_gX_36_3_3 (v := v_2) hx hb hts hown hK hP (show fp_53 36 3 = v_2 from ev_2.symm) dX3_does_55 ?_
    refine lv_iconst (v := 1) hx hb dX3_does_58 ic_1 ?_
    refine lv_iadd hx hb dX3_does_59 ?_
    refine lv_topi (fun v_9 ev_9 => ?_)
    have q_10 : v_9.toInt = v_2.toInt + 1 := by rw [ev_9]; first | exact cm_add ti_1 (by omega) (by omega) | (have k1 : (1 : Int32).toInt = 1 := ti_1; exact (bn_addI (by omega) (by omega)).trans (by omega))
    refine sl_pX_36_3_3 (x := v_9) hx hb hts hown hh hA hK hP hS dX3_does_60 (fun f_11 H locs ef_11 hP hS => ?_)
    have hI : sgI loX hiX f_11 := by rw [ef_11]; exact sgI.put hI 36 3 (show 0 ≤ (v_9 : Int32).toInt ∧ (v_9 : Int32).toInt ≤ 19 from ⟨by omega, by omega⟩)
    have hF : sgK WkX3_does_5_0_3_f3_f5 f f_11 := sgK.put hF ef_11 (by rfl)
    refine lv_aload_n hx hb dX3_does_63 rfl (lv_at hl 0 rfl) ?_
    refine lv_iload hx hb dX3_does_64 (lv_at hl 4 rfl) ?_
    refine sg_gets hx hb hZ 2 rfl hS hown (hts _ (List.mem_cons_of_mem _ mw_174)) (fun _ h9 => h9) dX3_does_66 ?_
    refine lv_iload hx hb dX3_does_69 (lv_at hl 3 rfl) ?_
    refine sg_sald hx hb hZ 2 rfl hS (y := 0) (N := 8) (vp_in_iff.mpr (by decide)) dX3_does_71 ?_
    refine W.eq (g2 := F0 m 72 ls [.int (-1), .int 1, .ref (h 36)]) (by rfl) ?_
    refine lv_iload_n hx hb dX3_does_72 rfl (lv_at hl 1 rfl) ?_
    refine lv_iload hx hb dX3_does_73 (lv_at hl 2 rfl) ?_
    refine lv_iconst (v := 1) hx hb dX3_does_75 ic_1 ?_
    refine lv_iadd hx hb dX3_does_76 ?_
    refine W.eq (g2 := F0 m 77 ls [.int 4, .int x2, .int (-1), .int 1, .ref (h 36)]) (by rw [show (3 + 1 : Int32) = 4 from by decide]) ?_
    have c_12 : v_9 = 4 := Int32.toInt_inj.mp (by have k9 : (4 : Int32).toInt = 4 := ti_4; omega)
    have q_13 : (f_11 36 3).toInt = 4 := (congrArg Int32.toInt (show f_11 36 3 = 4 from (Eq.trans (by rw [ef_11, sg_up_s, sgu_s]) c_12))).trans (by decide)
    refine sg_calli (va_runV (As := [.int 1, .int (-1), .int x2, .int 4]) (rest := []) ⟨hx, hb, hml, hown, hts⟩ (kX3_runs_1_m1_4_f4_f5 l D ca za h hh f_11 L Q hI x2 (Eq.trans (by rw [ef_11, sg_up_s, sgu_s]) c_12) (by rw [ef_11, sg_up_s, sgu_n (by decide)]; exact m_8) (by have k0 : (1 : Int32).toInt = 1 := ti_1; have k1 : ((-1) : Int32).toInt = (-1) := ti_m1; have k3 : (4 : Int32).toInt = 4 := ti_4; omega) H.size) (sl_c3_runs_0_0_0_0_3 hts ⟨Nat.le_of_ble_eq_true rfl, Nat.le_of_ble_eq_true rfl⟩) (sl_vX_36 hA hK hP hS hZ) rfl rfl hl.1 rfl (lv_room (Nat.le_of_ble_eq_true rfl)) dX3_does_77 ⟨Nat.le_refl _, Nat.le_refl _⟩) hA hS (fun r_18 f_15 L_16 Q_17 H locs hq hP hS => ?_)
    obtain ⟨⟨ef9, eL9, eQ9⟩, hq, p_19, u_20⟩ := hq
    rw [ef9, eL9, eQ9] at hP; clear ef9 eL9 eQ9
    have k_23 : (1 : Int32).toInt = 1 := by decide
    have k_24 : ((-1) : Int32).toInt = (-1) := by decide
    have k_25 : (4 : Int32).toInt = 4 := by decide
    exact hret _ _ _ _ (r_18) f_11 L Q dX3_does_80 hP hS ⟨⟨hI, hF, rfl, rfl⟩, trivial, ⟨by omega, by omega⟩, (Eq.trans (Eq.symm (hs.trans ((spl_e ev_2 (spl_e ev_5 (spl_e ev_9 (spl_e ef_11 (spl_e u_20 rfl)))))))) hsp)⟩
  refine lv_iload_n hx hb dX3_does_0 rfl (lv_at hl 1 rfl) ?_
  refine lv_iload_n hx hb dX3_does_1 rfl (lv_at hl 2 rfl) ?_
  refine sg_calli (va_runS (As := [.int 5, .int 0]) (rest := []) ⟨hx, hb, hml, hown, hts⟩ (kX3_ownerOf_5_0 l D ca za h hh f L Q hI H.size) (va_cwS 2 hts (gw_S (fun _ h => List.mem_cons_of_mem _ h) mw_189 mw_190 mw_47 mw_188) rfl rfl rfl hd_yX3_ownerOf.2 ⟨Nat.le_of_ble_eq_true rfl, Nat.le_of_ble_eq_true rfl⟩) (sg_preS hA hK hP hS hZ) rfl rfl hl.1 rfl (lv_room (Nat.le_of_ble_eq_true rfl)) dX3_does_2 ⟨Nat.le_refl _, Nat.le_refl _⟩) hA hS (fun r_31 f_28 L_29 Q_30 H locs hq hP hS => ?_)
  obtain ⟨⟨ef9, eL9, eQ9⟩, hq, u_32⟩ := hq
  rw [ef9, eL9, eQ9] at hP; clear ef9 eL9 eQ9
  obtain rfl : r_31 = 0 := Int32.toInt_inj.mp (by have k9 : (0 : Int32).toInt = 0 := ti_0; omega)
  refine lv_istore (lv' := [(5, .int 0), (0, .ref (h 36)), (1, .int 5), (2, .int 0), (3, .int x2), (4, .int 3)]) hx hb dX3_does_5 hl (by decide) rfl (fun ls hl => ?_)
  refine lv_iload hx hb dX3_does_7 (lv_at hl 0 rfl) ?_
  refine lv_if_lt (tgt := 19) hx hb dX3_does_9 (by decide) (fun c => absurd c (by decide)) (fun c => ?_)
  refine lv_iload hx hb dX3_does_12 (lv_at hl 5 rfl) ?_
  refine lv_bipush (v := 40) hx hb dX3_does_14 bp_40 ?_
  refine lv_icmp_le (tgt := 21) hx hb dX3_does_16 (by decide) (fun c => ?_) (fun c => absurd c (by decide))
  refine sg_gets hx hb hZ 3 rfl hS hown (hts _ (List.mem_cons_of_mem _ mw_173)) (fun _ h9 => h9) dX3_does_21 ?_
  refine lv_iload hx hb dX3_does_24 (lv_at hl 0 rfl) ?_
  refine lv_iconst (v := 4) hx hb dX3_does_26 ic_4 ?_
  refine lv_imul hx hb dX3_does_27 ?_
  refine W.eq (g2 := F0 m 28 ls [.int 0, .ref (za 3)]) (by rw [show (0 * 4 : Int32) = 0 from by decide]) ?_
  refine lv_iload_n hx hb dX3_does_28 rfl (lv_at hl 3 rfl) ?_
  refine lv_iadd hx hb dX3_does_29 ?_
  refine W.eq (g2 := F0 m 30 ls [.int 0, .ref (za 3)]) (by rw [show (0 + 0 : Int32) = 0 from by decide]) ?_
  refine sg_sald hx hb hZ 3 rfl hS (y := 0) (N := 32) (vp_in_iff.mpr (by decide)) dX3_does_30 ?_
  refine W.eq (g2 := F0 m 31 ls [.int 1]) (by rfl) ?_
  refine lv_istore (lv' := [(6, .int 1), (5, .int 0), (0, .ref (h 36)), (1, .int 5), (2, .int 0), (3, .int x2), (4, .int 3)]) hx hb dX3_does_31 hl (by decide) rfl (fun ls hl => ?_)
  refine lv_aload_n hx hb dX3_does_33 rfl (lv_at hl 2 rfl) ?_
  refine sl_gX_36_3_3 (v := 3) hx hb hts hown hK hP (show f 36 3 = 3 from hf_36_3) dX3_does_34 ?_
  refine lv_bipush (v := 24) hx hb dX3_does_37 bp_24 ?_
  refine lv_icmp_ge (tgt := 53) hx hb dX3_does_39 (by decide) (fun c => absurd c (by decide)) (fun c => ?_)
  refine lv_aload_n hx hb dX3_does_42 rfl (lv_at hl 2 rfl) ?_
  refine sl_gX_36_1_3 hx hb hts hown hK hP dX3_does_43 ?_
  refine lv_aload_n hx hb dX3_does_46 rfl (lv_at hl 2 rfl) ?_
  refine sl_gX_36_3_3 (v := 3) hx hb hts hown hK hP (show f 36 3 = 3 from hf_36_3) dX3_does_47 ?_
  refine lv_iload hx hb dX3_does_50 (lv_at hl 0 rfl) ?_
  refine sg_iast hx hb hh hA hK hP hS 38 (by decide) 0 (fun _ => rfl) rfl (i := 3) (x := 1) (vp_in_iff.mpr (by decide)) dX3_does_52 (fun f_33 H locs ef_33 hP hS => ?_)
  have ef_33 : f_33 = sg_up f 38 (sgu (f 38) 3 1) := ef_33
  have hI : sgI loX hiX f_33 := by rw [ef_33]; exact sgI.put hI 38 3 (show 0 ≤ (1 : Int32).toInt ∧ (1 : Int32).toInt ≤ 81 from by decide)
  have hF : sgK WkX3_does_5_0_3_f3_f5 f f_33 := sgK.put hF ef_33 (by rfl)
  exact blk_53 f_33 _ _ _ (hs.trans ((spl_e u_32 (spl_e ef_33 rfl)))) (by have zz36_3 : (f_33 36 3).toInt = 3 := (congrArg Int32.toInt (show f_33 36 3 = 3 from (by rw [ef_33, sg_up_n (by decide)]; exact hf_36_3))).trans (by decide); exact ⟨by omega, by omega⟩) (by have zz36_4 : (f_33 36 4).toInt = 5 := (congrArg Int32.toInt (show f_33 36 4 = 5 from (by rw [ef_33, sg_up_n (by decide)]; exact hf_36_4))).trans (by decide); exact ⟨by omega, by omega⟩) hI hF hP hS (lv_sub hl [2, 5, 6, 1, 0] rfl)

abbrev WkX3_runs_10_m1_3_f3_f5 : List (Nat × Nat × Option Nat) := [(36, 36, some 3), (38, 38, some 3)]
set_option maxHeartbeats 4000000 in
set_option maxRecDepth 100000 in
theorem kX3_runs_10_m1_3_f3_f5 (l : Launch) (D : va_G) (ca : Nat → ClassId) (za h : Nat → Nat) (hh : sgH 52 h) (f : sg_F) (L : sg_L) (Q : sg_Q) (hI : sgI loX hiX f) (x2 : Int32) (hf_36_3 : f 36 3 = 3) (hf_36_4 : f 36 4 = 5) (p0 : 3 ≤ (f 36 3).toInt ∧ (f 36 3).toInt ≤ 3) (sz : Nat) : Met l yX3_runs gwX3_runs { frames := 2, cells := 0, slots := 0, locals := 50 } (sgP D vwCl (tyX ca) 52 h (eX ca h) zcX za f L Q sz [.ref (h 36), .int 10, .int (-1), .int x2, .int 3]) (sgQi D vwCl 52 h (eX ca h) sz (fun r f1 L1 Q1 => ((sgI loX hiX f1 ∧ sgK WkX3_runs_10_m1_3_f3_f5 f f1 ∧ L1 = L ∧ Q1 = Q) ∧ True ∧ (4 ≤ (f1 36 3).toInt ∧ (f1 36 3).toInt ≤ 4) ∧ (r, f1) = sX3_runs_10_m1_3_f3_f5 x2 f L))) 0 0 (sgA 52 h sz) := by
  refine sg_ofWi (cc := cX3_runs) (maxL := 5) RX3 (by decide) rfl rfl (Nat.le_of_ble_eq_true rfl) ?_
  intro p e s m below meth cd Qz ls hx hb hml hown hts hK hZ hP hS hl hret
  have hA := sgY.self (n := 52) (h := h) (sz := s.heap.size)
  have hl : lv_has ls 5 [(0, .ref (h 36)), (1, .int 10), (2, .int (-1)), (3, .int x2), (4, .int 3)] := hl
  obtain ⟨H, hH⟩ : ∃ z : Heap, z = s.heap := ⟨_, rfl⟩
  obtain ⟨locs, hlo⟩ : ∃ z : List Loc, z = [] := ⟨_, rfl⟩
  have hP : va_P D vwCl (sgw 52 h (eX ca h) f L Q) H := by rw [hH]; exact hP
  have hS : va_S (sgA 52 h s.heap.size) s.heap H locs := by rw [hH, hlo]; exact hS
  suffices hgo : W p l e ({ frames := 2, cells := 0, slots := 0, locals := 50 }) s m ([.ref (h 36), .int 10, .int (-1), .int x2, .int 3] : List Value).toArray below meth cd H locs 0 0 Qz (F0 m 0 ls []) by rw [hH, hlo] at hgo; exact hgo
  clear hH hlo
  obtain ⟨sp, hsp⟩ : ∃ z : Int32 × sg_F, z = sX3_runs_10_m1_3_f3_f5 x2 f L := ⟨_, rfl⟩
  have hs : sp = sX3_runs_10_m1_3_f3_f5 x2 f L := hsp
  have o_1 : (f 36 3).toInt = 3 := (congrArg Int32.toInt (show f 36 3 = 3 from hf_36_3)).trans (by decide)
  have hF : sgK WkX3_runs_10_m1_3_f3_f5 f f := sgK.rf
  refine lv_iload_n hx hb dX3_runs_0 rfl (lv_at hl 1 rfl) ?_
  refine lv_lookup (x := 10) (off := 148) (tgt := 149) hx hb dX3_runs_1 (by decide) (by decide) (by decide) ?_
  refine lv_aload_n hx hb dX3_runs_149 rfl (lv_at hl 0 rfl) ?_
  refine lv_aload_n hx hb dX3_runs_150 rfl (lv_at hl 0 rfl) ?_
  refine sl_gX_36_4_3 (v := 5) hx hb hts hown hK hP (show f 36 4 = 5 from hf_36_4) dX3_runs_151 ?_
  refine lv_iconst (v := 0) hx hb dX3_runs_154 ic_0 ?_
  refine lv_iload_n hx hb dX3_runs_155 rfl (lv_at hl 3 rfl) ?_
  refine lv_iload hx hb dX3_runs_156 (lv_at hl 4 rfl) ?_
  have q_2 : (f 36 3).toInt = 3 := (congrArg Int32.toInt (show f 36 3 = 3 from hf_36_3)).trans (by decide)
  refine sg_calli (va_runV (As := [.int 5, .int 0, .int x2, .int 3]) (rest := []) ⟨hx, hb, hml, hown, hts⟩ (kX3_does_5_0_3_f3_f5 l D ca za h hh f L Q hI x2 hf_36_3 hf_36_4 (by have k0 : (5 : Int32).toInt = 5 := ti_5; have k1 : (0 : Int32).toInt = 0 := ti_0; have k3 : (3 : Int32).toInt = 3 := ti_3; omega) H.size) (sl_c3_does_1_0_0_24_3 hts ⟨Nat.le_of_ble_eq_true rfl, Nat.le_of_ble_eq_true rfl⟩) (sl_vX_36 hA hK hP hS hZ) rfl rfl hl.1 rfl (lv_room (Nat.le_of_ble_eq_true rfl)) dX3_runs_158 ⟨Nat.le_refl _, Nat.le_refl _⟩) hA hS (fun r_7 f_4 L_5 Q_6 H locs hq hP hS => ?_)
  obtain ⟨⟨hI, hk_f_4, eL9, eQ9⟩, hq, p_8, u_9⟩ := hq
  rw [eL9, eQ9] at hP; clear eL9 eQ9
  have hF : sgK WkX3_runs_10_m1_3_f3_f5 f f_4 := sgK.tr hF hk_f_4 (by decide +kernel)
  obtain ⟨v_10, ev_10⟩ : ∃ z : Int32, z = f_4 36 3 := ⟨_, rfl⟩
  have q_11 : 0 ≤ v_10.toInt ∧ v_10.toInt ≤ 19 := by rw [ev_10]; exact hI 36 3
  have q_12 : (f_4 36 3).toInt = v_10.toInt := (congrArg Int32.toInt (show f_4 36 3 = v_10 from ev_10.symm))
  have k_14 : (5 : Int32).toInt = 5 := by decide
  have k_15 : (0 : Int32).toInt = 0 := by decide
  have k_16 : (3 : Int32).toInt = 3 := by decide
  refine lv_iconst (v := 2) hx hb dX3_runs_161 ic_2 ?_
  refine lv_imul hx hb dX3_runs_162 ?_
  refine lv_topi (fun v_17 ev_17 => ?_)
  exact hret _ _ _ _ (v_17) f_4 L Q dX3_runs_163 hP hS ⟨⟨hI, hF, rfl, rfl⟩, trivial, ⟨by omega, by omega⟩, (Eq.trans (Eq.symm (hs.trans ((spl2_e u_9 (spl_e ev_10 (spl_e ev_17 rfl)))))) hsp)⟩

abbrev WkX3_does_0_1_2_f2_f5 : List (Nat × Nat × Option Nat) := [(36, 36, some 3), (38, 38, some 2), (38, 38, some 3)]
set_option maxHeartbeats 4000000 in
set_option maxRecDepth 100000 in
theorem kX3_does_0_1_2_f2_f5 (l : Launch) (D : va_G) (ca : Nat → ClassId) (za h : Nat → Nat) (hh : sgH 52 h) (f : sg_F) (L : sg_L) (Q : sg_Q) (hI : sgI loX hiX f) (x2 : Int32) (hf_36_3 : f 36 3 = 2) (hf_36_4 : f 36 4 = 5) (p0 : 2 ≤ (f 36 3).toInt ∧ (f 36 3).toInt ≤ 2) (sz : Nat) : Met l yX3_does gwX3_does { frames := 3, cells := 0, slots := 0, locals := 74 } (sgP D vwCl (tyX ca) 52 h (eX ca h) zcX za f L Q sz [.ref (h 36), .int 0, .int 1, .int x2, .int 2]) (sgQi D vwCl 52 h (eX ca h) sz (fun r f1 L1 Q1 => ((sgI loX hiX f1 ∧ sgK WkX3_does_0_1_2_f2_f5 f f1 ∧ L1 = L ∧ Q1 = Q) ∧ True ∧ (4 ≤ (f1 36 3).toInt ∧ (f1 36 3).toInt ≤ 4) ∧ (r, f1) = sX3_does_0_1_2_f2_f5 x2 f L))) 0 0 (sgA 52 h sz) := by
  refine sg_ofWi (cc := cX3_does) (maxL := 7) RX3 (by decide) rfl rfl (Nat.le_of_ble_eq_true rfl) ?_
  intro p e s m below meth cd Qz ls hx hb hml hown hts hK hZ hP hS hl hret
  have hA := sgY.self (n := 52) (h := h) (sz := s.heap.size)
  have hl : lv_has ls 7 [(0, .ref (h 36)), (1, .int 0), (2, .int 1), (3, .int x2), (4, .int 2)] := hl
  obtain ⟨H, hH⟩ : ∃ z : Heap, z = s.heap := ⟨_, rfl⟩
  obtain ⟨locs, hlo⟩ : ∃ z : List Loc, z = [] := ⟨_, rfl⟩
  have hP : va_P D vwCl (sgw 52 h (eX ca h) f L Q) H := by rw [hH]; exact hP
  have hS : va_S (sgA 52 h s.heap.size) s.heap H locs := by rw [hH, hlo]; exact hS
  suffices hgo : W p l e ({ frames := 3, cells := 0, slots := 0, locals := 74 }) s m ([.ref (h 36), .int 0, .int 1, .int x2, .int 2] : List Value).toArray below meth cd H locs 0 0 Qz (F0 m 0 ls []) by rw [hH, hlo] at hgo; exact hgo
  clear hH hlo
  obtain ⟨sp, hsp⟩ : ∃ z : Int32 × sg_F, z = sX3_does_0_1_2_f2_f5 x2 f L := ⟨_, rfl⟩
  have hs : sp = sX3_does_0_1_2_f2_f5 x2 f L := hsp
  have o_1 : (f 36 3).toInt = 2 := (congrArg Int32.toInt (show f 36 3 = 2 from hf_36_3)).trans (by decide)
  have hF : sgK WkX3_does_0_1_2_f2_f5 f f := sgK.rf
  have blk_53 : ∀ (fp_53 : sg_F) (H : Heap) (locs : List Loc) (ls : Array Slot), sp = sX3_does_0_1_2_f2_f5_b53 x2 fp_53 L → 2 ≤ (fp_53 36 3).toInt ∧ (fp_53 36 3).toInt ≤ 2 → 5 ≤ (fp_53 36 4).toInt ∧ (fp_53 36 4).toInt ≤ 5 → sgI loX hiX fp_53 → sgK WkX3_does_0_1_2_f2_f5 f fp_53 → va_P D vwCl (sgw 52 h (eX ca h) fp_53 L Q) H → va_S (sgA 52 h s.heap.size) s.heap H locs → lv_has ls 7 [(0, .ref (h 36)), (3, .int x2), (4, .int 2), (5, .int 0), (6, .int 10)] → W p l e ({ frames := 3, cells := 0, slots := 0, locals := 74 }) s m ([.ref (h 36), .int 0, .int 1, .int x2, .int 2] : List Value).toArray below meth cd H locs 0 0 Qz (F0 m 53 ls []) := by
    intro fp_53 H locs ls hs hy0_53 hy1_53 hI hF hP hS hl
    obtain ⟨v_2, ev_2⟩ : ∃ z : Int32, z = fp_53 36 3 := ⟨_, rfl⟩
    have q_3 : 0 ≤ v_2.toInt ∧ v_2.toInt ≤ 19 := by rw [ev_2]; exact hI 36 3
    have q_4 : (fp_53 36 3).toInt = v_2.toInt := by rw [ev_2]
    obtain ⟨v_5, ev_5⟩ : ∃ z : Int32, z = fp_53 36 4 := ⟨_, rfl⟩
    have q_6 : 0 ≤ v_5.toInt ∧ v_5.toInt ≤ 7 := by rw [ev_5]; exact hI 36 4
    have q_7 : (fp_53 36 4).toInt = v_5.toInt := by rw [ev_5]
    have m_8 : fp_53 36 4 = 5 := (hF 36 4 (by decide)).trans hf_36_4
    refine lv_aload_n hx hb dX3_does_53 rfl (lv_at hl 0 rfl) ?_
    refine lv_dup hx hb dX3_does_54 rfl ?_
    refine sl_gX_36_3_3 (v := v_2) hx hb hts hown hK hP (show fp_53 36 3 = v_2 from ev_2.symm) dX3_does_55 ?_
    refine lv_iconst (v := 1) hx hb dX3_does_58 ic_1 ?_
    refine lv_iadd hx hb dX3_does_59 ?_
    refine lv_topi (fun v_9 ev_9 => ?_)
    have q_10 : v_9.toInt = v_2.toInt + 1 := by rw [ev_9]; first | exact cm_add ti_1 (by omega) (by omega) | (have k1 : (1 : Int32).toInt = 1 := ti_1; exact (bn_addI (by omega) (by omega)).trans (by omega))
    refine sl_pX_36_3_3 (x := v_9) hx hb hts hown hh hA hK hP hS dX3_does_60 (fun f_11 H locs ef_11 hP hS => ?_)
    have hI : sgI loX hiX f_11 := by rw [ef_11]; exact sgI.put hI 36 3 (show 0 ≤ (v_9 : Int32).toInt ∧ (v_9 : Int32).toInt ≤ 19 from ⟨by omega, by omega⟩)
    have hF : sgK WkX3_does_0_1_2_f2_f5 f f_11 := sgK.put hF ef_11 (by rfl)
    refine lv_aload_n hx hb dX3_does_63 rfl (lv_at hl 0 rfl) ?_
    refine lv_iload hx hb dX3_does_64 (lv_at hl 4 rfl) ?_
    refine sg_gets hx hb hZ 2 rfl hS hown (hts _ (List.mem_cons_of_mem _ mw_174)) (fun _ h9 => h9) dX3_does_66 ?_
    refine lv_iload hx hb dX3_does_69 (lv_at hl 3 rfl) ?_
    refine sg_sald hx hb hZ 2 rfl hS (y := 0) (N := 8) (vp_in_iff.mpr (by decide)) dX3_does_71 ?_
    refine W.eq (g2 := F0 m 72 ls [.int (-1), .int 10, .ref (h 36)]) (by rfl) ?_
    refine lv_iload_n hx hb dX3_does_72 rfl (lv_at hl 1 rfl) ?_
    refine lv_iload hx hb dX3_does_73 (lv_at hl 2 rfl) ?_
    refine lv_iconst (v := 1) hx hb dX3_does_75 ic_1 ?_
    refine lv_iadd hx hb dX3_does_76 ?_
    refine W.eq (g2 := F0 m 77 ls [.int 3, .int x2, .int (-1), .int 10, .ref (h 36)]) (by rw [show (2 + 1 : Int32) = 3 from by decide]) ?_
    have c_12 : v_9 = 3 := Int32.toInt_inj.mp (by have k9 : (3 : Int32).toInt = 3 := ti_3; omega)
    have q_13 : (f_11 36 3).toInt = 3 := (congrArg Int32.toInt (show f_11 36 3 = 3 from (Eq.trans (by rw [ef_11, sg_up_s, sgu_s]) c_12))).trans (by decide)
    refine sg_calli (va_runV (As := [.int 10, .int (-1), .int x2, .int 3]) (rest := []) ⟨hx, hb, hml, hown, hts⟩ (kX3_runs_10_m1_3_f3_f5 l D ca za h hh f_11 L Q hI x2 (Eq.trans (by rw [ef_11, sg_up_s, sgu_s]) c_12) (by rw [ef_11, sg_up_s, sgu_n (by decide)]; exact m_8) (by have k0 : (10 : Int32).toInt = 10 := ti_10; have k1 : ((-1) : Int32).toInt = (-1) := ti_m1; have k3 : (3 : Int32).toInt = 3 := ti_3; omega) H.size) (sl_c3_runs_2_0_0_50_3 hts ⟨Nat.le_of_ble_eq_true rfl, Nat.le_of_ble_eq_true rfl⟩) (sl_vX_36 hA hK hP hS hZ) rfl rfl hl.1 rfl (lv_room (Nat.le_of_ble_eq_true rfl)) dX3_does_77 ⟨Nat.le_refl _, Nat.le_refl _⟩) hA hS (fun r_18 f_15 L_16 Q_17 H locs hq hP hS => ?_)
    obtain ⟨⟨hI, hk_f_15, eL9, eQ9⟩, hq, p_19, u_20⟩ := hq
    rw [eL9, eQ9] at hP; clear eL9 eQ9
    have hF : sgK WkX3_does_0_1_2_f2_f5 f f_15 := sgK.tr hF hk_f_15 (by decide +kernel)
    obtain ⟨v_21, ev_21⟩ : ∃ z : Int32, z = f_15 36 3 := ⟨_, rfl⟩
    have q_22 : 0 ≤ v_21.toInt ∧ v_21.toInt ≤ 19 := by rw [ev_21]; exact hI 36 3
    have q_23 : (f_15 36 3).toInt = v_21.toInt := (congrArg Int32.toInt (show f_15 36 3 = v_21 from ev_21.symm))
    have k_25 : (10 : Int32).toInt = 10 := by decide
    have k_26 : ((-1) : Int32).toInt = (-1) := by decide
    have k_27 : (3 : Int32).toInt = 3 := by decide
    exact hret _ _ _ _ (r_18) f_15 L Q dX3_does_80 hP hS ⟨⟨hI, hF, rfl, rfl⟩, trivial, ⟨by omega, by omega⟩, (Eq.trans (Eq.symm (hs.trans ((spl_e ev_2 (spl_e ev_5 (spl_e ev_9 (spl_e ef_11 (spl2_e u_20 (spl_e ev_21 rfl))))))))) hsp)⟩
  refine lv_iload_n hx hb dX3_does_0 rfl (lv_at hl 1 rfl) ?_
  refine lv_iload_n hx hb dX3_does_1 rfl (lv_at hl 2 rfl) ?_
  refine sg_calli (va_runS (As := [.int 0, .int 1]) (rest := []) ⟨hx, hb, hml, hown, hts⟩ (kX3_ownerOf_0_1 l D ca za h hh f L Q hI H.size) (va_cwS 2 hts (gw_S (fun _ h => List.mem_cons_of_mem _ h) mw_189 mw_190 mw_47 mw_188) rfl rfl rfl hd_yX3_ownerOf.2 ⟨Nat.le_of_ble_eq_true rfl, Nat.le_of_ble_eq_true rfl⟩) (sg_preS hA hK hP hS hZ) rfl rfl hl.1 rfl (lv_room (Nat.le_of_ble_eq_true rfl)) dX3_does_2 ⟨Nat.le_refl _, Nat.le_refl _⟩) hA hS (fun r_33 f_30 L_31 Q_32 H locs hq hP hS => ?_)
  obtain ⟨⟨ef9, eL9, eQ9⟩, hq, u_34⟩ := hq
  rw [ef9, eL9, eQ9] at hP; clear ef9 eL9 eQ9
  obtain rfl : r_33 = 0 := Int32.toInt_inj.mp (by have k9 : (0 : Int32).toInt = 0 := ti_0; omega)
  refine lv_istore (lv' := [(5, .int 0), (0, .ref (h 36)), (1, .int 0), (2, .int 1), (3, .int x2), (4, .int 2)]) hx hb dX3_does_5 hl (by decide) rfl (fun ls hl => ?_)
  refine lv_iload hx hb dX3_does_7 (lv_at hl 0 rfl) ?_
  refine lv_if_lt (tgt := 19) hx hb dX3_does_9 (by decide) (fun c => absurd c (by decide)) (fun c => ?_)
  refine lv_iload hx hb dX3_does_12 (lv_at hl 5 rfl) ?_
  refine lv_bipush (v := 40) hx hb dX3_does_14 bp_40 ?_
  refine lv_icmp_le (tgt := 21) hx hb dX3_does_16 (by decide) (fun c => ?_) (fun c => absurd c (by decide))
  refine sg_gets hx hb hZ 3 rfl hS hown (hts _ (List.mem_cons_of_mem _ mw_173)) (fun _ h9 => h9) dX3_does_21 ?_
  refine lv_iload hx hb dX3_does_24 (lv_at hl 0 rfl) ?_
  refine lv_iconst (v := 4) hx hb dX3_does_26 ic_4 ?_
  refine lv_imul hx hb dX3_does_27 ?_
  refine W.eq (g2 := F0 m 28 ls [.int 0, .ref (za 3)]) (by rw [show (0 * 4 : Int32) = 0 from by decide]) ?_
  refine lv_iload_n hx hb dX3_does_28 rfl (lv_at hl 3 rfl) ?_
  refine lv_iadd hx hb dX3_does_29 ?_
  refine W.eq (g2 := F0 m 30 ls [.int 1, .ref (za 3)]) (by rw [show (0 + 1 : Int32) = 1 from by decide]) ?_
  refine sg_sald hx hb hZ 3 rfl hS (y := 1) (N := 32) (vp_in_iff.mpr (by decide)) dX3_does_30 ?_
  refine W.eq (g2 := F0 m 31 ls [.int 10]) (by rfl) ?_
  refine lv_istore (lv' := [(6, .int 10), (5, .int 0), (0, .ref (h 36)), (1, .int 0), (2, .int 1), (3, .int x2), (4, .int 2)]) hx hb dX3_does_31 hl (by decide) rfl (fun ls hl => ?_)
  refine lv_aload_n hx hb dX3_does_33 rfl (lv_at hl 2 rfl) ?_
  refine sl_gX_36_3_3 (v := 2) hx hb hts hown hK hP (show f 36 3 = 2 from hf_36_3) dX3_does_34 ?_
  refine lv_bipush (v := 24) hx hb dX3_does_37 bp_24 ?_
  refine lv_icmp_ge (tgt := 53) hx hb dX3_does_39 (by decide) (fun c => absurd c (by decide)) (fun c => ?_)
  refine lv_aload_n hx hb dX3_does_42 rfl (lv_at hl 2 rfl) ?_
  refine sl_gX_36_1_3 hx hb hts hown hK hP dX3_does_43 ?_
  refine lv_aload_n hx hb dX3_does_46 rfl (lv_at hl 2 rfl) ?_
  refine sl_gX_36_3_3 (v := 2) hx hb hts hown hK hP (show f 36 3 = 2 from hf_36_3) dX3_does_47 ?_
  refine lv_iload hx hb dX3_does_50 (lv_at hl 0 rfl) ?_
  refine sg_iast hx hb hh hA hK hP hS 38 (by decide) 0 (fun _ => rfl) rfl (i := 2) (x := 10) (vp_in_iff.mpr (by decide)) dX3_does_52 (fun f_35 H locs ef_35 hP hS => ?_)
  have ef_35 : f_35 = sg_up f 38 (sgu (f 38) 2 10) := ef_35
  have hI : sgI loX hiX f_35 := by rw [ef_35]; exact sgI.put hI 38 2 (show 0 ≤ (10 : Int32).toInt ∧ (10 : Int32).toInt ≤ 81 from by decide)
  have hF : sgK WkX3_does_0_1_2_f2_f5 f f_35 := sgK.put hF ef_35 (by rfl)
  exact blk_53 f_35 _ _ _ (hs.trans ((spl_e u_34 (spl_e ef_35 rfl)))) (by have zz36_3 : (f_35 36 3).toInt = 2 := (congrArg Int32.toInt (show f_35 36 3 = 2 from (by rw [ef_35, sg_up_n (by decide)]; exact hf_36_3))).trans (by decide); exact ⟨by omega, by omega⟩) (by have zz36_4 : (f_35 36 4).toInt = 5 := (congrArg Int32.toInt (show f_35 36 4 = 5 from (by rw [ef_35, sg_up_n (by decide)]; exact hf_36_4))).trans (by decide); exact ⟨by omega, by omega⟩) hI hF hP hS (lv_sub hl [2, 5, 6, 1, 0] rfl)

abbrev WkX3_runs_30_0_2_f2_f5 : List (Nat × Nat × Option Nat) := [(36, 36, some 3), (38, 38, some 2), (38, 38, some 3)]
set_option maxHeartbeats 4000000 in
set_option maxRecDepth 100000 in
theorem kX3_runs_30_0_2_f2_f5 (l : Launch) (D : va_G) (ca : Nat → ClassId) (za h : Nat → Nat) (hh : sgH 52 h) (f : sg_F) (L : sg_L) (Q : sg_Q) (hI : sgI loX hiX f) (x2 : Int32) (hf_36_3 : f 36 3 = 2) (hf_36_4 : f 36 4 = 5) (p0 : 2 ≤ (f 36 3).toInt ∧ (f 36 3).toInt ≤ 2) (sz : Nat) : Met l yX3_runs gwX3_runs { frames := 4, cells := 0, slots := 0, locals := 100 } (sgP D vwCl (tyX ca) 52 h (eX ca h) zcX za f L Q sz [.ref (h 36), .int 30, .int 0, .int x2, .int 2]) (sgQi D vwCl 52 h (eX ca h) sz (fun r f1 L1 Q1 => ((sgI loX hiX f1 ∧ sgK WkX3_runs_30_0_2_f2_f5 f f1 ∧ L1 = L ∧ Q1 = Q) ∧ True ∧ (4 ≤ (f1 36 3).toInt ∧ (f1 36 3).toInt ≤ 4) ∧ (r, f1) = sX3_runs_30_0_2_f2_f5 x2 f L))) 0 0 (sgA 52 h sz) := by
  refine sg_ofWi (cc := cX3_runs) (maxL := 5) RX3 (by decide) rfl rfl (Nat.le_of_ble_eq_true rfl) ?_
  intro p e s m below meth cd Qz ls hx hb hml hown hts hK hZ hP hS hl hret
  have hA := sgY.self (n := 52) (h := h) (sz := s.heap.size)
  have hl : lv_has ls 5 [(0, .ref (h 36)), (1, .int 30), (2, .int 0), (3, .int x2), (4, .int 2)] := hl
  obtain ⟨H, hH⟩ : ∃ z : Heap, z = s.heap := ⟨_, rfl⟩
  obtain ⟨locs, hlo⟩ : ∃ z : List Loc, z = [] := ⟨_, rfl⟩
  have hP : va_P D vwCl (sgw 52 h (eX ca h) f L Q) H := by rw [hH]; exact hP
  have hS : va_S (sgA 52 h s.heap.size) s.heap H locs := by rw [hH, hlo]; exact hS
  suffices hgo : W p l e ({ frames := 4, cells := 0, slots := 0, locals := 100 }) s m ([.ref (h 36), .int 30, .int 0, .int x2, .int 2] : List Value).toArray below meth cd H locs 0 0 Qz (F0 m 0 ls []) by rw [hH, hlo] at hgo; exact hgo
  clear hH hlo
  obtain ⟨sp, hsp⟩ : ∃ z : Int32 × sg_F, z = sX3_runs_30_0_2_f2_f5 x2 f L := ⟨_, rfl⟩
  have hs : sp = sX3_runs_30_0_2_f2_f5 x2 f L := hsp
  have o_1 : (f 36 3).toInt = 2 := (congrArg Int32.toInt (show f 36 3 = 2 from hf_36_3)).trans (by decide)
  have hF : sgK WkX3_runs_30_0_2_f2_f5 f f := sgK.rf
  refine lv_iload_n hx hb dX3_runs_0 rfl (lv_at hl 1 rfl) ?_
  refine lv_lookup (x := 30) (off := 182) (tgt := 183) hx hb dX3_runs_1 (by decide) (by decide) (by decide) ?_
  refine lv_aload_n hx hb dX3_runs_183 rfl (lv_at hl 0 rfl) ?_
  refine lv_iload_n hx hb dX3_runs_184 rfl (lv_at hl 2 rfl) ?_
  refine lv_iconst (v := 1) hx hb dX3_runs_185 ic_1 ?_
  refine lv_iload_n hx hb dX3_runs_186 rfl (lv_at hl 3 rfl) ?_
  refine lv_iload hx hb dX3_runs_187 (lv_at hl 4 rfl) ?_
  have q_2 : (f 36 3).toInt = 2 := (congrArg Int32.toInt (show f 36 3 = 2 from hf_36_3)).trans (by decide)
  refine sg_calli (va_runV (As := [.int 0, .int 1, .int x2, .int 2]) (rest := []) ⟨hx, hb, hml, hown, hts⟩ (kX3_does_0_1_2_f2_f5 l D ca za h hh f L Q hI x2 hf_36_3 hf_36_4 (by have k0 : (0 : Int32).toInt = 0 := ti_0; have k1 : (1 : Int32).toInt = 1 := ti_1; have k3 : (2 : Int32).toInt = 2 := ti_2; omega) H.size) (sl_c3_does_3_0_0_74_3 hts ⟨Nat.le_of_ble_eq_true rfl, Nat.le_of_ble_eq_true rfl⟩) (sl_vX_36 hA hK hP hS hZ) rfl rfl hl.1 rfl (lv_room (Nat.le_of_ble_eq_true rfl)) dX3_runs_189 ⟨Nat.le_refl _, Nat.le_refl _⟩) hA hS (fun r_7 f_4 L_5 Q_6 H locs hq hP hS => ?_)
  obtain ⟨⟨hI, hk_f_4, eL9, eQ9⟩, hq, p_8, u_9⟩ := hq
  rw [eL9, eQ9] at hP; clear eL9 eQ9
  have hF : sgK WkX3_runs_30_0_2_f2_f5 f f_4 := sgK.tr hF hk_f_4 (by decide +kernel)
  obtain ⟨v_10, ev_10⟩ : ∃ z : Int32, z = f_4 36 3 := ⟨_, rfl⟩
  have q_11 : 0 ≤ v_10.toInt ∧ v_10.toInt ≤ 19 := by rw [ev_10]; exact hI 36 3
  have q_12 : (f_4 36 3).toInt = v_10.toInt := (congrArg Int32.toInt (show f_4 36 3 = v_10 from ev_10.symm))
  have k_14 : (0 : Int32).toInt = 0 := by decide
  have k_15 : (1 : Int32).toInt = 1 := by decide
  have k_16 : (2 : Int32).toInt = 2 := by decide
  refine lv_ineg hx hb dX3_runs_192 ?_
  refine lv_topi (fun v_17 ev_17 => ?_)
  exact hret _ _ _ _ (v_17) f_4 L Q dX3_runs_193 hP hS ⟨⟨hI, hF, rfl, rfl⟩, trivial, ⟨by omega, by omega⟩, (Eq.trans (Eq.symm (hs.trans ((spl2_e u_9 (spl_e ev_10 (spl_e ev_17 rfl)))))) hsp)⟩

abbrev WkX3_does_2_1_1_f1_f5 : List (Nat × Nat × Option Nat) := [(36, 36, some 3), (38, 38, some 1), (38, 38, some 2), (38, 38, some 3)]
set_option maxHeartbeats 4000000 in
set_option maxRecDepth 100000 in
theorem kX3_does_2_1_1_f1_f5 (l : Launch) (D : va_G) (ca : Nat → ClassId) (za h : Nat → Nat) (hh : sgH 52 h) (f : sg_F) (L : sg_L) (Q : sg_Q) (hI : sgI loX hiX f) (x2 : Int32) (hf_36_3 : f 36 3 = 1) (hf_36_4 : f 36 4 = 5) (p0 : 1 ≤ (f 36 3).toInt ∧ (f 36 3).toInt ≤ 1) (sz : Nat) : Met l yX3_does gwX3_does { frames := 5, cells := 0, slots := 0, locals := 124 } (sgP D vwCl (tyX ca) 52 h (eX ca h) zcX za f L Q sz [.ref (h 36), .int 2, .int 1, .int x2, .int 1]) (sgQi D vwCl 52 h (eX ca h) sz (fun r f1 L1 Q1 => ((sgI loX hiX f1 ∧ sgK WkX3_does_2_1_1_f1_f5 f f1 ∧ L1 = L ∧ Q1 = Q) ∧ True ∧ (4 ≤ (f1 36 3).toInt ∧ (f1 36 3).toInt ≤ 4) ∧ (r, f1) = sX3_does_2_1_1_f1_f5 x2 f L))) 0 0 (sgA 52 h sz) := by
  refine sg_ofWi (cc := cX3_does) (maxL := 7) RX3 (by decide) rfl rfl (Nat.le_of_ble_eq_true rfl) ?_
  intro p e s m below meth cd Qz ls hx hb hml hown hts hK hZ hP hS hl hret
  have hA := sgY.self (n := 52) (h := h) (sz := s.heap.size)
  have hl : lv_has ls 7 [(0, .ref (h 36)), (1, .int 2), (2, .int 1), (3, .int x2), (4, .int 1)] := hl
  obtain ⟨H, hH⟩ : ∃ z : Heap, z = s.heap := ⟨_, rfl⟩
  obtain ⟨locs, hlo⟩ : ∃ z : List Loc, z = [] := ⟨_, rfl⟩
  have hP : va_P D vwCl (sgw 52 h (eX ca h) f L Q) H := by rw [hH]; exact hP
  have hS : va_S (sgA 52 h s.heap.size) s.heap H locs := by rw [hH, hlo]; exact hS
  suffices hgo : W p l e ({ frames := 5, cells := 0, slots := 0, locals := 124 }) s m ([.ref (h 36), .int 2, .int 1, .int x2, .int 1] : List Value).toArray below meth cd H locs 0 0 Qz (F0 m 0 ls []) by rw [hH, hlo] at hgo; exact hgo
  clear hH hlo
  obtain ⟨sp, hsp⟩ : ∃ z : Int32 × sg_F, z = sX3_does_2_1_1_f1_f5 x2 f L := ⟨_, rfl⟩
  have hs : sp = sX3_does_2_1_1_f1_f5 x2 f L := hsp
  have o_1 : (f 36 3).toInt = 1 := (congrArg Int32.toInt (show f 36 3 = 1 from hf_36_3)).trans (by decide)
  have hF : sgK WkX3_does_2_1_1_f1_f5 f f := sgK.rf
  have blk_53 : ∀ (fp_53 : sg_F) (H : Heap) (locs : List Loc) (ls : Array Slot), sp = sX3_does_2_1_1_f1_f5_b53 x2 fp_53 L → 1 ≤ (fp_53 36 3).toInt ∧ (fp_53 36 3).toInt ≤ 1 → 5 ≤ (fp_53 36 4).toInt ∧ (fp_53 36 4).toInt ≤ 5 → sgI loX hiX fp_53 → sgK WkX3_does_2_1_1_f1_f5 f fp_53 → va_P D vwCl (sgw 52 h (eX ca h) fp_53 L Q) H → va_S (sgA 52 h s.heap.size) s.heap H locs → lv_has ls 7 [(0, .ref (h 36)), (3, .int x2), (4, .int 1), (5, .int 2), (6, .int 30)] → W p l e ({ frames := 5, cells := 0, slots := 0, locals := 124 }) s m ([.ref (h 36), .int 2, .int 1, .int x2, .int 1] : List Value).toArray below meth cd H locs 0 0 Qz (F0 m 53 ls []) := by
    intro fp_53 H locs ls hs hy0_53 hy1_53 hI hF hP hS hl
    obtain ⟨v_2, ev_2⟩ : ∃ z : Int32, z = fp_53 36 3 := ⟨_, rfl⟩
    have q_3 : 0 ≤ v_2.toInt ∧ v_2.toInt ≤ 19 := by rw [ev_2]; exact hI 36 3
    have q_4 : (fp_53 36 3).toInt = v_2.toInt := by rw [ev_2]
    obtain ⟨v_5, ev_5⟩ : ∃ z : Int32, z = fp_53 36 4 := ⟨_, rfl⟩
    have q_6 : 0 ≤ v_5.toInt ∧ v_5.toInt ≤ 7 := by rw [ev_5]; exact hI 36 4
    have q_7 : (fp_53 36 4).toInt = v_5.toInt := by rw [ev_5]
    have m_8 : fp_53 36 4 = 5 := (hF 36 4 (by decide)).trans hf_36_4
    refine lv_aload_n hx hb dX3_does_53 rfl (lv_at hl 0 rfl) ?_
    refine lv_dup hx hb dX3_does_54 rfl ?_
    refine sl_gX_36_3_3 (v := v_2) hx hb hts hown hK hP (show fp_53 36 3 = v_2 from ev_2.symm) dX3_does_55 ?_
    refine lv_iconst (v := 1) hx hb dX3_does_58 ic_1 ?_
    refine lv_iadd hx hb dX3_does_59 ?_
    refine lv_topi (fun v_9 ev_9 => ?_)
    have q_10 : v_9.toInt = v_2.toInt + 1 := by rw [ev_9]; first | exact cm_add ti_1 (by omega) (by omega) | (have k1 : (1 : Int32).toInt = 1 := ti_1; exact (bn_addI (by omega) (by omega)).trans (by omega))
    refine sl_pX_36_3_3 (x := v_9) hx hb hts hown hh hA hK hP hS dX3_does_60 (fun f_11 H locs ef_11 hP hS => ?_)
    have hI : sgI loX hiX f_11 := by rw [ef_11]; exact sgI.put hI 36 3 (show 0 ≤ (v_9 : Int32).toInt ∧ (v_9 : Int32).toInt ≤ 19 from ⟨by omega, by omega⟩)
    have hF : sgK WkX3_does_2_1_1_f1_f5 f f_11 := sgK.put hF ef_11 (by rfl)
    refine lv_aload_n hx hb dX3_does_63 rfl (lv_at hl 0 rfl) ?_
    refine lv_iload hx hb dX3_does_64 (lv_at hl 4 rfl) ?_
    refine sg_gets hx hb hZ 2 rfl hS hown (hts _ (List.mem_cons_of_mem _ mw_174)) (fun _ h9 => h9) dX3_does_66 ?_
    refine lv_iload hx hb dX3_does_69 (lv_at hl 3 rfl) ?_
    refine sg_sald hx hb hZ 2 rfl hS (y := 2) (N := 8) (vp_in_iff.mpr (by decide)) dX3_does_71 ?_
    refine W.eq (g2 := F0 m 72 ls [.int 0, .int 30, .ref (h 36)]) (by rfl) ?_
    refine lv_iload_n hx hb dX3_does_72 rfl (lv_at hl 1 rfl) ?_
    refine lv_iload hx hb dX3_does_73 (lv_at hl 2 rfl) ?_
    refine lv_iconst (v := 1) hx hb dX3_does_75 ic_1 ?_
    refine lv_iadd hx hb dX3_does_76 ?_
    refine W.eq (g2 := F0 m 77 ls [.int 2, .int x2, .int 0, .int 30, .ref (h 36)]) (by rw [show (1 + 1 : Int32) = 2 from by decide]) ?_
    have c_12 : v_9 = 2 := Int32.toInt_inj.mp (by have k9 : (2 : Int32).toInt = 2 := ti_2; omega)
    have q_13 : (f_11 36 3).toInt = 2 := (congrArg Int32.toInt (show f_11 36 3 = 2 from (Eq.trans (by rw [ef_11, sg_up_s, sgu_s]) c_12))).trans (by decide)
    refine sg_calli (va_runV (As := [.int 30, .int 0, .int x2, .int 2]) (rest := []) ⟨hx, hb, hml, hown, hts⟩ (kX3_runs_30_0_2_f2_f5 l D ca za h hh f_11 L Q hI x2 (Eq.trans (by rw [ef_11, sg_up_s, sgu_s]) c_12) (by rw [ef_11, sg_up_s, sgu_n (by decide)]; exact m_8) (by have k0 : (30 : Int32).toInt = 30 := ti_30; have k1 : (0 : Int32).toInt = 0 := ti_0; have k3 : (2 : Int32).toInt = 2 := ti_2; omega) H.size) (sl_c3_runs_4_0_0_100_3 hts ⟨Nat.le_of_ble_eq_true rfl, Nat.le_of_ble_eq_true rfl⟩) (sl_vX_36 hA hK hP hS hZ) rfl rfl hl.1 rfl (lv_room (Nat.le_of_ble_eq_true rfl)) dX3_does_77 ⟨Nat.le_refl _, Nat.le_refl _⟩) hA hS (fun r_18 f_15 L_16 Q_17 H locs hq hP hS => ?_)
    obtain ⟨⟨hI, hk_f_15, eL9, eQ9⟩, hq, p_19, u_20⟩ := hq
    rw [eL9, eQ9] at hP; clear eL9 eQ9
    have hF : sgK WkX3_does_2_1_1_f1_f5 f f_15 := sgK.tr hF hk_f_15 (by decide +kernel)
    obtain ⟨v_21, ev_21⟩ : ∃ z : Int32, z = f_15 36 3 := ⟨_, rfl⟩
    have q_22 : 0 ≤ v_21.toInt ∧ v_21.toInt ≤ 19 := by rw [ev_21]; exact hI 36 3
    have q_23 : (f_15 36 3).toInt = v_21.toInt := (congrArg Int32.toInt (show f_15 36 3 = v_21 from ev_21.symm))
    have k_25 : (30 : Int32).toInt = 30 := by decide
    have k_26 : (0 : Int32).toInt = 0 := by decide
    have k_27 : (2 : Int32).toInt = 2 := by decide
    exact hret _ _ _ _ (r_18) f_15 L Q dX3_does_80 hP hS ⟨⟨hI, hF, rfl, rfl⟩, trivial, ⟨by omega, by omega⟩, (Eq.trans (Eq.symm (hs.trans ((spl_e ev_2 (spl_e ev_5 (spl_e ev_9 (spl_e ef_11 (spl2_e u_20 (spl_e ev_21 rfl))))))))) hsp)⟩
  refine lv_iload_n hx hb dX3_does_0 rfl (lv_at hl 1 rfl) ?_
  refine lv_iload_n hx hb dX3_does_1 rfl (lv_at hl 2 rfl) ?_
  refine sg_calli (va_runS (As := [.int 2, .int 1]) (rest := []) ⟨hx, hb, hml, hown, hts⟩ (kX3_ownerOf_2_1 l D ca za h hh f L Q hI H.size) (va_cwS 2 hts (gw_S (fun _ h => List.mem_cons_of_mem _ h) mw_189 mw_190 mw_47 mw_188) rfl rfl rfl hd_yX3_ownerOf.2 ⟨Nat.le_of_ble_eq_true rfl, Nat.le_of_ble_eq_true rfl⟩) (sg_preS hA hK hP hS hZ) rfl rfl hl.1 rfl (lv_room (Nat.le_of_ble_eq_true rfl)) dX3_does_2 ⟨Nat.le_refl _, Nat.le_refl _⟩) hA hS (fun r_33 f_30 L_31 Q_32 H locs hq hP hS => ?_)
  obtain ⟨⟨ef9, eL9, eQ9⟩, hq, u_34⟩ := hq
  rw [ef9, eL9, eQ9] at hP; clear ef9 eL9 eQ9
  obtain rfl : r_33 = 2 := Int32.toInt_inj.mp (by have k9 : (2 : Int32).toInt = 2 := ti_2; omega)
  refine lv_istore (lv' := [(5, .int 2), (0, .ref (h 36)), (1, .int 2), (2, .int 1), (3, .int x2), (4, .int 1)]) hx hb dX3_does_5 hl (by decide) rfl (fun ls hl => ?_)
  refine lv_iload hx hb dX3_does_7 (lv_at hl 0 rfl) ?_
  refine lv_if_lt (tgt := 19) hx hb dX3_does_9 (by decide) (fun c => absurd c (by decide)) (fun c => ?_)
  refine lv_iload hx hb dX3_does_12 (lv_at hl 5 rfl) ?_
  refine lv_bipush (v := 40) hx hb dX3_does_14 bp_40 ?_
  refine lv_icmp_le (tgt := 21) hx hb dX3_does_16 (by decide) (fun c => ?_) (fun c => absurd c (by decide))
  refine sg_gets hx hb hZ 3 rfl hS hown (hts _ (List.mem_cons_of_mem _ mw_173)) (fun _ h9 => h9) dX3_does_21 ?_
  refine lv_iload hx hb dX3_does_24 (lv_at hl 0 rfl) ?_
  refine lv_iconst (v := 4) hx hb dX3_does_26 ic_4 ?_
  refine lv_imul hx hb dX3_does_27 ?_
  refine W.eq (g2 := F0 m 28 ls [.int 8, .ref (za 3)]) (by rw [show (2 * 4 : Int32) = 8 from by decide]) ?_
  refine lv_iload_n hx hb dX3_does_28 rfl (lv_at hl 3 rfl) ?_
  refine lv_iadd hx hb dX3_does_29 ?_
  refine W.eq (g2 := F0 m 30 ls [.int 9, .ref (za 3)]) (by rw [show (8 + 1 : Int32) = 9 from by decide]) ?_
  refine sg_sald hx hb hZ 3 rfl hS (y := 9) (N := 32) (vp_in_iff.mpr (by decide)) dX3_does_30 ?_
  refine W.eq (g2 := F0 m 31 ls [.int 30]) (by rfl) ?_
  refine lv_istore (lv' := [(6, .int 30), (5, .int 2), (0, .ref (h 36)), (1, .int 2), (2, .int 1), (3, .int x2), (4, .int 1)]) hx hb dX3_does_31 hl (by decide) rfl (fun ls hl => ?_)
  refine lv_aload_n hx hb dX3_does_33 rfl (lv_at hl 2 rfl) ?_
  refine sl_gX_36_3_3 (v := 1) hx hb hts hown hK hP (show f 36 3 = 1 from hf_36_3) dX3_does_34 ?_
  refine lv_bipush (v := 24) hx hb dX3_does_37 bp_24 ?_
  refine lv_icmp_ge (tgt := 53) hx hb dX3_does_39 (by decide) (fun c => absurd c (by decide)) (fun c => ?_)
  refine lv_aload_n hx hb dX3_does_42 rfl (lv_at hl 2 rfl) ?_
  refine sl_gX_36_1_3 hx hb hts hown hK hP dX3_does_43 ?_
  refine lv_aload_n hx hb dX3_does_46 rfl (lv_at hl 2 rfl) ?_
  refine sl_gX_36_3_3 (v := 1) hx hb hts hown hK hP (show f 36 3 = 1 from hf_36_3) dX3_does_47 ?_
  refine lv_iload hx hb dX3_does_50 (lv_at hl 0 rfl) ?_
  refine sg_iast hx hb hh hA hK hP hS 38 (by decide) 0 (fun _ => rfl) rfl (i := 1) (x := 30) (vp_in_iff.mpr (by decide)) dX3_does_52 (fun f_35 H locs ef_35 hP hS => ?_)
  have ef_35 : f_35 = sg_up f 38 (sgu (f 38) 1 30) := ef_35
  have hI : sgI loX hiX f_35 := by rw [ef_35]; exact sgI.put hI 38 1 (show 0 ≤ (30 : Int32).toInt ∧ (30 : Int32).toInt ≤ 81 from by decide)
  have hF : sgK WkX3_does_2_1_1_f1_f5 f f_35 := sgK.put hF ef_35 (by rfl)
  exact blk_53 f_35 _ _ _ (hs.trans ((spl_e u_34 (spl_e ef_35 rfl)))) (by have zz36_3 : (f_35 36 3).toInt = 1 := (congrArg Int32.toInt (show f_35 36 3 = 1 from (by rw [ef_35, sg_up_n (by decide)]; exact hf_36_3))).trans (by decide); exact ⟨by omega, by omega⟩) (by have zz36_4 : (f_35 36 4).toInt = 5 := (congrArg Int32.toInt (show f_35 36 4 = 5 from (by rw [ef_35, sg_up_n (by decide)]; exact hf_36_4))).trans (by decide); exact ⟨by omega, by omega⟩) hI hF hP hS (lv_sub hl [2, 5, 6, 1, 0] rfl)

abbrev WkX3_runs_41_2_1_f1_f5 : List (Nat × Nat × Option Nat) := [(36, 36, some 3), (38, 38, some 1), (38, 38, some 2), (38, 38, some 3)]
set_option maxHeartbeats 4000000 in
set_option maxRecDepth 100000 in
theorem kX3_runs_41_2_1_f1_f5 (l : Launch) (D : va_G) (ca : Nat → ClassId) (za h : Nat → Nat) (hh : sgH 52 h) (f : sg_F) (L : sg_L) (Q : sg_Q) (hI : sgI loX hiX f) (x2 : Int32) (hf_36_3 : f 36 3 = 1) (hf_36_4 : f 36 4 = 5) (p0 : 1 ≤ (f 36 3).toInt ∧ (f 36 3).toInt ≤ 1) (sz : Nat) : Met l yX3_runs gwX3_runs { frames := 6, cells := 0, slots := 0, locals := 150 } (sgP D vwCl (tyX ca) 52 h (eX ca h) zcX za f L Q sz [.ref (h 36), .int 41, .int 2, .int x2, .int 1]) (sgQi D vwCl 52 h (eX ca h) sz (fun r f1 L1 Q1 => ((sgI loX hiX f1 ∧ sgK WkX3_runs_41_2_1_f1_f5 f f1 ∧ L1 = L ∧ Q1 = Q) ∧ True ∧ (4 ≤ (f1 36 3).toInt ∧ (f1 36 3).toInt ≤ 4) ∧ (r, f1) = sX3_runs_41_2_1_f1_f5 x2 f L))) 0 0 (sgA 52 h sz) := by
  refine sg_ofWi (cc := cX3_runs) (maxL := 5) RX3 (by decide) rfl rfl (Nat.le_of_ble_eq_true rfl) ?_
  intro p e s m below meth cd Qz ls hx hb hml hown hts hK hZ hP hS hl hret
  have hA := sgY.self (n := 52) (h := h) (sz := s.heap.size)
  have hl : lv_has ls 5 [(0, .ref (h 36)), (1, .int 41), (2, .int 2), (3, .int x2), (4, .int 1)] := hl
  obtain ⟨H, hH⟩ : ∃ z : Heap, z = s.heap := ⟨_, rfl⟩
  obtain ⟨locs, hlo⟩ : ∃ z : List Loc, z = [] := ⟨_, rfl⟩
  have hP : va_P D vwCl (sgw 52 h (eX ca h) f L Q) H := by rw [hH]; exact hP
  have hS : va_S (sgA 52 h s.heap.size) s.heap H locs := by rw [hH, hlo]; exact hS
  suffices hgo : W p l e ({ frames := 6, cells := 0, slots := 0, locals := 150 }) s m ([.ref (h 36), .int 41, .int 2, .int x2, .int 1] : List Value).toArray below meth cd H locs 0 0 Qz (F0 m 0 ls []) by rw [hH, hlo] at hgo; exact hgo
  clear hH hlo
  obtain ⟨sp, hsp⟩ : ∃ z : Int32 × sg_F, z = sX3_runs_41_2_1_f1_f5 x2 f L := ⟨_, rfl⟩
  have hs : sp = sX3_runs_41_2_1_f1_f5 x2 f L := hsp
  have o_1 : (f 36 3).toInt = 1 := (congrArg Int32.toInt (show f 36 3 = 1 from hf_36_3)).trans (by decide)
  have hF : sgK WkX3_runs_41_2_1_f1_f5 f f := sgK.rf
  refine lv_iload_n hx hb dX3_runs_0 rfl (lv_at hl 1 rfl) ?_
  refine lv_lookup (x := 41) (off := 205) (tgt := 206) hx hb dX3_runs_1 (by decide) (by decide) (by decide) ?_
  refine lv_aload_n hx hb dX3_runs_206 rfl (lv_at hl 0 rfl) ?_
  refine lv_iload_n hx hb dX3_runs_207 rfl (lv_at hl 2 rfl) ?_
  refine lv_iconst (v := 1) hx hb dX3_runs_208 ic_1 ?_
  refine lv_iload_n hx hb dX3_runs_209 rfl (lv_at hl 3 rfl) ?_
  refine lv_iconst (v := 1) hx hb dX3_runs_210 ic_1 ?_
  refine lv_iadd hx hb dX3_runs_211 ?_
  refine lv_topi (fun v_2 ev_2 => ?_)
  refine lv_iload hx hb dX3_runs_212 (lv_at hl 4 rfl) ?_
  have q_3 : (f 36 3).toInt = 1 := (congrArg Int32.toInt (show f 36 3 = 1 from hf_36_3)).trans (by decide)
  refine sg_calli (va_runV (As := [.int 2, .int 1, .int v_2, .int 1]) (rest := []) ⟨hx, hb, hml, hown, hts⟩ (kX3_does_2_1_1_f1_f5 l D ca za h hh f L Q hI v_2 hf_36_3 hf_36_4 (by have k0 : (2 : Int32).toInt = 2 := ti_2; have k1 : (1 : Int32).toInt = 1 := ti_1; have k3 : (1 : Int32).toInt = 1 := ti_1; omega) H.size) (sl_c3_does_5_0_0_124_3 hts ⟨Nat.le_of_ble_eq_true rfl, Nat.le_of_ble_eq_true rfl⟩) (sl_vX_36 hA hK hP hS hZ) rfl rfl hl.1 rfl (lv_room (Nat.le_of_ble_eq_true rfl)) dX3_runs_214 ⟨Nat.le_refl _, Nat.le_refl _⟩) hA hS (fun r_8 f_5 L_6 Q_7 H locs hq hP hS => ?_)
  obtain ⟨⟨hI, hk_f_5, eL9, eQ9⟩, hq, p_9, u_10⟩ := hq
  rw [eL9, eQ9] at hP; clear eL9 eQ9
  have hF : sgK WkX3_runs_41_2_1_f1_f5 f f_5 := sgK.tr hF hk_f_5 (by decide +kernel)
  obtain ⟨v_11, ev_11⟩ : ∃ z : Int32, z = f_5 36 3 := ⟨_, rfl⟩
  have q_12 : 0 ≤ v_11.toInt ∧ v_11.toInt ≤ 19 := by rw [ev_11]; exact hI 36 3
  have q_13 : (f_5 36 3).toInt = v_11.toInt := (congrArg Int32.toInt (show f_5 36 3 = v_11 from ev_11.symm))
  have k_15 : (2 : Int32).toInt = 2 := by decide
  have k_16 : (1 : Int32).toInt = 1 := by decide
  have k_17 : (1 : Int32).toInt = 1 := by decide
  exact hret _ _ _ _ (r_8) f_5 L Q dX3_runs_217 hP hS ⟨⟨hI, hF, rfl, rfl⟩, trivial, ⟨by omega, by omega⟩, (Eq.trans (Eq.symm (hs.trans ((spl_e ev_2 (spl2_e u_10 (spl_e ev_11 rfl)))))) hsp)⟩

abbrev WkX3_does_5_1_0_f0_f5 : List (Nat × Nat × Option Nat) := [(36, 36, some 3), (38, 38, some 0), (38, 38, some 1), (38, 38, some 2), (38, 38, some 3)]
set_option maxHeartbeats 4000000 in
set_option maxRecDepth 100000 in
theorem kX3_does_5_1_0_f0_f5 (l : Launch) (D : va_G) (ca : Nat → ClassId) (za h : Nat → Nat) (hh : sgH 52 h) (f : sg_F) (L : sg_L) (Q : sg_Q) (hI : sgI loX hiX f) (x2 : Int32) (hf_36_3 : f 36 3 = 0) (hf_36_4 : f 36 4 = 5) (p0 : 0 ≤ (f 36 3).toInt ∧ (f 36 3).toInt ≤ 0) (sz : Nat) : Met l yX3_does gwX3_does { frames := 7, cells := 0, slots := 0, locals := 174 } (sgP D vwCl (tyX ca) 52 h (eX ca h) zcX za f L Q sz [.ref (h 36), .int 5, .int 1, .int x2, .int 0]) (sgQi D vwCl 52 h (eX ca h) sz (fun r f1 L1 Q1 => ((sgI loX hiX f1 ∧ sgK WkX3_does_5_1_0_f0_f5 f f1 ∧ L1 = L ∧ Q1 = Q) ∧ True ∧ (4 ≤ (f1 36 3).toInt ∧ (f1 36 3).toInt ≤ 4) ∧ (r, f1) = sX3_does_5_1_0_f0_f5 x2 f L))) 0 0 (sgA 52 h sz) := by
  refine sg_ofWi (cc := cX3_does) (maxL := 7) RX3 (by decide) rfl rfl (Nat.le_of_ble_eq_true rfl) ?_
  intro p e s m below meth cd Qz ls hx hb hml hown hts hK hZ hP hS hl hret
  have hA := sgY.self (n := 52) (h := h) (sz := s.heap.size)
  have hl : lv_has ls 7 [(0, .ref (h 36)), (1, .int 5), (2, .int 1), (3, .int x2), (4, .int 0)] := hl
  obtain ⟨H, hH⟩ : ∃ z : Heap, z = s.heap := ⟨_, rfl⟩
  obtain ⟨locs, hlo⟩ : ∃ z : List Loc, z = [] := ⟨_, rfl⟩
  have hP : va_P D vwCl (sgw 52 h (eX ca h) f L Q) H := by rw [hH]; exact hP
  have hS : va_S (sgA 52 h s.heap.size) s.heap H locs := by rw [hH, hlo]; exact hS
  suffices hgo : W p l e ({ frames := 7, cells := 0, slots := 0, locals := 174 }) s m ([.ref (h 36), .int 5, .int 1, .int x2, .int 0] : List Value).toArray below meth cd H locs 0 0 Qz (F0 m 0 ls []) by rw [hH, hlo] at hgo; exact hgo
  clear hH hlo
  obtain ⟨sp, hsp⟩ : ∃ z : Int32 × sg_F, z = sX3_does_5_1_0_f0_f5 x2 f L := ⟨_, rfl⟩
  have hs : sp = sX3_does_5_1_0_f0_f5 x2 f L := hsp
  have o_1 : (f 36 3).toInt = 0 := (congrArg Int32.toInt (show f 36 3 = 0 from hf_36_3)).trans (by decide)
  have hF : sgK WkX3_does_5_1_0_f0_f5 f f := sgK.rf
  have blk_53 : ∀ (fp_53 : sg_F) (H : Heap) (locs : List Loc) (ls : Array Slot), sp = sX3_does_5_1_0_f0_f5_b53 x2 fp_53 L → 0 ≤ (fp_53 36 3).toInt ∧ (fp_53 36 3).toInt ≤ 0 → 5 ≤ (fp_53 36 4).toInt ∧ (fp_53 36 4).toInt ≤ 5 → sgI loX hiX fp_53 → sgK WkX3_does_5_1_0_f0_f5 f fp_53 → va_P D vwCl (sgw 52 h (eX ca h) fp_53 L Q) H → va_S (sgA 52 h s.heap.size) s.heap H locs → lv_has ls 7 [(0, .ref (h 36)), (3, .int x2), (4, .int 0), (5, .int 3), (6, .int 41)] → W p l e ({ frames := 7, cells := 0, slots := 0, locals := 174 }) s m ([.ref (h 36), .int 5, .int 1, .int x2, .int 0] : List Value).toArray below meth cd H locs 0 0 Qz (F0 m 53 ls []) := by
    intro fp_53 H locs ls hs hy0_53 hy1_53 hI hF hP hS hl
    obtain ⟨v_2, ev_2⟩ : ∃ z : Int32, z = fp_53 36 3 := ⟨_, rfl⟩
    have q_3 : 0 ≤ v_2.toInt ∧ v_2.toInt ≤ 19 := by rw [ev_2]; exact hI 36 3
    have q_4 : (fp_53 36 3).toInt = v_2.toInt := by rw [ev_2]
    obtain ⟨v_5, ev_5⟩ : ∃ z : Int32, z = fp_53 36 4 := ⟨_, rfl⟩
    have q_6 : 0 ≤ v_5.toInt ∧ v_5.toInt ≤ 7 := by rw [ev_5]; exact hI 36 4
    have q_7 : (fp_53 36 4).toInt = v_5.toInt := by rw [ev_5]
    have m_8 : fp_53 36 4 = 5 := (hF 36 4 (by decide)).trans hf_36_4
    refine lv_aload_n hx hb dX3_does_53 rfl (lv_at hl 0 rfl) ?_
    refine lv_dup hx hb dX3_does_54 rfl ?_
    refine sl_gX_36_3_3 (v := v_2) hx hb hts hown hK hP (show fp_53 36 3 = v_2 from ev_2.symm) dX3_does_55 ?_
    refine lv_iconst (v := 1) hx hb dX3_does_58 ic_1 ?_
    refine lv_iadd hx hb dX3_does_59 ?_
    refine lv_topi (fun v_9 ev_9 => ?_)
    have q_10 : v_9.toInt = v_2.toInt + 1 := by rw [ev_9]; first | exact cm_add ti_1 (by omega) (by omega) | (have k1 : (1 : Int32).toInt = 1 := ti_1; exact (bn_addI (by omega) (by omega)).trans (by omega))
    refine sl_pX_36_3_3 (x := v_9) hx hb hts hown hh hA hK hP hS dX3_does_60 (fun f_11 H locs ef_11 hP hS => ?_)
    have hI : sgI loX hiX f_11 := by rw [ef_11]; exact sgI.put hI 36 3 (show 0 ≤ (v_9 : Int32).toInt ∧ (v_9 : Int32).toInt ≤ 19 from ⟨by omega, by omega⟩)
    have hF : sgK WkX3_does_5_1_0_f0_f5 f f_11 := sgK.put hF ef_11 (by rfl)
    refine lv_aload_n hx hb dX3_does_63 rfl (lv_at hl 0 rfl) ?_
    refine lv_iload hx hb dX3_does_64 (lv_at hl 4 rfl) ?_
    refine sg_gets hx hb hZ 2 rfl hS hown (hts _ (List.mem_cons_of_mem _ mw_174)) (fun _ h9 => h9) dX3_does_66 ?_
    refine lv_iload hx hb dX3_does_69 (lv_at hl 3 rfl) ?_
    refine sg_sald hx hb hZ 2 rfl hS (y := 3) (N := 8) (vp_in_iff.mpr (by decide)) dX3_does_71 ?_
    refine W.eq (g2 := F0 m 72 ls [.int 2, .int 41, .ref (h 36)]) (by rfl) ?_
    refine lv_iload_n hx hb dX3_does_72 rfl (lv_at hl 1 rfl) ?_
    refine lv_iload hx hb dX3_does_73 (lv_at hl 2 rfl) ?_
    refine lv_iconst (v := 1) hx hb dX3_does_75 ic_1 ?_
    refine lv_iadd hx hb dX3_does_76 ?_
    refine W.eq (g2 := F0 m 77 ls [.int 1, .int x2, .int 2, .int 41, .ref (h 36)]) (by rw [show (0 + 1 : Int32) = 1 from by decide]) ?_
    have c_12 : v_9 = 1 := Int32.toInt_inj.mp (by have k9 : (1 : Int32).toInt = 1 := ti_1; omega)
    have q_13 : (f_11 36 3).toInt = 1 := (congrArg Int32.toInt (show f_11 36 3 = 1 from (Eq.trans (by rw [ef_11, sg_up_s, sgu_s]) c_12))).trans (by decide)
    refine sg_calli (va_runV (As := [.int 41, .int 2, .int x2, .int 1]) (rest := []) ⟨hx, hb, hml, hown, hts⟩ (kX3_runs_41_2_1_f1_f5 l D ca za h hh f_11 L Q hI x2 (Eq.trans (by rw [ef_11, sg_up_s, sgu_s]) c_12) (by rw [ef_11, sg_up_s, sgu_n (by decide)]; exact m_8) (by have k0 : (41 : Int32).toInt = 41 := ti_41; have k1 : (2 : Int32).toInt = 2 := ti_2; have k3 : (1 : Int32).toInt = 1 := ti_1; omega) H.size) (sl_c3_runs_6_0_0_150_3 hts ⟨Nat.le_of_ble_eq_true rfl, Nat.le_of_ble_eq_true rfl⟩) (sl_vX_36 hA hK hP hS hZ) rfl rfl hl.1 rfl (lv_room (Nat.le_of_ble_eq_true rfl)) dX3_does_77 ⟨Nat.le_refl _, Nat.le_refl _⟩) hA hS (fun r_18 f_15 L_16 Q_17 H locs hq hP hS => ?_)
    obtain ⟨⟨hI, hk_f_15, eL9, eQ9⟩, hq, p_19, u_20⟩ := hq
    rw [eL9, eQ9] at hP; clear eL9 eQ9
    have hF : sgK WkX3_does_5_1_0_f0_f5 f f_15 := sgK.tr hF hk_f_15 (by decide +kernel)
    obtain ⟨v_21, ev_21⟩ : ∃ z : Int32, z = f_15 36 3 := ⟨_, rfl⟩
    have q_22 : 0 ≤ v_21.toInt ∧ v_21.toInt ≤ 19 := by rw [ev_21]; exact hI 36 3
    have q_23 : (f_15 36 3).toInt = v_21.toInt := (congrArg Int32.toInt (show f_15 36 3 = v_21 from ev_21.symm))
    have k_25 : (41 : Int32).toInt = 41 := by decide
    have k_26 : (2 : Int32).toInt = 2 := by decide
    have k_27 : (1 : Int32).toInt = 1 := by decide
    exact hret _ _ _ _ (r_18) f_15 L Q dX3_does_80 hP hS ⟨⟨hI, hF, rfl, rfl⟩, trivial, ⟨by omega, by omega⟩, (Eq.trans (Eq.symm (hs.trans ((spl_e ev_2 (spl_e ev_5 (spl_e ev_9 (spl_e ef_11 (spl2_e u_20 (spl_e ev_21 rfl))))))))) hsp)⟩
  refine lv_iload_n hx hb dX3_does_0 rfl (lv_at hl 1 rfl) ?_
  refine lv_iload_n hx hb dX3_does_1 rfl (lv_at hl 2 rfl) ?_
  refine sg_calli (va_runS (As := [.int 5, .int 1]) (rest := []) ⟨hx, hb, hml, hown, hts⟩ (kX3_ownerOf_5_1 l D ca za h hh f L Q hI H.size) (va_cwS 2 hts (gw_S (fun _ h => List.mem_cons_of_mem _ h) mw_189 mw_190 mw_47 mw_188) rfl rfl rfl hd_yX3_ownerOf.2 ⟨Nat.le_of_ble_eq_true rfl, Nat.le_of_ble_eq_true rfl⟩) (sg_preS hA hK hP hS hZ) rfl rfl hl.1 rfl (lv_room (Nat.le_of_ble_eq_true rfl)) dX3_does_2 ⟨Nat.le_refl _, Nat.le_refl _⟩) hA hS (fun r_33 f_30 L_31 Q_32 H locs hq hP hS => ?_)
  obtain ⟨⟨ef9, eL9, eQ9⟩, hq, u_34⟩ := hq
  rw [ef9, eL9, eQ9] at hP; clear ef9 eL9 eQ9
  obtain rfl : r_33 = 3 := Int32.toInt_inj.mp (by have k9 : (3 : Int32).toInt = 3 := ti_3; omega)
  refine lv_istore (lv' := [(5, .int 3), (0, .ref (h 36)), (1, .int 5), (2, .int 1), (3, .int x2), (4, .int 0)]) hx hb dX3_does_5 hl (by decide) rfl (fun ls hl => ?_)
  refine lv_iload hx hb dX3_does_7 (lv_at hl 0 rfl) ?_
  refine lv_if_lt (tgt := 19) hx hb dX3_does_9 (by decide) (fun c => absurd c (by decide)) (fun c => ?_)
  refine lv_iload hx hb dX3_does_12 (lv_at hl 5 rfl) ?_
  refine lv_bipush (v := 40) hx hb dX3_does_14 bp_40 ?_
  refine lv_icmp_le (tgt := 21) hx hb dX3_does_16 (by decide) (fun c => ?_) (fun c => absurd c (by decide))
  refine sg_gets hx hb hZ 3 rfl hS hown (hts _ (List.mem_cons_of_mem _ mw_173)) (fun _ h9 => h9) dX3_does_21 ?_
  refine lv_iload hx hb dX3_does_24 (lv_at hl 0 rfl) ?_
  refine lv_iconst (v := 4) hx hb dX3_does_26 ic_4 ?_
  refine lv_imul hx hb dX3_does_27 ?_
  refine W.eq (g2 := F0 m 28 ls [.int 12, .ref (za 3)]) (by rw [show (3 * 4 : Int32) = 12 from by decide]) ?_
  refine lv_iload_n hx hb dX3_does_28 rfl (lv_at hl 3 rfl) ?_
  refine lv_iadd hx hb dX3_does_29 ?_
  refine W.eq (g2 := F0 m 30 ls [.int 13, .ref (za 3)]) (by rw [show (12 + 1 : Int32) = 13 from by decide]) ?_
  refine sg_sald hx hb hZ 3 rfl hS (y := 13) (N := 32) (vp_in_iff.mpr (by decide)) dX3_does_30 ?_
  refine W.eq (g2 := F0 m 31 ls [.int 41]) (by rfl) ?_
  refine lv_istore (lv' := [(6, .int 41), (5, .int 3), (0, .ref (h 36)), (1, .int 5), (2, .int 1), (3, .int x2), (4, .int 0)]) hx hb dX3_does_31 hl (by decide) rfl (fun ls hl => ?_)
  refine lv_aload_n hx hb dX3_does_33 rfl (lv_at hl 2 rfl) ?_
  refine sl_gX_36_3_3 (v := 0) hx hb hts hown hK hP (show f 36 3 = 0 from hf_36_3) dX3_does_34 ?_
  refine lv_bipush (v := 24) hx hb dX3_does_37 bp_24 ?_
  refine lv_icmp_ge (tgt := 53) hx hb dX3_does_39 (by decide) (fun c => absurd c (by decide)) (fun c => ?_)
  refine lv_aload_n hx hb dX3_does_42 rfl (lv_at hl 2 rfl) ?_
  refine sl_gX_36_1_3 hx hb hts hown hK hP dX3_does_43 ?_
  refine lv_aload_n hx hb dX3_does_46 rfl (lv_at hl 2 rfl) ?_
  refine sl_gX_36_3_3 (v := 0) hx hb hts hown hK hP (show f 36 3 = 0 from hf_36_3) dX3_does_47 ?_
  refine lv_iload hx hb dX3_does_50 (lv_at hl 0 rfl) ?_
  refine sg_iast hx hb hh hA hK hP hS 38 (by decide) 0 (fun _ => rfl) rfl (i := 0) (x := 41) (vp_in_iff.mpr (by decide)) dX3_does_52 (fun f_35 H locs ef_35 hP hS => ?_)
  have ef_35 : f_35 = sg_up f 38 (sgu (f 38) 0 41) := ef_35
  have hI : sgI loX hiX f_35 := by rw [ef_35]; exact sgI.put hI 38 0 (show 0 ≤ (41 : Int32).toInt ∧ (41 : Int32).toInt ≤ 81 from by decide)
  have hF : sgK WkX3_does_5_1_0_f0_f5 f f_35 := sgK.put hF ef_35 (by rfl)
  exact blk_53 f_35 _ _ _ (hs.trans ((spl_e u_34 (spl_e ef_35 rfl)))) (by have zz36_3 : (f_35 36 3).toInt = 0 := (congrArg Int32.toInt (show f_35 36 3 = 0 from (by rw [ef_35, sg_up_n (by decide)]; exact hf_36_3))).trans (by decide); exact ⟨by omega, by omega⟩) (by have zz36_4 : (f_35 36 4).toInt = 5 := (congrArg Int32.toInt (show f_35 36 4 = 5 from (by rw [ef_35, sg_up_n (by decide)]; exact hf_36_4))).trans (by decide); exact ⟨by omega, by omega⟩) hI hF hP hS (lv_sub hl [2, 5, 6, 1, 0] rfl)

set_option maxHeartbeats 4000000 in
set_option maxRecDepth 100000 in
theorem kX3_ownerOf_6_1 (l : Launch) (D : va_G) (ca : Nat → ClassId) (za h : Nat → Nat) (hh : sgH 52 h) (f : sg_F) (L : sg_L) (Q : sg_Q) (hI : sgI loX hiX f) (sz : Nat) : Met l yX3_ownerOf gwX3_ownerOf { frames := 0, cells := 0, slots := 0, locals := 0 } (sgP D vwCl (tyX ca) 52 h (eX ca h) zcX za f L Q sz [.int 6, .int 1]) (sgQi D vwCl 52 h (eX ca h) sz (fun r f1 L1 Q1 => ((f1 = f ∧ L1 = L ∧ Q1 = Q) ∧ (0 ≤ r.toInt ∧ r.toInt ≤ 0) ∧ (r) = sX3_ownerOf_6_1 f L))) 0 0 (sgA 52 h sz) := by
  refine sg_ofWi (cc := cX3_ownerOf) (maxL := 4) RX3 (by decide) rfl rfl (Nat.le_of_ble_eq_true rfl) ?_
  intro p e s m below meth cd Qz ls hx hb hml hown hts hK hZ hP hS hl hret
  have hA := sgY.self (n := 52) (h := h) (sz := s.heap.size)
  have hl : lv_has ls 4 [(0, .int 6), (1, .int 1)] := hl
  obtain ⟨H, hH⟩ : ∃ z : Heap, z = s.heap := ⟨_, rfl⟩
  obtain ⟨locs, hlo⟩ : ∃ z : List Loc, z = [] := ⟨_, rfl⟩
  have hP : va_P D vwCl (sgw 52 h (eX ca h) f L Q) H := by rw [hH]; exact hP
  have hS : va_S (sgA 52 h s.heap.size) s.heap H locs := by rw [hH, hlo]; exact hS
  suffices hgo : W p l e ({ frames := 0, cells := 0, slots := 0, locals := 0 }) s m ([.int 6, .int 1] : List Value).toArray below meth cd H locs 0 0 Qz (F0 m 0 ls []) by rw [hH, hlo] at hgo; exact hgo
  clear hH hlo
  obtain ⟨sp, hsp⟩ : ∃ z : Int32, z = sX3_ownerOf_6_1 f L := ⟨_, rfl⟩
  have hs : sp = sX3_ownerOf_6_1 f L := hsp
  refine lv_iload_n hx hb dX3_ownerOf_0 rfl (lv_at hl 0 rfl) ?_
  refine lv_istore_n (lv' := [(2, .int 6), (0, .int 6), (1, .int 1)]) hx hb dX3_ownerOf_1 rfl hl (by decide) rfl (fun ls hl => ?_)
  refine lv_iconst (v := 0) hx hb dX3_ownerOf_2 ic_0 ?_
  refine lv_istore_n (lv' := [(3, .int 0), (2, .int 6), (0, .int 6), (1, .int 1)]) hx hb dX3_ownerOf_3 rfl hl (by decide) rfl (fun ls hl => ?_)
  refine lv_iload_n hx hb dX3_ownerOf_4 rfl (lv_at hl 0 rfl) ?_
  refine lv_bipush (v := 8) hx hb dX3_ownerOf_5 bp_8 ?_
  refine lv_icmp_ge (tgt := 40) hx hb dX3_ownerOf_7 (by decide) (fun c => absurd c (by decide)) (fun c => ?_)
  refine lv_iload_n hx hb dX3_ownerOf_10 rfl (lv_at hl 1 rfl) ?_
  refine lv_if_lt (tgt := 40) hx hb dX3_ownerOf_11 (by decide) (fun c => absurd c (by decide)) (fun c => ?_)
  refine sg_gets hx hb hZ 3 rfl hS hown (hts _ (List.mem_cons_of_mem _ mw_173)) (fun _ h9 => h9) dX3_ownerOf_14 ?_
  refine lv_iload_n hx hb dX3_ownerOf_17 rfl (lv_at hl 1 rfl) ?_
  refine lv_iconst (v := 4) hx hb dX3_ownerOf_18 ic_4 ?_
  refine lv_imul hx hb dX3_ownerOf_19 ?_
  refine W.eq (g2 := F0 m 20 ls [.int 24, .ref (za 3)]) (by rw [show (6 * 4 : Int32) = 24 from by decide]) ?_
  refine lv_iload_n hx hb dX3_ownerOf_20 rfl (lv_at hl 3 rfl) ?_
  refine lv_iadd hx hb dX3_ownerOf_21 ?_
  refine W.eq (g2 := F0 m 22 ls [.int 25, .ref (za 3)]) (by rw [show (24 + 1 : Int32) = 25 from by decide]) ?_
  refine sg_sald hx hb hZ 3 rfl hS (y := 25) (N := 32) (vp_in_iff.mpr (by decide)) dX3_ownerOf_22 ?_
  refine W.eq (g2 := F0 m 23 ls [.int 0]) (by rfl) ?_
  refine lv_if_eq (tgt := 28) hx hb dX3_ownerOf_23 (by decide) (fun c => ?_) (fun c => absurd c (by decide))
  refine sg_gets hx hb hZ 2 rfl hS hown (hts _ (List.mem_cons_of_mem _ mw_174)) (fun _ h9 => h9) dX3_ownerOf_28 ?_
  refine lv_iload_n hx hb dX3_ownerOf_31 rfl (lv_at hl 1 rfl) ?_
  refine sg_sald hx hb hZ 2 rfl hS (y := 6) (N := 8) (vp_in_iff.mpr (by decide)) dX3_ownerOf_32 ?_
  refine W.eq (g2 := F0 m 33 ls [.int 0]) (by rfl) ?_
  refine lv_istore_n (lv' := [(2, .int 0), (3, .int 0), (0, .int 6), (1, .int 1)]) hx hb dX3_ownerOf_33 rfl hl (by decide) rfl (fun ls hl => ?_)
  refine lv_iinc (v := 1) (lv' := [(3, .int 1), (2, .int 0), (0, .int 6), (1, .int 1)]) hx hb dX3_ownerOf_34 hl (k := 1) rfl (by decide) (by decide) rfl (fun ls hl => ?_)
  refine lv_goto (tgt := 4) hx hb dX3_ownerOf_37 (by decide) ?_
  refine lv_iload_n hx hb dX3_ownerOf_4 rfl (lv_at hl 0 rfl) ?_
  refine lv_bipush (v := 8) hx hb dX3_ownerOf_5 bp_8 ?_
  refine lv_icmp_ge (tgt := 40) hx hb dX3_ownerOf_7 (by decide) (fun c => absurd c (by decide)) (fun c => ?_)
  refine lv_iload_n hx hb dX3_ownerOf_10 rfl (lv_at hl 1 rfl) ?_
  refine lv_if_lt (tgt := 40) hx hb dX3_ownerOf_11 (by decide) (fun c => absurd c (by decide)) (fun c => ?_)
  refine sg_gets hx hb hZ 3 rfl hS hown (hts _ (List.mem_cons_of_mem _ mw_173)) (fun _ h9 => h9) dX3_ownerOf_14 ?_
  refine lv_iload_n hx hb dX3_ownerOf_17 rfl (lv_at hl 1 rfl) ?_
  refine lv_iconst (v := 4) hx hb dX3_ownerOf_18 ic_4 ?_
  refine lv_imul hx hb dX3_ownerOf_19 ?_
  refine W.eq (g2 := F0 m 20 ls [.int 0, .ref (za 3)]) (by rw [show (0 * 4 : Int32) = 0 from by decide]) ?_
  refine lv_iload_n hx hb dX3_ownerOf_20 rfl (lv_at hl 3 rfl) ?_
  refine lv_iadd hx hb dX3_ownerOf_21 ?_
  refine W.eq (g2 := F0 m 22 ls [.int 1, .ref (za 3)]) (by rw [show (0 + 1 : Int32) = 1 from by decide]) ?_
  refine sg_sald hx hb hZ 3 rfl hS (y := 1) (N := 32) (vp_in_iff.mpr (by decide)) dX3_ownerOf_22 ?_
  refine W.eq (g2 := F0 m 23 ls [.int 10]) (by rfl) ?_
  refine lv_if_eq (tgt := 28) hx hb dX3_ownerOf_23 (by decide) (fun c => absurd c (by decide)) (fun c => ?_)
  refine lv_iload_n hx hb dX3_ownerOf_26 rfl (lv_at hl 1 rfl) ?_
  have k99 : (0 : Int32).toInt = 0 := ti_0
  exact hret _ _ _ _ (0) f L Q dX3_ownerOf_27 hP hS ⟨⟨rfl, rfl, rfl⟩, (by decide), (Eq.trans (Eq.symm hs) hsp)⟩

set_option maxHeartbeats 4000000 in
set_option maxRecDepth 100000 in
theorem kX3_runs_1_m1_3_f3_f6 (l : Launch) (D : va_G) (ca : Nat → ClassId) (za h : Nat → Nat) (hh : sgH 52 h) (f : sg_F) (L : sg_L) (Q : sg_Q) (hI : sgI loX hiX f) (x2 : Int32) (hf_36_3 : f 36 3 = 3) (hf_36_4 : f 36 4 = 6) (p0 : 3 ≤ (f 36 3).toInt ∧ (f 36 3).toInt ≤ 3) (sz : Nat) : Met l yX3_runs gwX3_runs { frames := 0, cells := 0, slots := 0, locals := 0 } (sgP D vwCl (tyX ca) 52 h (eX ca h) zcX za f L Q sz [.ref (h 36), .int 1, .int (-1), .int x2, .int 3]) (sgQi D vwCl 52 h (eX ca h) sz (fun r f1 L1 Q1 => ((f1 = f ∧ L1 = L ∧ Q1 = Q) ∧ True ∧ (3 ≤ (f1 36 3).toInt ∧ (f1 36 3).toInt ≤ 3) ∧ (r) = sX3_runs_1_m1_3_f3_f6 x2 f L))) 0 0 (sgA 52 h sz) := by
  refine sg_ofWi (cc := cX3_runs) (maxL := 5) RX3 (by decide) rfl rfl (Nat.le_of_ble_eq_true rfl) ?_
  intro p e s m below meth cd Qz ls hx hb hml hown hts hK hZ hP hS hl hret
  have hA := sgY.self (n := 52) (h := h) (sz := s.heap.size)
  have hl : lv_has ls 5 [(0, .ref (h 36)), (1, .int 1), (2, .int (-1)), (3, .int x2), (4, .int 3)] := hl
  obtain ⟨H, hH⟩ : ∃ z : Heap, z = s.heap := ⟨_, rfl⟩
  obtain ⟨locs, hlo⟩ : ∃ z : List Loc, z = [] := ⟨_, rfl⟩
  have hP : va_P D vwCl (sgw 52 h (eX ca h) f L Q) H := by rw [hH]; exact hP
  have hS : va_S (sgA 52 h s.heap.size) s.heap H locs := by rw [hH, hlo]; exact hS
  suffices hgo : W p l e ({ frames := 0, cells := 0, slots := 0, locals := 0 }) s m ([.ref (h 36), .int 1, .int (-1), .int x2, .int 3] : List Value).toArray below meth cd H locs 0 0 Qz (F0 m 0 ls []) by rw [hH, hlo] at hgo; exact hgo
  clear hH hlo
  obtain ⟨sp, hsp⟩ : ∃ z : Int32, z = sX3_runs_1_m1_3_f3_f6 x2 f L := ⟨_, rfl⟩
  have hs : sp = sX3_runs_1_m1_3_f3_f6 x2 f L := hsp
  have o_1 : (f 36 3).toInt = 3 := (congrArg Int32.toInt (show f 36 3 = 3 from hf_36_3)).trans (by decide)
  refine lv_iload_n hx hb dX3_runs_0 rfl (lv_at hl 1 rfl) ?_
  refine lv_lookup (x := 1) (off := 115) (tgt := 116) hx hb dX3_runs_1 (by decide) (by decide) (by decide) ?_
  refine lv_iload_n hx hb dX3_runs_116 rfl (lv_at hl 3 rfl) ?_
  refine lv_aload_n hx hb dX3_runs_117 rfl (lv_at hl 0 rfl) ?_
  refine sl_gX_36_5_3 (v := (f 36 5)) hx hb hts hown hK hP rfl dX3_runs_118 ?_
  refine lv_topi (fun v_2 ev_2 => ?_)
  have q_3 : 0 ≤ v_2.toInt ∧ v_2.toInt ≤ 49 := by rw [ev_2]; exact hI 36 5
  refine lv_iadd hx hb dX3_runs_121 ?_
  refine lv_topi (fun v_4 ev_4 => ?_)
  have q_5 : (f 36 3).toInt = 3 := (congrArg Int32.toInt (show f 36 3 = 3 from hf_36_3)).trans (by decide)
  exact hret _ _ _ _ (v_4) f L Q dX3_runs_122 hP hS ⟨⟨rfl, rfl, rfl⟩, trivial, ⟨by omega, by omega⟩, (Eq.trans (Eq.symm (hs.trans ((spl_e ev_2 (spl_e ev_4 rfl))))) hsp)⟩

abbrev WkX3_does_0_0_2_f2_f6 : List (Nat × Nat × Option Nat) := [(36, 36, some 3), (38, 38, some 2)]
set_option maxHeartbeats 4000000 in
set_option maxRecDepth 100000 in
theorem kX3_does_0_0_2_f2_f6 (l : Launch) (D : va_G) (ca : Nat → ClassId) (za h : Nat → Nat) (hh : sgH 52 h) (f : sg_F) (L : sg_L) (Q : sg_Q) (hI : sgI loX hiX f) (x2 : Int32) (hf_36_3 : f 36 3 = 2) (hf_36_4 : f 36 4 = 6) (p0 : 2 ≤ (f 36 3).toInt ∧ (f 36 3).toInt ≤ 2) (sz : Nat) : Met l yX3_does gwX3_does { frames := 1, cells := 0, slots := 0, locals := 24 } (sgP D vwCl (tyX ca) 52 h (eX ca h) zcX za f L Q sz [.ref (h 36), .int 0, .int 0, .int x2, .int 2]) (sgQi D vwCl 52 h (eX ca h) sz (fun r f1 L1 Q1 => ((sgI loX hiX f1 ∧ sgK WkX3_does_0_0_2_f2_f6 f f1 ∧ L1 = L ∧ Q1 = Q) ∧ True ∧ (3 ≤ (f1 36 3).toInt ∧ (f1 36 3).toInt ≤ 3) ∧ (r, f1) = sX3_does_0_0_2_f2_f6 x2 f L))) 0 0 (sgA 52 h sz) := by
  refine sg_ofWi (cc := cX3_does) (maxL := 7) RX3 (by decide) rfl rfl (Nat.le_of_ble_eq_true rfl) ?_
  intro p e s m below meth cd Qz ls hx hb hml hown hts hK hZ hP hS hl hret
  have hA := sgY.self (n := 52) (h := h) (sz := s.heap.size)
  have hl : lv_has ls 7 [(0, .ref (h 36)), (1, .int 0), (2, .int 0), (3, .int x2), (4, .int 2)] := hl
  obtain ⟨H, hH⟩ : ∃ z : Heap, z = s.heap := ⟨_, rfl⟩
  obtain ⟨locs, hlo⟩ : ∃ z : List Loc, z = [] := ⟨_, rfl⟩
  have hP : va_P D vwCl (sgw 52 h (eX ca h) f L Q) H := by rw [hH]; exact hP
  have hS : va_S (sgA 52 h s.heap.size) s.heap H locs := by rw [hH, hlo]; exact hS
  suffices hgo : W p l e ({ frames := 1, cells := 0, slots := 0, locals := 24 }) s m ([.ref (h 36), .int 0, .int 0, .int x2, .int 2] : List Value).toArray below meth cd H locs 0 0 Qz (F0 m 0 ls []) by rw [hH, hlo] at hgo; exact hgo
  clear hH hlo
  obtain ⟨sp, hsp⟩ : ∃ z : Int32 × sg_F, z = sX3_does_0_0_2_f2_f6 x2 f L := ⟨_, rfl⟩
  have hs : sp = sX3_does_0_0_2_f2_f6 x2 f L := hsp
  have o_1 : (f 36 3).toInt = 2 := (congrArg Int32.toInt (show f 36 3 = 2 from hf_36_3)).trans (by decide)
  have hF : sgK WkX3_does_0_0_2_f2_f6 f f := sgK.rf
  have blk_53 : ∀ (fp_53 : sg_F) (H : Heap) (locs : List Loc) (ls : Array Slot), sp = sX3_does_0_0_2_f2_f6_b53 x2 fp_53 L → 2 ≤ (fp_53 36 3).toInt ∧ (fp_53 36 3).toInt ≤ 2 → 6 ≤ (fp_53 36 4).toInt ∧ (fp_53 36 4).toInt ≤ 6 → sgI loX hiX fp_53 → sgK WkX3_does_0_0_2_f2_f6 f fp_53 → va_P D vwCl (sgw 52 h (eX ca h) fp_53 L Q) H → va_S (sgA 52 h s.heap.size) s.heap H locs → lv_has ls 7 [(0, .ref (h 36)), (3, .int x2), (4, .int 2), (5, .int 0), (6, .int 1)] → W p l e ({ frames := 1, cells := 0, slots := 0, locals := 24 }) s m ([.ref (h 36), .int 0, .int 0, .int x2, .int 2] : List Value).toArray below meth cd H locs 0 0 Qz (F0 m 53 ls []) := by
    intro fp_53 H locs ls hs hy0_53 hy1_53 hI hF hP hS hl
    obtain ⟨v_2, ev_2⟩ : ∃ z : Int32, z = fp_53 36 3 := ⟨_, rfl⟩
    have q_3 : 0 ≤ v_2.toInt ∧ v_2.toInt ≤ 19 := by rw [ev_2]; exact hI 36 3
    have q_4 : (fp_53 36 3).toInt = v_2.toInt := by rw [ev_2]
    obtain ⟨v_5, ev_5⟩ : ∃ z : Int32, z = fp_53 36 4 := ⟨_, rfl⟩
    have q_6 : 0 ≤ v_5.toInt ∧ v_5.toInt ≤ 7 := by rw [ev_5]; exact hI 36 4
    have q_7 : (fp_53 36 4).toInt = v_5.toInt := by rw [ev_5]
    have m_8 : fp_53 36 4 = 6 := (hF 36 4 (by decide)).trans hf_36_4
    refine lv_aload_n hx hb dX3_does_53 rfl (lv_at hl 0 rfl) ?_
    refine lv_dup hx hb dX3_does_54 rfl ?_
    refine sl_gX_36_3_3 (v := v_2) hx hb hts hown hK hP (show fp_53 36 3 = v_2 from ev_2.symm) dX3_does_55 ?_
    refine lv_iconst (v := 1) hx hb dX3_does_58 ic_1 ?_
    refine lv_iadd hx hb dX3_does_59 ?_
    refine lv_topi (fun v_9 ev_9 => ?_)
    have q_10 : v_9.toInt = v_2.toInt + 1 := by rw [ev_9]; first | exact cm_add ti_1 (by omega) (by omega) | (have k1 : (1 : Int32).toInt = 1 := ti_1; exact (bn_addI (by omega) (by omega)).trans (by omega))
    refine sl_pX_36_3_3 (x := v_9) hx hb hts hown hh hA hK hP hS dX3_does_60 (fun f_11 H locs ef_11 hP hS => ?_)
    have hI : sgI loX hiX f_11 := by rw [ef_11]; exact sgI.put hI 36 3 (show 0 ≤ (v_9 : Int32).toInt ∧ (v_9 : Int32).toInt ≤ 19 from ⟨by omega, by omega⟩)
    have hF : sgK WkX3_does_0_0_2_f2_f6 f f_11 := sgK.put hF ef_11 (by rfl)
    refine lv_aload_n hx hb dX3_does_63 rfl (lv_at hl 0 rfl) ?_
    refine lv_iload hx hb dX3_does_64 (lv_at hl 4 rfl) ?_
    refine sg_gets hx hb hZ 2 rfl hS hown (hts _ (List.mem_cons_of_mem _ mw_174)) (fun _ h9 => h9) dX3_does_66 ?_
    refine lv_iload hx hb dX3_does_69 (lv_at hl 3 rfl) ?_
    refine sg_sald hx hb hZ 2 rfl hS (y := 0) (N := 8) (vp_in_iff.mpr (by decide)) dX3_does_71 ?_
    refine W.eq (g2 := F0 m 72 ls [.int (-1), .int 1, .ref (h 36)]) (by rfl) ?_
    refine lv_iload_n hx hb dX3_does_72 rfl (lv_at hl 1 rfl) ?_
    refine lv_iload hx hb dX3_does_73 (lv_at hl 2 rfl) ?_
    refine lv_iconst (v := 1) hx hb dX3_does_75 ic_1 ?_
    refine lv_iadd hx hb dX3_does_76 ?_
    refine W.eq (g2 := F0 m 77 ls [.int 3, .int x2, .int (-1), .int 1, .ref (h 36)]) (by rw [show (2 + 1 : Int32) = 3 from by decide]) ?_
    have c_12 : v_9 = 3 := Int32.toInt_inj.mp (by have k9 : (3 : Int32).toInt = 3 := ti_3; omega)
    have q_13 : (f_11 36 3).toInt = 3 := (congrArg Int32.toInt (show f_11 36 3 = 3 from (Eq.trans (by rw [ef_11, sg_up_s, sgu_s]) c_12))).trans (by decide)
    refine sg_calli (va_runV (As := [.int 1, .int (-1), .int x2, .int 3]) (rest := []) ⟨hx, hb, hml, hown, hts⟩ (kX3_runs_1_m1_3_f3_f6 l D ca za h hh f_11 L Q hI x2 (Eq.trans (by rw [ef_11, sg_up_s, sgu_s]) c_12) (by rw [ef_11, sg_up_s, sgu_n (by decide)]; exact m_8) (by have k0 : (1 : Int32).toInt = 1 := ti_1; have k1 : ((-1) : Int32).toInt = (-1) := ti_m1; have k3 : (3 : Int32).toInt = 3 := ti_3; omega) H.size) (sl_c3_runs_0_0_0_0_3 hts ⟨Nat.le_of_ble_eq_true rfl, Nat.le_of_ble_eq_true rfl⟩) (sl_vX_36 hA hK hP hS hZ) rfl rfl hl.1 rfl (lv_room (Nat.le_of_ble_eq_true rfl)) dX3_does_77 ⟨Nat.le_refl _, Nat.le_refl _⟩) hA hS (fun r_18 f_15 L_16 Q_17 H locs hq hP hS => ?_)
    obtain ⟨⟨ef9, eL9, eQ9⟩, hq, p_19, u_20⟩ := hq
    rw [ef9, eL9, eQ9] at hP; clear ef9 eL9 eQ9
    have k_23 : (1 : Int32).toInt = 1 := by decide
    have k_24 : ((-1) : Int32).toInt = (-1) := by decide
    have k_25 : (3 : Int32).toInt = 3 := by decide
    exact hret _ _ _ _ (r_18) f_11 L Q dX3_does_80 hP hS ⟨⟨hI, hF, rfl, rfl⟩, trivial, ⟨by omega, by omega⟩, (Eq.trans (Eq.symm (hs.trans ((spl_e ev_2 (spl_e ev_5 (spl_e ev_9 (spl_e ef_11 (spl_e u_20 rfl)))))))) hsp)⟩
  refine lv_iload_n hx hb dX3_does_0 rfl (lv_at hl 1 rfl) ?_
  refine lv_iload_n hx hb dX3_does_1 rfl (lv_at hl 2 rfl) ?_
  refine sg_calli (va_runS (As := [.int 0, .int 0]) (rest := []) ⟨hx, hb, hml, hown, hts⟩ (kX3_ownerOf_0_0 l D ca za h hh f L Q hI H.size) (va_cwS 2 hts (gw_S (fun _ h => List.mem_cons_of_mem _ h) mw_189 mw_190 mw_47 mw_188) rfl rfl rfl hd_yX3_ownerOf.2 ⟨Nat.le_of_ble_eq_true rfl, Nat.le_of_ble_eq_true rfl⟩) (sg_preS hA hK hP hS hZ) rfl rfl hl.1 rfl (lv_room (Nat.le_of_ble_eq_true rfl)) dX3_does_2 ⟨Nat.le_refl _, Nat.le_refl _⟩) hA hS (fun r_31 f_28 L_29 Q_30 H locs hq hP hS => ?_)
  obtain ⟨⟨ef9, eL9, eQ9⟩, hq, u_32⟩ := hq
  rw [ef9, eL9, eQ9] at hP; clear ef9 eL9 eQ9
  obtain rfl : r_31 = 0 := Int32.toInt_inj.mp (by have k9 : (0 : Int32).toInt = 0 := ti_0; omega)
  refine lv_istore (lv' := [(5, .int 0), (0, .ref (h 36)), (1, .int 0), (2, .int 0), (3, .int x2), (4, .int 2)]) hx hb dX3_does_5 hl (by decide) rfl (fun ls hl => ?_)
  refine lv_iload hx hb dX3_does_7 (lv_at hl 0 rfl) ?_
  refine lv_if_lt (tgt := 19) hx hb dX3_does_9 (by decide) (fun c => absurd c (by decide)) (fun c => ?_)
  refine lv_iload hx hb dX3_does_12 (lv_at hl 5 rfl) ?_
  refine lv_bipush (v := 40) hx hb dX3_does_14 bp_40 ?_
  refine lv_icmp_le (tgt := 21) hx hb dX3_does_16 (by decide) (fun c => ?_) (fun c => absurd c (by decide))
  refine sg_gets hx hb hZ 3 rfl hS hown (hts _ (List.mem_cons_of_mem _ mw_173)) (fun _ h9 => h9) dX3_does_21 ?_
  refine lv_iload hx hb dX3_does_24 (lv_at hl 0 rfl) ?_
  refine lv_iconst (v := 4) hx hb dX3_does_26 ic_4 ?_
  refine lv_imul hx hb dX3_does_27 ?_
  refine W.eq (g2 := F0 m 28 ls [.int 0, .ref (za 3)]) (by rw [show (0 * 4 : Int32) = 0 from by decide]) ?_
  refine lv_iload_n hx hb dX3_does_28 rfl (lv_at hl 3 rfl) ?_
  refine lv_iadd hx hb dX3_does_29 ?_
  refine W.eq (g2 := F0 m 30 ls [.int 0, .ref (za 3)]) (by rw [show (0 + 0 : Int32) = 0 from by decide]) ?_
  refine sg_sald hx hb hZ 3 rfl hS (y := 0) (N := 32) (vp_in_iff.mpr (by decide)) dX3_does_30 ?_
  refine W.eq (g2 := F0 m 31 ls [.int 1]) (by rfl) ?_
  refine lv_istore (lv' := [(6, .int 1), (5, .int 0), (0, .ref (h 36)), (1, .int 0), (2, .int 0), (3, .int x2), (4, .int 2)]) hx hb dX3_does_31 hl (by decide) rfl (fun ls hl => ?_)
  refine lv_aload_n hx hb dX3_does_33 rfl (lv_at hl 2 rfl) ?_
  refine sl_gX_36_3_3 (v := 2) hx hb hts hown hK hP (show f 36 3 = 2 from hf_36_3) dX3_does_34 ?_
  refine lv_bipush (v := 24) hx hb dX3_does_37 bp_24 ?_
  refine lv_icmp_ge (tgt := 53) hx hb dX3_does_39 (by decide) (fun c => absurd c (by decide)) (fun c => ?_)
  refine lv_aload_n hx hb dX3_does_42 rfl (lv_at hl 2 rfl) ?_
  refine sl_gX_36_1_3 hx hb hts hown hK hP dX3_does_43 ?_
  refine lv_aload_n hx hb dX3_does_46 rfl (lv_at hl 2 rfl) ?_
  refine sl_gX_36_3_3 (v := 2) hx hb hts hown hK hP (show f 36 3 = 2 from hf_36_3) dX3_does_47 ?_
  refine lv_iload hx hb dX3_does_50 (lv_at hl 0 rfl) ?_
  refine sg_iast hx hb hh hA hK hP hS 38 (by decide) 0 (fun _ => rfl) rfl (i := 2) (x := 1) (vp_in_iff.mpr (by decide)) dX3_does_52 (fun f_33 H locs ef_33 hP hS => ?_)
  have ef_33 : f_33 = sg_up f 38 (sgu (f 38) 2 1) := ef_33
  have hI : sgI loX hiX f_33 := by rw [ef_33]; exact sgI.put hI 38 2 (show 0 ≤ (1 : Int32).toInt ∧ (1 : Int32).toInt ≤ 81 from by decide)
  have hF : sgK WkX3_does_0_0_2_f2_f6 f f_33 := sgK.put hF ef_33 (by rfl)
  exact blk_53 f_33 _ _ _ (hs.trans ((spl_e u_32 (spl_e ef_33 rfl)))) (by have zz36_3 : (f_33 36 3).toInt = 2 := (congrArg Int32.toInt (show f_33 36 3 = 2 from (by rw [ef_33, sg_up_n (by decide)]; exact hf_36_3))).trans (by decide); exact ⟨by omega, by omega⟩) (by have zz36_4 : (f_33 36 4).toInt = 6 := (congrArg Int32.toInt (show f_33 36 4 = 6 from (by rw [ef_33, sg_up_n (by decide)]; exact hf_36_4))).trans (by decide); exact ⟨by omega, by omega⟩) hI hF hP hS (lv_sub hl [2, 5, 6, 1, 0] rfl)

abbrev WkX3_runs_70_0_2_f2_f6 : List (Nat × Nat × Option Nat) := [(36, 36, some 3), (38, 38, some 2)]
set_option maxHeartbeats 4000000 in
set_option maxRecDepth 100000 in
theorem kX3_runs_70_0_2_f2_f6 (l : Launch) (D : va_G) (ca : Nat → ClassId) (za h : Nat → Nat) (hh : sgH 52 h) (f : sg_F) (L : sg_L) (Q : sg_Q) (hI : sgI loX hiX f) (x2 : Int32) (hf_36_3 : f 36 3 = 2) (hf_36_4 : f 36 4 = 6) (p0 : 2 ≤ (f 36 3).toInt ∧ (f 36 3).toInt ≤ 2) (sz : Nat) : Met l yX3_runs gwX3_runs { frames := 2, cells := 0, slots := 0, locals := 50 } (sgP D vwCl (tyX ca) 52 h (eX ca h) zcX za f L Q sz [.ref (h 36), .int 70, .int 0, .int x2, .int 2]) (sgQi D vwCl 52 h (eX ca h) sz (fun r f1 L1 Q1 => ((sgI loX hiX f1 ∧ sgK WkX3_runs_70_0_2_f2_f6 f f1 ∧ L1 = L ∧ Q1 = Q) ∧ True ∧ (3 ≤ (f1 36 3).toInt ∧ (f1 36 3).toInt ≤ 3) ∧ (r, f1) = sX3_runs_70_0_2_f2_f6 x2 f L))) 0 0 (sgA 52 h sz) := by
  refine sg_ofWi (cc := cX3_runs) (maxL := 5) RX3 (by decide) rfl rfl (Nat.le_of_ble_eq_true rfl) ?_
  intro p e s m below meth cd Qz ls hx hb hml hown hts hK hZ hP hS hl hret
  have hA := sgY.self (n := 52) (h := h) (sz := s.heap.size)
  have hl : lv_has ls 5 [(0, .ref (h 36)), (1, .int 70), (2, .int 0), (3, .int x2), (4, .int 2)] := hl
  obtain ⟨H, hH⟩ : ∃ z : Heap, z = s.heap := ⟨_, rfl⟩
  obtain ⟨locs, hlo⟩ : ∃ z : List Loc, z = [] := ⟨_, rfl⟩
  have hP : va_P D vwCl (sgw 52 h (eX ca h) f L Q) H := by rw [hH]; exact hP
  have hS : va_S (sgA 52 h s.heap.size) s.heap H locs := by rw [hH, hlo]; exact hS
  suffices hgo : W p l e ({ frames := 2, cells := 0, slots := 0, locals := 50 }) s m ([.ref (h 36), .int 70, .int 0, .int x2, .int 2] : List Value).toArray below meth cd H locs 0 0 Qz (F0 m 0 ls []) by rw [hH, hlo] at hgo; exact hgo
  clear hH hlo
  obtain ⟨sp, hsp⟩ : ∃ z : Int32 × sg_F, z = sX3_runs_70_0_2_f2_f6 x2 f L := ⟨_, rfl⟩
  have hs : sp = sX3_runs_70_0_2_f2_f6 x2 f L := hsp
  have o_1 : (f 36 3).toInt = 2 := (congrArg Int32.toInt (show f 36 3 = 2 from hf_36_3)).trans (by decide)
  have hF : sgK WkX3_runs_70_0_2_f2_f6 f f := sgK.rf
  refine lv_iload_n hx hb dX3_runs_0 rfl (lv_at hl 1 rfl) ?_
  refine lv_lookup (x := 70) (off := 252) (tgt := 253) hx hb dX3_runs_1 (by decide) (by decide) (by decide) ?_
  refine lv_aload_n hx hb dX3_runs_253 rfl (lv_at hl 0 rfl) ?_
  refine lv_iload_n hx hb dX3_runs_254 rfl (lv_at hl 2 rfl) ?_
  refine lv_iconst (v := 0) hx hb dX3_runs_255 ic_0 ?_
  refine lv_iload_n hx hb dX3_runs_256 rfl (lv_at hl 3 rfl) ?_
  refine lv_iload hx hb dX3_runs_257 (lv_at hl 4 rfl) ?_
  have q_2 : (f 36 3).toInt = 2 := (congrArg Int32.toInt (show f 36 3 = 2 from hf_36_3)).trans (by decide)
  refine sg_calli (va_runV (As := [.int 0, .int 0, .int x2, .int 2]) (rest := []) ⟨hx, hb, hml, hown, hts⟩ (kX3_does_0_0_2_f2_f6 l D ca za h hh f L Q hI x2 hf_36_3 hf_36_4 (by have k0 : (0 : Int32).toInt = 0 := ti_0; have k1 : (0 : Int32).toInt = 0 := ti_0; have k3 : (2 : Int32).toInt = 2 := ti_2; omega) H.size) (sl_c3_does_1_0_0_24_3 hts ⟨Nat.le_of_ble_eq_true rfl, Nat.le_of_ble_eq_true rfl⟩) (sl_vX_36 hA hK hP hS hZ) rfl rfl hl.1 rfl (lv_room (Nat.le_of_ble_eq_true rfl)) dX3_runs_259 ⟨Nat.le_refl _, Nat.le_refl _⟩) hA hS (fun r_7 f_4 L_5 Q_6 H locs hq hP hS => ?_)
  obtain ⟨⟨hI, hk_f_4, eL9, eQ9⟩, hq, p_8, u_9⟩ := hq
  rw [eL9, eQ9] at hP; clear eL9 eQ9
  have hF : sgK WkX3_runs_70_0_2_f2_f6 f f_4 := sgK.tr hF hk_f_4 (by decide +kernel)
  obtain ⟨v_10, ev_10⟩ : ∃ z : Int32, z = f_4 36 3 := ⟨_, rfl⟩
  have q_11 : 0 ≤ v_10.toInt ∧ v_10.toInt ≤ 19 := by rw [ev_10]; exact hI 36 3
  have q_12 : (f_4 36 3).toInt = v_10.toInt := (congrArg Int32.toInt (show f_4 36 3 = v_10 from ev_10.symm))
  have k_14 : (0 : Int32).toInt = 0 := by decide
  have k_15 : (0 : Int32).toInt = 0 := by decide
  have k_16 : (2 : Int32).toInt = 2 := by decide
  refine lv_iconst (v := 2) hx hb dX3_runs_262 ic_2 ?_
  refine lv_imul hx hb dX3_runs_263 ?_
  refine lv_topi (fun v_17 ev_17 => ?_)
  exact hret _ _ _ _ (v_17) f_4 L Q dX3_runs_264 hP hS ⟨⟨hI, hF, rfl, rfl⟩, trivial, ⟨by omega, by omega⟩, (Eq.trans (Eq.symm (hs.trans ((spl2_e u_9 (spl_e ev_10 (spl_e ev_17 rfl)))))) hsp)⟩

abbrev WkX3_does_6_0_1_f1_f6 : List (Nat × Nat × Option Nat) := [(36, 36, some 3), (38, 38, some 1), (38, 38, some 2)]
set_option maxHeartbeats 4000000 in
set_option maxRecDepth 100000 in
theorem kX3_does_6_0_1_f1_f6 (l : Launch) (D : va_G) (ca : Nat → ClassId) (za h : Nat → Nat) (hh : sgH 52 h) (f : sg_F) (L : sg_L) (Q : sg_Q) (hI : sgI loX hiX f) (x2 : Int32) (hf_36_3 : f 36 3 = 1) (hf_36_4 : f 36 4 = 6) (p0 : 1 ≤ (f 36 3).toInt ∧ (f 36 3).toInt ≤ 1) (sz : Nat) : Met l yX3_does gwX3_does { frames := 3, cells := 0, slots := 0, locals := 74 } (sgP D vwCl (tyX ca) 52 h (eX ca h) zcX za f L Q sz [.ref (h 36), .int 6, .int 0, .int x2, .int 1]) (sgQi D vwCl 52 h (eX ca h) sz (fun r f1 L1 Q1 => ((sgI loX hiX f1 ∧ sgK WkX3_does_6_0_1_f1_f6 f f1 ∧ L1 = L ∧ Q1 = Q) ∧ True ∧ (3 ≤ (f1 36 3).toInt ∧ (f1 36 3).toInt ≤ 3) ∧ (r, f1) = sX3_does_6_0_1_f1_f6 x2 f L))) 0 0 (sgA 52 h sz) := by
  refine sg_ofWi (cc := cX3_does) (maxL := 7) RX3 (by decide) rfl rfl (Nat.le_of_ble_eq_true rfl) ?_
  intro p e s m below meth cd Qz ls hx hb hml hown hts hK hZ hP hS hl hret
  have hA := sgY.self (n := 52) (h := h) (sz := s.heap.size)
  have hl : lv_has ls 7 [(0, .ref (h 36)), (1, .int 6), (2, .int 0), (3, .int x2), (4, .int 1)] := hl
  obtain ⟨H, hH⟩ : ∃ z : Heap, z = s.heap := ⟨_, rfl⟩
  obtain ⟨locs, hlo⟩ : ∃ z : List Loc, z = [] := ⟨_, rfl⟩
  have hP : va_P D vwCl (sgw 52 h (eX ca h) f L Q) H := by rw [hH]; exact hP
  have hS : va_S (sgA 52 h s.heap.size) s.heap H locs := by rw [hH, hlo]; exact hS
  suffices hgo : W p l e ({ frames := 3, cells := 0, slots := 0, locals := 74 }) s m ([.ref (h 36), .int 6, .int 0, .int x2, .int 1] : List Value).toArray below meth cd H locs 0 0 Qz (F0 m 0 ls []) by rw [hH, hlo] at hgo; exact hgo
  clear hH hlo
  obtain ⟨sp, hsp⟩ : ∃ z : Int32 × sg_F, z = sX3_does_6_0_1_f1_f6 x2 f L := ⟨_, rfl⟩
  have hs : sp = sX3_does_6_0_1_f1_f6 x2 f L := hsp
  have o_1 : (f 36 3).toInt = 1 := (congrArg Int32.toInt (show f 36 3 = 1 from hf_36_3)).trans (by decide)
  have hF : sgK WkX3_does_6_0_1_f1_f6 f f := sgK.rf
  have blk_53 : ∀ (fp_53 : sg_F) (H : Heap) (locs : List Loc) (ls : Array Slot), sp = sX3_does_6_0_1_f1_f6_b53 x2 fp_53 L → 1 ≤ (fp_53 36 3).toInt ∧ (fp_53 36 3).toInt ≤ 1 → 6 ≤ (fp_53 36 4).toInt ∧ (fp_53 36 4).toInt ≤ 6 → sgI loX hiX fp_53 → sgK WkX3_does_6_0_1_f1_f6 f fp_53 → va_P D vwCl (sgw 52 h (eX ca h) fp_53 L Q) H → va_S (sgA 52 h s.heap.size) s.heap H locs → lv_has ls 7 [(0, .ref (h 36)), (3, .int x2), (4, .int 1), (5, .int 6), (6, .int 70)] → W p l e ({ frames := 3, cells := 0, slots := 0, locals := 74 }) s m ([.ref (h 36), .int 6, .int 0, .int x2, .int 1] : List Value).toArray below meth cd H locs 0 0 Qz (F0 m 53 ls []) := by
    intro fp_53 H locs ls hs hy0_53 hy1_53 hI hF hP hS hl
    obtain ⟨v_2, ev_2⟩ : ∃ z : Int32, z = fp_53 36 3 := ⟨_, rfl⟩
    have q_3 : 0 ≤ v_2.toInt ∧ v_2.toInt ≤ 19 := by rw [ev_2]; exact hI 36 3
    have q_4 : (fp_53 36 3).toInt = v_2.toInt := by rw [ev_2]
    obtain ⟨v_5, ev_5⟩ : ∃ z : Int32, z = fp_53 36 4 := ⟨_, rfl⟩
    have q_6 : 0 ≤ v_5.toInt ∧ v_5.toInt ≤ 7 := by rw [ev_5]; exact hI 36 4
    have q_7 : (fp_53 36 4).toInt = v_5.toInt := by rw [ev_5]
    have m_8 : fp_53 36 4 = 6 := (hF 36 4 (by decide)).trans hf_36_4
    refine lv_aload_n hx hb dX3_does_53 rfl (lv_at hl 0 rfl) ?_
    refine lv_dup hx hb dX3_does_54 rfl ?_
    refine sl_gX_36_3_3 (v := v_2) hx hb hts hown hK hP (show fp_53 36 3 = v_2 from ev_2.symm) dX3_does_55 ?_
    refine lv_iconst (v := 1) hx hb dX3_does_58 ic_1 ?_
    refine lv_iadd hx hb dX3_does_59 ?_
    refine lv_topi (fun v_9 ev_9 => ?_)
    have q_10 : v_9.toInt = v_2.toInt + 1 := by rw [ev_9]; first | exact cm_add ti_1 (by omega) (by omega) | (have k1 : (1 : Int32).toInt = 1 := ti_1; exact (bn_addI (by omega) (by omega)).trans (by omega))
    refine sl_pX_36_3_3 (x := v_9) hx hb hts hown hh hA hK hP hS dX3_does_60 (fun f_11 H locs ef_11 hP hS => ?_)
    have hI : sgI loX hiX f_11 := by rw [ef_11]; exact sgI.put hI 36 3 (show 0 ≤ (v_9 : Int32).toInt ∧ (v_9 : Int32).toInt ≤ 19 from ⟨by omega, by omega⟩)
    have hF : sgK WkX3_does_6_0_1_f1_f6 f f_11 := sgK.put hF ef_11 (by rfl)
    refine lv_aload_n hx hb dX3_does_63 rfl (lv_at hl 0 rfl) ?_
    refine lv_iload hx hb dX3_does_64 (lv_at hl 4 rfl) ?_
    refine sg_gets hx hb hZ 2 rfl hS hown (hts _ (List.mem_cons_of_mem _ mw_174)) (fun _ h9 => h9) dX3_does_66 ?_
    refine lv_iload hx hb dX3_does_69 (lv_at hl 3 rfl) ?_
    refine sg_sald hx hb hZ 2 rfl hS (y := 6) (N := 8) (vp_in_iff.mpr (by decide)) dX3_does_71 ?_
    refine W.eq (g2 := F0 m 72 ls [.int 0, .int 70, .ref (h 36)]) (by rfl) ?_
    refine lv_iload_n hx hb dX3_does_72 rfl (lv_at hl 1 rfl) ?_
    refine lv_iload hx hb dX3_does_73 (lv_at hl 2 rfl) ?_
    refine lv_iconst (v := 1) hx hb dX3_does_75 ic_1 ?_
    refine lv_iadd hx hb dX3_does_76 ?_
    refine W.eq (g2 := F0 m 77 ls [.int 2, .int x2, .int 0, .int 70, .ref (h 36)]) (by rw [show (1 + 1 : Int32) = 2 from by decide]) ?_
    have c_12 : v_9 = 2 := Int32.toInt_inj.mp (by have k9 : (2 : Int32).toInt = 2 := ti_2; omega)
    have q_13 : (f_11 36 3).toInt = 2 := (congrArg Int32.toInt (show f_11 36 3 = 2 from (Eq.trans (by rw [ef_11, sg_up_s, sgu_s]) c_12))).trans (by decide)
    refine sg_calli (va_runV (As := [.int 70, .int 0, .int x2, .int 2]) (rest := []) ⟨hx, hb, hml, hown, hts⟩ (kX3_runs_70_0_2_f2_f6 l D ca za h hh f_11 L Q hI x2 (Eq.trans (by rw [ef_11, sg_up_s, sgu_s]) c_12) (by rw [ef_11, sg_up_s, sgu_n (by decide)]; exact m_8) (by have k0 : (70 : Int32).toInt = 70 := ti_70; have k1 : (0 : Int32).toInt = 0 := ti_0; have k3 : (2 : Int32).toInt = 2 := ti_2; omega) H.size) (sl_c3_runs_2_0_0_50_3 hts ⟨Nat.le_of_ble_eq_true rfl, Nat.le_of_ble_eq_true rfl⟩) (sl_vX_36 hA hK hP hS hZ) rfl rfl hl.1 rfl (lv_room (Nat.le_of_ble_eq_true rfl)) dX3_does_77 ⟨Nat.le_refl _, Nat.le_refl _⟩) hA hS (fun r_18 f_15 L_16 Q_17 H locs hq hP hS => ?_)
    obtain ⟨⟨hI, hk_f_15, eL9, eQ9⟩, hq, p_19, u_20⟩ := hq
    rw [eL9, eQ9] at hP; clear eL9 eQ9
    have hF : sgK WkX3_does_6_0_1_f1_f6 f f_15 := sgK.tr hF hk_f_15 (by decide +kernel)
    obtain ⟨v_21, ev_21⟩ : ∃ z : Int32, z = f_15 36 3 := ⟨_, rfl⟩
    have q_22 : 0 ≤ v_21.toInt ∧ v_21.toInt ≤ 19 := by rw [ev_21]; exact hI 36 3
    have q_23 : (f_15 36 3).toInt = v_21.toInt := (congrArg Int32.toInt (show f_15 36 3 = v_21 from ev_21.symm))
    have k_25 : (70 : Int32).toInt = 70 := by decide
    have k_26 : (0 : Int32).toInt = 0 := by decide
    have k_27 : (2 : Int32).toInt = 2 := by decide
    exact hret _ _ _ _ (r_18) f_15 L Q dX3_does_80 hP hS ⟨⟨hI, hF, rfl, rfl⟩, trivial, ⟨by omega, by omega⟩, (Eq.trans (Eq.symm (hs.trans ((spl_e ev_2 (spl_e ev_5 (spl_e ev_9 (spl_e ef_11 (spl2_e u_20 (spl_e ev_21 rfl))))))))) hsp)⟩
  refine lv_iload_n hx hb dX3_does_0 rfl (lv_at hl 1 rfl) ?_
  refine lv_iload_n hx hb dX3_does_1 rfl (lv_at hl 2 rfl) ?_
  refine sg_calli (va_runS (As := [.int 6, .int 0]) (rest := []) ⟨hx, hb, hml, hown, hts⟩ (kX3_ownerOf_6_0 l D ca za h hh f L Q hI H.size) (va_cwS 2 hts (gw_S (fun _ h => List.mem_cons_of_mem _ h) mw_189 mw_190 mw_47 mw_188) rfl rfl rfl hd_yX3_ownerOf.2 ⟨Nat.le_of_ble_eq_true rfl, Nat.le_of_ble_eq_true rfl⟩) (sg_preS hA hK hP hS hZ) rfl rfl hl.1 rfl (lv_room (Nat.le_of_ble_eq_true rfl)) dX3_does_2 ⟨Nat.le_refl _, Nat.le_refl _⟩) hA hS (fun r_33 f_30 L_31 Q_32 H locs hq hP hS => ?_)
  obtain ⟨⟨ef9, eL9, eQ9⟩, hq, u_34⟩ := hq
  rw [ef9, eL9, eQ9] at hP; clear ef9 eL9 eQ9
  obtain rfl : r_33 = 6 := Int32.toInt_inj.mp (by have k9 : (6 : Int32).toInt = 6 := ti_6; omega)
  refine lv_istore (lv' := [(5, .int 6), (0, .ref (h 36)), (1, .int 6), (2, .int 0), (3, .int x2), (4, .int 1)]) hx hb dX3_does_5 hl (by decide) rfl (fun ls hl => ?_)
  refine lv_iload hx hb dX3_does_7 (lv_at hl 0 rfl) ?_
  refine lv_if_lt (tgt := 19) hx hb dX3_does_9 (by decide) (fun c => absurd c (by decide)) (fun c => ?_)
  refine lv_iload hx hb dX3_does_12 (lv_at hl 5 rfl) ?_
  refine lv_bipush (v := 40) hx hb dX3_does_14 bp_40 ?_
  refine lv_icmp_le (tgt := 21) hx hb dX3_does_16 (by decide) (fun c => ?_) (fun c => absurd c (by decide))
  refine sg_gets hx hb hZ 3 rfl hS hown (hts _ (List.mem_cons_of_mem _ mw_173)) (fun _ h9 => h9) dX3_does_21 ?_
  refine lv_iload hx hb dX3_does_24 (lv_at hl 0 rfl) ?_
  refine lv_iconst (v := 4) hx hb dX3_does_26 ic_4 ?_
  refine lv_imul hx hb dX3_does_27 ?_
  refine W.eq (g2 := F0 m 28 ls [.int 24, .ref (za 3)]) (by rw [show (6 * 4 : Int32) = 24 from by decide]) ?_
  refine lv_iload_n hx hb dX3_does_28 rfl (lv_at hl 3 rfl) ?_
  refine lv_iadd hx hb dX3_does_29 ?_
  refine W.eq (g2 := F0 m 30 ls [.int 24, .ref (za 3)]) (by rw [show (24 + 0 : Int32) = 24 from by decide]) ?_
  refine sg_sald hx hb hZ 3 rfl hS (y := 24) (N := 32) (vp_in_iff.mpr (by decide)) dX3_does_30 ?_
  refine W.eq (g2 := F0 m 31 ls [.int 70]) (by rfl) ?_
  refine lv_istore (lv' := [(6, .int 70), (5, .int 6), (0, .ref (h 36)), (1, .int 6), (2, .int 0), (3, .int x2), (4, .int 1)]) hx hb dX3_does_31 hl (by decide) rfl (fun ls hl => ?_)
  refine lv_aload_n hx hb dX3_does_33 rfl (lv_at hl 2 rfl) ?_
  refine sl_gX_36_3_3 (v := 1) hx hb hts hown hK hP (show f 36 3 = 1 from hf_36_3) dX3_does_34 ?_
  refine lv_bipush (v := 24) hx hb dX3_does_37 bp_24 ?_
  refine lv_icmp_ge (tgt := 53) hx hb dX3_does_39 (by decide) (fun c => absurd c (by decide)) (fun c => ?_)
  refine lv_aload_n hx hb dX3_does_42 rfl (lv_at hl 2 rfl) ?_
  refine sl_gX_36_1_3 hx hb hts hown hK hP dX3_does_43 ?_
  refine lv_aload_n hx hb dX3_does_46 rfl (lv_at hl 2 rfl) ?_
  refine sl_gX_36_3_3 (v := 1) hx hb hts hown hK hP (show f 36 3 = 1 from hf_36_3) dX3_does_47 ?_
  refine lv_iload hx hb dX3_does_50 (lv_at hl 0 rfl) ?_
  refine sg_iast hx hb hh hA hK hP hS 38 (by decide) 0 (fun _ => rfl) rfl (i := 1) (x := 70) (vp_in_iff.mpr (by decide)) dX3_does_52 (fun f_35 H locs ef_35 hP hS => ?_)
  have ef_35 : f_35 = sg_up f 38 (sgu (f 38) 1 70) := ef_35
  have hI : sgI loX hiX f_35 := by rw [ef_35]; exact sgI.put hI 38 1 (show 0 ≤ (70 : Int32).toInt ∧ (70 : Int32).toInt ≤ 81 from by decide)
  have hF : sgK WkX3_does_6_0_1_f1_f6 f f_35 := sgK.put hF ef_35 (by rfl)
  exact blk_53 f_35 _ _ _ (hs.trans ((spl_e u_34 (spl_e ef_35 rfl)))) (by have zz36_3 : (f_35 36 3).toInt = 1 := (congrArg Int32.toInt (show f_35 36 3 = 1 from (by rw [ef_35, sg_up_n (by decide)]; exact hf_36_3))).trans (by decide); exact ⟨by omega, by omega⟩) (by have zz36_4 : (f_35 36 4).toInt = 6 := (congrArg Int32.toInt (show f_35 36 4 = 6 from (by rw [ef_35, sg_up_n (by decide)]; exact hf_36_4))).trans (by decide); exact ⟨by omega, by omega⟩) hI hF hP hS (lv_sub hl [2, 5, 6, 1, 0] rfl)

abbrev WkX3_runs_10_m1_1_f1_f6 : List (Nat × Nat × Option Nat) := [(36, 36, some 3), (38, 38, some 1), (38, 38, some 2)]
set_option maxHeartbeats 4000000 in
set_option maxRecDepth 100000 in
theorem kX3_runs_10_m1_1_f1_f6 (l : Launch) (D : va_G) (ca : Nat → ClassId) (za h : Nat → Nat) (hh : sgH 52 h) (f : sg_F) (L : sg_L) (Q : sg_Q) (hI : sgI loX hiX f) (x2 : Int32) (hf_36_3 : f 36 3 = 1) (hf_36_4 : f 36 4 = 6) (p0 : 1 ≤ (f 36 3).toInt ∧ (f 36 3).toInt ≤ 1) (sz : Nat) : Met l yX3_runs gwX3_runs { frames := 4, cells := 0, slots := 0, locals := 100 } (sgP D vwCl (tyX ca) 52 h (eX ca h) zcX za f L Q sz [.ref (h 36), .int 10, .int (-1), .int x2, .int 1]) (sgQi D vwCl 52 h (eX ca h) sz (fun r f1 L1 Q1 => ((sgI loX hiX f1 ∧ sgK WkX3_runs_10_m1_1_f1_f6 f f1 ∧ L1 = L ∧ Q1 = Q) ∧ True ∧ (3 ≤ (f1 36 3).toInt ∧ (f1 36 3).toInt ≤ 3) ∧ (r, f1) = sX3_runs_10_m1_1_f1_f6 x2 f L))) 0 0 (sgA 52 h sz) := by
  refine sg_ofWi (cc := cX3_runs) (maxL := 5) RX3 (by decide) rfl rfl (Nat.le_of_ble_eq_true rfl) ?_
  intro p e s m below meth cd Qz ls hx hb hml hown hts hK hZ hP hS hl hret
  have hA := sgY.self (n := 52) (h := h) (sz := s.heap.size)
  have hl : lv_has ls 5 [(0, .ref (h 36)), (1, .int 10), (2, .int (-1)), (3, .int x2), (4, .int 1)] := hl
  obtain ⟨H, hH⟩ : ∃ z : Heap, z = s.heap := ⟨_, rfl⟩
  obtain ⟨locs, hlo⟩ : ∃ z : List Loc, z = [] := ⟨_, rfl⟩
  have hP : va_P D vwCl (sgw 52 h (eX ca h) f L Q) H := by rw [hH]; exact hP
  have hS : va_S (sgA 52 h s.heap.size) s.heap H locs := by rw [hH, hlo]; exact hS
  suffices hgo : W p l e ({ frames := 4, cells := 0, slots := 0, locals := 100 }) s m ([.ref (h 36), .int 10, .int (-1), .int x2, .int 1] : List Value).toArray below meth cd H locs 0 0 Qz (F0 m 0 ls []) by rw [hH, hlo] at hgo; exact hgo
  clear hH hlo
  obtain ⟨sp, hsp⟩ : ∃ z : Int32 × sg_F, z = sX3_runs_10_m1_1_f1_f6 x2 f L := ⟨_, rfl⟩
  have hs : sp = sX3_runs_10_m1_1_f1_f6 x2 f L := hsp
  have o_1 : (f 36 3).toInt = 1 := (congrArg Int32.toInt (show f 36 3 = 1 from hf_36_3)).trans (by decide)
  have hF : sgK WkX3_runs_10_m1_1_f1_f6 f f := sgK.rf
  refine lv_iload_n hx hb dX3_runs_0 rfl (lv_at hl 1 rfl) ?_
  refine lv_lookup (x := 10) (off := 148) (tgt := 149) hx hb dX3_runs_1 (by decide) (by decide) (by decide) ?_
  refine lv_aload_n hx hb dX3_runs_149 rfl (lv_at hl 0 rfl) ?_
  refine lv_aload_n hx hb dX3_runs_150 rfl (lv_at hl 0 rfl) ?_
  refine sl_gX_36_4_3 (v := 6) hx hb hts hown hK hP (show f 36 4 = 6 from hf_36_4) dX3_runs_151 ?_
  refine lv_iconst (v := 0) hx hb dX3_runs_154 ic_0 ?_
  refine lv_iload_n hx hb dX3_runs_155 rfl (lv_at hl 3 rfl) ?_
  refine lv_iload hx hb dX3_runs_156 (lv_at hl 4 rfl) ?_
  have q_2 : (f 36 3).toInt = 1 := (congrArg Int32.toInt (show f 36 3 = 1 from hf_36_3)).trans (by decide)
  refine sg_calli (va_runV (As := [.int 6, .int 0, .int x2, .int 1]) (rest := []) ⟨hx, hb, hml, hown, hts⟩ (kX3_does_6_0_1_f1_f6 l D ca za h hh f L Q hI x2 hf_36_3 hf_36_4 (by have k0 : (6 : Int32).toInt = 6 := ti_6; have k1 : (0 : Int32).toInt = 0 := ti_0; have k3 : (1 : Int32).toInt = 1 := ti_1; omega) H.size) (sl_c3_does_3_0_0_74_3 hts ⟨Nat.le_of_ble_eq_true rfl, Nat.le_of_ble_eq_true rfl⟩) (sl_vX_36 hA hK hP hS hZ) rfl rfl hl.1 rfl (lv_room (Nat.le_of_ble_eq_true rfl)) dX3_runs_158 ⟨Nat.le_refl _, Nat.le_refl _⟩) hA hS (fun r_7 f_4 L_5 Q_6 H locs hq hP hS => ?_)
  obtain ⟨⟨hI, hk_f_4, eL9, eQ9⟩, hq, p_8, u_9⟩ := hq
  rw [eL9, eQ9] at hP; clear eL9 eQ9
  have hF : sgK WkX3_runs_10_m1_1_f1_f6 f f_4 := sgK.tr hF hk_f_4 (by decide +kernel)
  obtain ⟨v_10, ev_10⟩ : ∃ z : Int32, z = f_4 36 3 := ⟨_, rfl⟩
  have q_11 : 0 ≤ v_10.toInt ∧ v_10.toInt ≤ 19 := by rw [ev_10]; exact hI 36 3
  have q_12 : (f_4 36 3).toInt = v_10.toInt := (congrArg Int32.toInt (show f_4 36 3 = v_10 from ev_10.symm))
  have k_14 : (6 : Int32).toInt = 6 := by decide
  have k_15 : (0 : Int32).toInt = 0 := by decide
  have k_16 : (1 : Int32).toInt = 1 := by decide
  refine lv_iconst (v := 2) hx hb dX3_runs_161 ic_2 ?_
  refine lv_imul hx hb dX3_runs_162 ?_
  refine lv_topi (fun v_17 ev_17 => ?_)
  exact hret _ _ _ _ (v_17) f_4 L Q dX3_runs_163 hP hS ⟨⟨hI, hF, rfl, rfl⟩, trivial, ⟨by omega, by omega⟩, (Eq.trans (Eq.symm (hs.trans ((spl2_e u_9 (spl_e ev_10 (spl_e ev_17 rfl)))))) hsp)⟩

abbrev WkX3_does_6_1_0_f0_f6 : List (Nat × Nat × Option Nat) := [(36, 36, some 3), (38, 38, some 0), (38, 38, some 1), (38, 38, some 2)]
set_option maxHeartbeats 4000000 in
set_option maxRecDepth 100000 in
theorem kX3_does_6_1_0_f0_f6 (l : Launch) (D : va_G) (ca : Nat → ClassId) (za h : Nat → Nat) (hh : sgH 52 h) (f : sg_F) (L : sg_L) (Q : sg_Q) (hI : sgI loX hiX f) (x2 : Int32) (hf_36_3 : f 36 3 = 0) (hf_36_4 : f 36 4 = 6) (p0 : 0 ≤ (f 36 3).toInt ∧ (f 36 3).toInt ≤ 0) (sz : Nat) : Met l yX3_does gwX3_does { frames := 5, cells := 0, slots := 0, locals := 124 } (sgP D vwCl (tyX ca) 52 h (eX ca h) zcX za f L Q sz [.ref (h 36), .int 6, .int 1, .int x2, .int 0]) (sgQi D vwCl 52 h (eX ca h) sz (fun r f1 L1 Q1 => ((sgI loX hiX f1 ∧ sgK WkX3_does_6_1_0_f0_f6 f f1 ∧ L1 = L ∧ Q1 = Q) ∧ True ∧ (3 ≤ (f1 36 3).toInt ∧ (f1 36 3).toInt ≤ 3) ∧ (r, f1) = sX3_does_6_1_0_f0_f6 x2 f L))) 0 0 (sgA 52 h sz) := by
  refine sg_ofWi (cc := cX3_does) (maxL := 7) RX3 (by decide) rfl rfl (Nat.le_of_ble_eq_true rfl) ?_
  intro p e s m below meth cd Qz ls hx hb hml hown hts hK hZ hP hS hl hret
  have hA := sgY.self (n := 52) (h := h) (sz := s.heap.size)
  have hl : lv_has ls 7 [(0, .ref (h 36)), (1, .int 6), (2, .int 1), (3, .int x2), (4, .int 0)] := hl
  obtain ⟨H, hH⟩ : ∃ z : Heap, z = s.heap := ⟨_, rfl⟩
  obtain ⟨locs, hlo⟩ : ∃ z : List Loc, z = [] := ⟨_, rfl⟩
  have hP : va_P D vwCl (sgw 52 h (eX ca h) f L Q) H := by rw [hH]; exact hP
  have hS : va_S (sgA 52 h s.heap.size) s.heap H locs := by rw [hH, hlo]; exact hS
  suffices hgo : W p l e ({ frames := 5, cells := 0, slots := 0, locals := 124 }) s m ([.ref (h 36), .int 6, .int 1, .int x2, .int 0] : List Value).toArray below meth cd H locs 0 0 Qz (F0 m 0 ls []) by rw [hH, hlo] at hgo; exact hgo
  clear hH hlo
  obtain ⟨sp, hsp⟩ : ∃ z : Int32 × sg_F, z = sX3_does_6_1_0_f0_f6 x2 f L := ⟨_, rfl⟩
  have hs : sp = sX3_does_6_1_0_f0_f6 x2 f L := hsp
  have o_1 : (f 36 3).toInt = 0 := (congrArg Int32.toInt (show f 36 3 = 0 from hf_36_3)).trans (by decide)
  have hF : sgK WkX3_does_6_1_0_f0_f6 f f := sgK.rf
  have blk_53 : ∀ (fp_53 : sg_F) (H : Heap) (locs : List Loc) (ls : Array Slot), sp = sX3_does_6_1_0_f0_f6_b53 x2 fp_53 L → 0 ≤ (fp_53 36 3).toInt ∧ (fp_53 36 3).toInt ≤ 0 → 6 ≤ (fp_53 36 4).toInt ∧ (fp_53 36 4).toInt ≤ 6 → sgI loX hiX fp_53 → sgK WkX3_does_6_1_0_f0_f6 f fp_53 → va_P D vwCl (sgw 52 h (eX ca h) fp_53 L Q) H → va_S (sgA 52 h s.heap.size) s.heap H locs → lv_has ls 7 [(0, .ref (h 36)), (3, .int x2), (4, .int 0), (5, .int 0), (6, .int 10)] → W p l e ({ frames := 5, cells := 0, slots := 0, locals := 124 }) s m ([.ref (h 36), .int 6, .int 1, .int x2, .int 0] : List Value).toArray below meth cd H locs 0 0 Qz (F0 m 53 ls []) := by
    intro fp_53 H locs ls hs hy0_53 hy1_53 hI hF hP hS hl
    obtain ⟨v_2, ev_2⟩ : ∃ z : Int32, z = fp_53 36 3 := ⟨_, rfl⟩
    have q_3 : 0 ≤ v_2.toInt ∧ v_2.toInt ≤ 19 := by rw [ev_2]; exact hI 36 3
    have q_4 : (fp_53 36 3).toInt = v_2.toInt := by rw [ev_2]
    obtain ⟨v_5, ev_5⟩ : ∃ z : Int32, z = fp_53 36 4 := ⟨_, rfl⟩
    have q_6 : 0 ≤ v_5.toInt ∧ v_5.toInt ≤ 7 := by rw [ev_5]; exact hI 36 4
    have q_7 : (fp_53 36 4).toInt = v_5.toInt := by rw [ev_5]
    have m_8 : fp_53 36 4 = 6 := (hF 36 4 (by decide)).trans hf_36_4
    refine lv_aload_n hx hb dX3_does_53 rfl (lv_at hl 0 rfl) ?_
    refine lv_dup hx hb dX3_does_54 rfl ?_
    refine sl_gX_36_3_3 (v := v_2) hx hb hts hown hK hP (show fp_53 36 3 = v_2 from ev_2.symm) dX3_does_55 ?_
    refine lv_iconst (v := 1) hx hb dX3_does_58 ic_1 ?_
    refine lv_iadd hx hb dX3_does_59 ?_
    refine lv_topi (fun v_9 ev_9 => ?_)
    have q_10 : v_9.toInt = v_2.toInt + 1 := by rw [ev_9]; first | exact cm_add ti_1 (by omega) (by omega) | (have k1 : (1 : Int32).toInt = 1 := ti_1; exact (bn_addI (by omega) (by omega)).trans (by omega))
    refine sl_pX_36_3_3 (x := v_9) hx hb hts hown hh hA hK hP hS dX3_does_60 (fun f_11 H locs ef_11 hP hS => ?_)
    have hI : sgI loX hiX f_11 := by rw [ef_11]; exact sgI.put hI 36 3 (show 0 ≤ (v_9 : Int32).toInt ∧ (v_9 : Int32).toInt ≤ 19 from ⟨by omega, by omega⟩)
    have hF : sgK WkX3_does_6_1_0_f0_f6 f f_11 := sgK.put hF ef_11 (by rfl)
    refine lv_aload_n hx hb dX3_does_63 rfl (lv_at hl 0 rfl) ?_
    refine lv_iload hx hb dX3_does_64 (lv_at hl 4 rfl) ?_
    refine sg_gets hx hb hZ 2 rfl hS hown (hts _ (List.mem_cons_of_mem _ mw_174)) (fun _ h9 => h9) dX3_does_66 ?_
    refine lv_iload hx hb dX3_does_69 (lv_at hl 3 rfl) ?_
    refine sg_sald hx hb hZ 2 rfl hS (y := 0) (N := 8) (vp_in_iff.mpr (by decide)) dX3_does_71 ?_
    refine W.eq (g2 := F0 m 72 ls [.int (-1), .int 10, .ref (h 36)]) (by rfl) ?_
    refine lv_iload_n hx hb dX3_does_72 rfl (lv_at hl 1 rfl) ?_
    refine lv_iload hx hb dX3_does_73 (lv_at hl 2 rfl) ?_
    refine lv_iconst (v := 1) hx hb dX3_does_75 ic_1 ?_
    refine lv_iadd hx hb dX3_does_76 ?_
    refine W.eq (g2 := F0 m 77 ls [.int 1, .int x2, .int (-1), .int 10, .ref (h 36)]) (by rw [show (0 + 1 : Int32) = 1 from by decide]) ?_
    have c_12 : v_9 = 1 := Int32.toInt_inj.mp (by have k9 : (1 : Int32).toInt = 1 := ti_1; omega)
    have q_13 : (f_11 36 3).toInt = 1 := (congrArg Int32.toInt (show f_11 36 3 = 1 from (Eq.trans (by rw [ef_11, sg_up_s, sgu_s]) c_12))).trans (by decide)
    refine sg_calli (va_runV (As := [.int 10, .int (-1), .int x2, .int 1]) (rest := []) ⟨hx, hb, hml, hown, hts⟩ (kX3_runs_10_m1_1_f1_f6 l D ca za h hh f_11 L Q hI x2 (Eq.trans (by rw [ef_11, sg_up_s, sgu_s]) c_12) (by rw [ef_11, sg_up_s, sgu_n (by decide)]; exact m_8) (by have k0 : (10 : Int32).toInt = 10 := ti_10; have k1 : ((-1) : Int32).toInt = (-1) := ti_m1; have k3 : (1 : Int32).toInt = 1 := ti_1; omega) H.size) (sl_c3_runs_4_0_0_100_3 hts ⟨Nat.le_of_ble_eq_true rfl, Nat.le_of_ble_eq_true rfl⟩) (sl_vX_36 hA hK hP hS hZ) rfl rfl hl.1 rfl (lv_room (Nat.le_of_ble_eq_true rfl)) dX3_does_77 ⟨Nat.le_refl _, Nat.le_refl _⟩) hA hS (fun r_18 f_15 L_16 Q_17 H locs hq hP hS => ?_)
    obtain ⟨⟨hI, hk_f_15, eL9, eQ9⟩, hq, p_19, u_20⟩ := hq
    rw [eL9, eQ9] at hP; clear eL9 eQ9
    have hF : sgK WkX3_does_6_1_0_f0_f6 f f_15 := sgK.tr hF hk_f_15 (by decide +kernel)
    obtain ⟨v_21, ev_21⟩ : ∃ z : Int32, z = f_15 36 3 := ⟨_, rfl⟩
    have q_22 : 0 ≤ v_21.toInt ∧ v_21.toInt ≤ 19 := by rw [ev_21]; exact hI 36 3
    have q_23 : (f_15 36 3).toInt = v_21.toInt := (congrArg Int32.toInt (show f_15 36 3 = v_21 from ev_21.symm))
    have k_25 : (10 : Int32).toInt = 10 := by decide
    have k_26 : ((-1) : Int32).toInt = (-1) := by decide
    have k_27 : (1 : Int32).toInt = 1 := by decide
    exact hret _ _ _ _ (r_18) f_15 L Q dX3_does_80 hP hS ⟨⟨hI, hF, rfl, rfl⟩, trivial, ⟨by omega, by omega⟩, (Eq.trans (Eq.symm (hs.trans ((spl_e ev_2 (spl_e ev_5 (spl_e ev_9 (spl_e ef_11 (spl2_e u_20 (spl_e ev_21 rfl))))))))) hsp)⟩
  refine lv_iload_n hx hb dX3_does_0 rfl (lv_at hl 1 rfl) ?_
  refine lv_iload_n hx hb dX3_does_1 rfl (lv_at hl 2 rfl) ?_
  refine sg_calli (va_runS (As := [.int 6, .int 1]) (rest := []) ⟨hx, hb, hml, hown, hts⟩ (kX3_ownerOf_6_1 l D ca za h hh f L Q hI H.size) (va_cwS 2 hts (gw_S (fun _ h => List.mem_cons_of_mem _ h) mw_189 mw_190 mw_47 mw_188) rfl rfl rfl hd_yX3_ownerOf.2 ⟨Nat.le_of_ble_eq_true rfl, Nat.le_of_ble_eq_true rfl⟩) (sg_preS hA hK hP hS hZ) rfl rfl hl.1 rfl (lv_room (Nat.le_of_ble_eq_true rfl)) dX3_does_2 ⟨Nat.le_refl _, Nat.le_refl _⟩) hA hS (fun r_33 f_30 L_31 Q_32 H locs hq hP hS => ?_)
  obtain ⟨⟨ef9, eL9, eQ9⟩, hq, u_34⟩ := hq
  rw [ef9, eL9, eQ9] at hP; clear ef9 eL9 eQ9
  obtain rfl : r_33 = 0 := Int32.toInt_inj.mp (by have k9 : (0 : Int32).toInt = 0 := ti_0; omega)
  refine lv_istore (lv' := [(5, .int 0), (0, .ref (h 36)), (1, .int 6), (2, .int 1), (3, .int x2), (4, .int 0)]) hx hb dX3_does_5 hl (by decide) rfl (fun ls hl => ?_)
  refine lv_iload hx hb dX3_does_7 (lv_at hl 0 rfl) ?_
  refine lv_if_lt (tgt := 19) hx hb dX3_does_9 (by decide) (fun c => absurd c (by decide)) (fun c => ?_)
  refine lv_iload hx hb dX3_does_12 (lv_at hl 5 rfl) ?_
  refine lv_bipush (v := 40) hx hb dX3_does_14 bp_40 ?_
  refine lv_icmp_le (tgt := 21) hx hb dX3_does_16 (by decide) (fun c => ?_) (fun c => absurd c (by decide))
  refine sg_gets hx hb hZ 3 rfl hS hown (hts _ (List.mem_cons_of_mem _ mw_173)) (fun _ h9 => h9) dX3_does_21 ?_
  refine lv_iload hx hb dX3_does_24 (lv_at hl 0 rfl) ?_
  refine lv_iconst (v := 4) hx hb dX3_does_26 ic_4 ?_
  refine lv_imul hx hb dX3_does_27 ?_
  refine W.eq (g2 := F0 m 28 ls [.int 0, .ref (za 3)]) (by rw [show (0 * 4 : Int32) = 0 from by decide]) ?_
  refine lv_iload_n hx hb dX3_does_28 rfl (lv_at hl 3 rfl) ?_
  refine lv_iadd hx hb dX3_does_29 ?_
  refine W.eq (g2 := F0 m 30 ls [.int 1, .ref (za 3)]) (by rw [show (0 + 1 : Int32) = 1 from by decide]) ?_
  refine sg_sald hx hb hZ 3 rfl hS (y := 1) (N := 32) (vp_in_iff.mpr (by decide)) dX3_does_30 ?_
  refine W.eq (g2 := F0 m 31 ls [.int 10]) (by rfl) ?_
  refine lv_istore (lv' := [(6, .int 10), (5, .int 0), (0, .ref (h 36)), (1, .int 6), (2, .int 1), (3, .int x2), (4, .int 0)]) hx hb dX3_does_31 hl (by decide) rfl (fun ls hl => ?_)
  refine lv_aload_n hx hb dX3_does_33 rfl (lv_at hl 2 rfl) ?_
  refine sl_gX_36_3_3 (v := 0) hx hb hts hown hK hP (show f 36 3 = 0 from hf_36_3) dX3_does_34 ?_
  refine lv_bipush (v := 24) hx hb dX3_does_37 bp_24 ?_
  refine lv_icmp_ge (tgt := 53) hx hb dX3_does_39 (by decide) (fun c => absurd c (by decide)) (fun c => ?_)
  refine lv_aload_n hx hb dX3_does_42 rfl (lv_at hl 2 rfl) ?_
  refine sl_gX_36_1_3 hx hb hts hown hK hP dX3_does_43 ?_
  refine lv_aload_n hx hb dX3_does_46 rfl (lv_at hl 2 rfl) ?_
  refine sl_gX_36_3_3 (v := 0) hx hb hts hown hK hP (show f 36 3 = 0 from hf_36_3) dX3_does_47 ?_
  refine lv_iload hx hb dX3_does_50 (lv_at hl 0 rfl) ?_
  refine sg_iast hx hb hh hA hK hP hS 38 (by decide) 0 (fun _ => rfl) rfl (i := 0) (x := 10) (vp_in_iff.mpr (by decide)) dX3_does_52 (fun f_35 H locs ef_35 hP hS => ?_)
  have ef_35 : f_35 = sg_up f 38 (sgu (f 38) 0 10) := ef_35
  have hI : sgI loX hiX f_35 := by rw [ef_35]; exact sgI.put hI 38 0 (show 0 ≤ (10 : Int32).toInt ∧ (10 : Int32).toInt ≤ 81 from by decide)
  have hF : sgK WkX3_does_6_1_0_f0_f6 f f_35 := sgK.put hF ef_35 (by rfl)
  exact blk_53 f_35 _ _ _ (hs.trans ((spl_e u_34 (spl_e ef_35 rfl)))) (by have zz36_3 : (f_35 36 3).toInt = 0 := (congrArg Int32.toInt (show f_35 36 3 = 0 from (by rw [ef_35, sg_up_n (by decide)]; exact hf_36_3))).trans (by decide); exact ⟨by omega, by omega⟩) (by have zz36_4 : (f_35 36 4).toInt = 6 := (congrArg Int32.toInt (show f_35 36 4 = 6 from (by rw [ef_35, sg_up_n (by decide)]; exact hf_36_4))).trans (by decide); exact ⟨by omega, by omega⟩) hI hF hP hS (lv_sub hl [2, 5, 6, 1, 0] rfl)

set_option maxHeartbeats 4000000 in
set_option maxRecDepth 100000 in
theorem kX3_ownerOf_7_1 (l : Launch) (D : va_G) (ca : Nat → ClassId) (za h : Nat → Nat) (hh : sgH 52 h) (f : sg_F) (L : sg_L) (Q : sg_Q) (hI : sgI loX hiX f) (sz : Nat) : Met l yX3_ownerOf gwX3_ownerOf { frames := 0, cells := 0, slots := 0, locals := 0 } (sgP D vwCl (tyX ca) 52 h (eX ca h) zcX za f L Q sz [.int 7, .int 1]) (sgQi D vwCl 52 h (eX ca h) sz (fun r f1 L1 Q1 => ((f1 = f ∧ L1 = L ∧ Q1 = Q) ∧ (7 ≤ r.toInt ∧ r.toInt ≤ 7) ∧ (r) = sX3_ownerOf_7_1 f L))) 0 0 (sgA 52 h sz) := by
  refine sg_ofWi (cc := cX3_ownerOf) (maxL := 4) RX3 (by decide) rfl rfl (Nat.le_of_ble_eq_true rfl) ?_
  intro p e s m below meth cd Qz ls hx hb hml hown hts hK hZ hP hS hl hret
  have hA := sgY.self (n := 52) (h := h) (sz := s.heap.size)
  have hl : lv_has ls 4 [(0, .int 7), (1, .int 1)] := hl
  obtain ⟨H, hH⟩ : ∃ z : Heap, z = s.heap := ⟨_, rfl⟩
  obtain ⟨locs, hlo⟩ : ∃ z : List Loc, z = [] := ⟨_, rfl⟩
  have hP : va_P D vwCl (sgw 52 h (eX ca h) f L Q) H := by rw [hH]; exact hP
  have hS : va_S (sgA 52 h s.heap.size) s.heap H locs := by rw [hH, hlo]; exact hS
  suffices hgo : W p l e ({ frames := 0, cells := 0, slots := 0, locals := 0 }) s m ([.int 7, .int 1] : List Value).toArray below meth cd H locs 0 0 Qz (F0 m 0 ls []) by rw [hH, hlo] at hgo; exact hgo
  clear hH hlo
  obtain ⟨sp, hsp⟩ : ∃ z : Int32, z = sX3_ownerOf_7_1 f L := ⟨_, rfl⟩
  have hs : sp = sX3_ownerOf_7_1 f L := hsp
  refine lv_iload_n hx hb dX3_ownerOf_0 rfl (lv_at hl 0 rfl) ?_
  refine lv_istore_n (lv' := [(2, .int 7), (0, .int 7), (1, .int 1)]) hx hb dX3_ownerOf_1 rfl hl (by decide) rfl (fun ls hl => ?_)
  refine lv_iconst (v := 0) hx hb dX3_ownerOf_2 ic_0 ?_
  refine lv_istore_n (lv' := [(3, .int 0), (2, .int 7), (0, .int 7), (1, .int 1)]) hx hb dX3_ownerOf_3 rfl hl (by decide) rfl (fun ls hl => ?_)
  refine lv_iload_n hx hb dX3_ownerOf_4 rfl (lv_at hl 0 rfl) ?_
  refine lv_bipush (v := 8) hx hb dX3_ownerOf_5 bp_8 ?_
  refine lv_icmp_ge (tgt := 40) hx hb dX3_ownerOf_7 (by decide) (fun c => absurd c (by decide)) (fun c => ?_)
  refine lv_iload_n hx hb dX3_ownerOf_10 rfl (lv_at hl 1 rfl) ?_
  refine lv_if_lt (tgt := 40) hx hb dX3_ownerOf_11 (by decide) (fun c => absurd c (by decide)) (fun c => ?_)
  refine sg_gets hx hb hZ 3 rfl hS hown (hts _ (List.mem_cons_of_mem _ mw_173)) (fun _ h9 => h9) dX3_ownerOf_14 ?_
  refine lv_iload_n hx hb dX3_ownerOf_17 rfl (lv_at hl 1 rfl) ?_
  refine lv_iconst (v := 4) hx hb dX3_ownerOf_18 ic_4 ?_
  refine lv_imul hx hb dX3_ownerOf_19 ?_
  refine W.eq (g2 := F0 m 20 ls [.int 28, .ref (za 3)]) (by rw [show (7 * 4 : Int32) = 28 from by decide]) ?_
  refine lv_iload_n hx hb dX3_ownerOf_20 rfl (lv_at hl 3 rfl) ?_
  refine lv_iadd hx hb dX3_ownerOf_21 ?_
  refine W.eq (g2 := F0 m 22 ls [.int 29, .ref (za 3)]) (by rw [show (28 + 1 : Int32) = 29 from by decide]) ?_
  refine sg_sald hx hb hZ 3 rfl hS (y := 29) (N := 32) (vp_in_iff.mpr (by decide)) dX3_ownerOf_22 ?_
  refine W.eq (g2 := F0 m 23 ls [.int 80]) (by rfl) ?_
  refine lv_if_eq (tgt := 28) hx hb dX3_ownerOf_23 (by decide) (fun c => absurd c (by decide)) (fun c => ?_)
  refine lv_iload_n hx hb dX3_ownerOf_26 rfl (lv_at hl 1 rfl) ?_
  have k99 : (7 : Int32).toInt = 7 := ti_7
  exact hret _ _ _ _ (7) f L Q dX3_ownerOf_27 hP hS ⟨⟨rfl, rfl, rfl⟩, (by decide), (Eq.trans (Eq.symm hs) hsp)⟩

set_option maxHeartbeats 4000000 in
set_option maxRecDepth 100000 in
theorem kX3_runs_1_m1_4_f4_f7 (l : Launch) (D : va_G) (ca : Nat → ClassId) (za h : Nat → Nat) (hh : sgH 52 h) (f : sg_F) (L : sg_L) (Q : sg_Q) (hI : sgI loX hiX f) (x2 : Int32) (hf_36_3 : f 36 3 = 4) (hf_36_4 : f 36 4 = 7) (p0 : 4 ≤ (f 36 3).toInt ∧ (f 36 3).toInt ≤ 4) (sz : Nat) : Met l yX3_runs gwX3_runs { frames := 0, cells := 0, slots := 0, locals := 0 } (sgP D vwCl (tyX ca) 52 h (eX ca h) zcX za f L Q sz [.ref (h 36), .int 1, .int (-1), .int x2, .int 4]) (sgQi D vwCl 52 h (eX ca h) sz (fun r f1 L1 Q1 => ((f1 = f ∧ L1 = L ∧ Q1 = Q) ∧ True ∧ (4 ≤ (f1 36 3).toInt ∧ (f1 36 3).toInt ≤ 4) ∧ (r) = sX3_runs_1_m1_4_f4_f7 x2 f L))) 0 0 (sgA 52 h sz) := by
  refine sg_ofWi (cc := cX3_runs) (maxL := 5) RX3 (by decide) rfl rfl (Nat.le_of_ble_eq_true rfl) ?_
  intro p e s m below meth cd Qz ls hx hb hml hown hts hK hZ hP hS hl hret
  have hA := sgY.self (n := 52) (h := h) (sz := s.heap.size)
  have hl : lv_has ls 5 [(0, .ref (h 36)), (1, .int 1), (2, .int (-1)), (3, .int x2), (4, .int 4)] := hl
  obtain ⟨H, hH⟩ : ∃ z : Heap, z = s.heap := ⟨_, rfl⟩
  obtain ⟨locs, hlo⟩ : ∃ z : List Loc, z = [] := ⟨_, rfl⟩
  have hP : va_P D vwCl (sgw 52 h (eX ca h) f L Q) H := by rw [hH]; exact hP
  have hS : va_S (sgA 52 h s.heap.size) s.heap H locs := by rw [hH, hlo]; exact hS
  suffices hgo : W p l e ({ frames := 0, cells := 0, slots := 0, locals := 0 }) s m ([.ref (h 36), .int 1, .int (-1), .int x2, .int 4] : List Value).toArray below meth cd H locs 0 0 Qz (F0 m 0 ls []) by rw [hH, hlo] at hgo; exact hgo
  clear hH hlo
  obtain ⟨sp, hsp⟩ : ∃ z : Int32, z = sX3_runs_1_m1_4_f4_f7 x2 f L := ⟨_, rfl⟩
  have hs : sp = sX3_runs_1_m1_4_f4_f7 x2 f L := hsp
  have o_1 : (f 36 3).toInt = 4 := (congrArg Int32.toInt (show f 36 3 = 4 from hf_36_3)).trans (by decide)
  refine lv_iload_n hx hb dX3_runs_0 rfl (lv_at hl 1 rfl) ?_
  refine lv_lookup (x := 1) (off := 115) (tgt := 116) hx hb dX3_runs_1 (by decide) (by decide) (by decide) ?_
  refine lv_iload_n hx hb dX3_runs_116 rfl (lv_at hl 3 rfl) ?_
  refine lv_aload_n hx hb dX3_runs_117 rfl (lv_at hl 0 rfl) ?_
  refine sl_gX_36_5_3 (v := (f 36 5)) hx hb hts hown hK hP rfl dX3_runs_118 ?_
  refine lv_topi (fun v_2 ev_2 => ?_)
  have q_3 : 0 ≤ v_2.toInt ∧ v_2.toInt ≤ 49 := by rw [ev_2]; exact hI 36 5
  refine lv_iadd hx hb dX3_runs_121 ?_
  refine lv_topi (fun v_4 ev_4 => ?_)
  have q_5 : (f 36 3).toInt = 4 := (congrArg Int32.toInt (show f 36 3 = 4 from hf_36_3)).trans (by decide)
  exact hret _ _ _ _ (v_4) f L Q dX3_runs_122 hP hS ⟨⟨rfl, rfl, rfl⟩, trivial, ⟨by omega, by omega⟩, (Eq.trans (Eq.symm (hs.trans ((spl_e ev_2 (spl_e ev_4 rfl))))) hsp)⟩

abbrev WkX3_does_0_0_3_f3_f7 : List (Nat × Nat × Option Nat) := [(36, 36, some 3), (38, 38, some 3)]
set_option maxHeartbeats 4000000 in
set_option maxRecDepth 100000 in
theorem kX3_does_0_0_3_f3_f7 (l : Launch) (D : va_G) (ca : Nat → ClassId) (za h : Nat → Nat) (hh : sgH 52 h) (f : sg_F) (L : sg_L) (Q : sg_Q) (hI : sgI loX hiX f) (x2 : Int32) (hf_36_3 : f 36 3 = 3) (hf_36_4 : f 36 4 = 7) (p0 : 3 ≤ (f 36 3).toInt ∧ (f 36 3).toInt ≤ 3) (sz : Nat) : Met l yX3_does gwX3_does { frames := 1, cells := 0, slots := 0, locals := 24 } (sgP D vwCl (tyX ca) 52 h (eX ca h) zcX za f L Q sz [.ref (h 36), .int 0, .int 0, .int x2, .int 3]) (sgQi D vwCl 52 h (eX ca h) sz (fun r f1 L1 Q1 => ((sgI loX hiX f1 ∧ sgK WkX3_does_0_0_3_f3_f7 f f1 ∧ L1 = L ∧ Q1 = Q) ∧ True ∧ (4 ≤ (f1 36 3).toInt ∧ (f1 36 3).toInt ≤ 4) ∧ (r, f1) = sX3_does_0_0_3_f3_f7 x2 f L))) 0 0 (sgA 52 h sz) := by
  refine sg_ofWi (cc := cX3_does) (maxL := 7) RX3 (by decide) rfl rfl (Nat.le_of_ble_eq_true rfl) ?_
  intro p e s m below meth cd Qz ls hx hb hml hown hts hK hZ hP hS hl hret
  have hA := sgY.self (n := 52) (h := h) (sz := s.heap.size)
  have hl : lv_has ls 7 [(0, .ref (h 36)), (1, .int 0), (2, .int 0), (3, .int x2), (4, .int 3)] := hl
  obtain ⟨H, hH⟩ : ∃ z : Heap, z = s.heap := ⟨_, rfl⟩
  obtain ⟨locs, hlo⟩ : ∃ z : List Loc, z = [] := ⟨_, rfl⟩
  have hP : va_P D vwCl (sgw 52 h (eX ca h) f L Q) H := by rw [hH]; exact hP
  have hS : va_S (sgA 52 h s.heap.size) s.heap H locs := by rw [hH, hlo]; exact hS
  suffices hgo : W p l e ({ frames := 1, cells := 0, slots := 0, locals := 24 }) s m ([.ref (h 36), .int 0, .int 0, .int x2, .int 3] : List Value).toArray below meth cd H locs 0 0 Qz (F0 m 0 ls []) by rw [hH, hlo] at hgo; exact hgo
  clear hH hlo
  obtain ⟨sp, hsp⟩ : ∃ z : Int32 × sg_F, z = sX3_does_0_0_3_f3_f7 x2 f L := ⟨_, rfl⟩
  have hs : sp = sX3_does_0_0_3_f3_f7 x2 f L := hsp
  have o_1 : (f 36 3).toInt = 3 := (congrArg Int32.toInt (show f 36 3 = 3 from hf_36_3)).trans (by decide)
  have hF : sgK WkX3_does_0_0_3_f3_f7 f f := sgK.rf
  have blk_53 : ∀ (fp_53 : sg_F) (H : Heap) (locs : List Loc) (ls : Array Slot), sp = sX3_does_0_0_3_f3_f7_b53 x2 fp_53 L → 3 ≤ (fp_53 36 3).toInt ∧ (fp_53 36 3).toInt ≤ 3 → 7 ≤ (fp_53 36 4).toInt ∧ (fp_53 36 4).toInt ≤ 7 → sgI loX hiX fp_53 → sgK WkX3_does_0_0_3_f3_f7 f fp_53 → va_P D vwCl (sgw 52 h (eX ca h) fp_53 L Q) H → va_S (sgA 52 h s.heap.size) s.heap H locs → lv_has ls 7 [(0, .ref (h 36)), (3, .int x2), (4, .int 3), (5, .int 0), (6, .int 1)] → W p l e ({ frames := 1, cells := 0, slots := 0, locals := 24 }) s m ([.ref (h 36), .int 0, .int 0, .int x2, .int 3] : List Value).toArray below meth cd H locs 0 0 Qz (F0 m 53 ls []) := by
    intro fp_53 H locs ls hs hy0_53 hy1_53 hI hF hP hS hl
    obtain ⟨v_2, ev_2⟩ : ∃ z : Int32, z = fp_53 36 3 := ⟨_, rfl⟩
    have q_3 : 0 ≤ v_2.toInt ∧ v_2.toInt ≤ 19 := by rw [ev_2]; exact hI 36 3
    have q_4 : (fp_53 36 3).toInt = v_2.toInt := by rw [ev_2]
    obtain ⟨v_5, ev_5⟩ : ∃ z : Int32, z = fp_53 36 4 := ⟨_, rfl⟩
    have q_6 : 0 ≤ v_5.toInt ∧ v_5.toInt ≤ 7 := by rw [ev_5]; exact hI 36 4
    have q_7 : (fp_53 36 4).toInt = v_5.toInt := by rw [ev_5]
    have m_8 : fp_53 36 4 = 7 := (hF 36 4 (by decide)).trans hf_36_4
    refine lv_aload_n hx hb dX3_does_53 rfl (lv_at hl 0 rfl) ?_
    refine lv_dup hx hb dX3_does_54 rfl ?_
    refine sl_gX_36_3_3 (v := v_2) hx hb hts hown hK hP (show fp_53 36 3 = v_2 from ev_2.symm) dX3_does_55 ?_
    refine lv_iconst (v := 1) hx hb dX3_does_58 ic_1 ?_
    refine lv_iadd hx hb dX3_does_59 ?_
    refine lv_topi (fun v_9 ev_9 => ?_)
    have q_10 : v_9.toInt = v_2.toInt + 1 := by rw [ev_9]; first | exact cm_add ti_1 (by omega) (by omega) | (have k1 : (1 : Int32).toInt = 1 := ti_1; exact (bn_addI (by omega) (by omega)).trans (by omega))
    refine sl_pX_36_3_3 (x := v_9) hx hb hts hown hh hA hK hP hS dX3_does_60 (fun f_11 H locs ef_11 hP hS => ?_)
    have hI : sgI loX hiX f_11 := by rw [ef_11]; exact sgI.put hI 36 3 (show 0 ≤ (v_9 : Int32).toInt ∧ (v_9 : Int32).toInt ≤ 19 from ⟨by omega, by omega⟩)
    have hF : sgK WkX3_does_0_0_3_f3_f7 f f_11 := sgK.put hF ef_11 (by rfl)
    refine lv_aload_n hx hb dX3_does_63 rfl (lv_at hl 0 rfl) ?_
    refine lv_iload hx hb dX3_does_64 (lv_at hl 4 rfl) ?_
    refine sg_gets hx hb hZ 2 rfl hS hown (hts _ (List.mem_cons_of_mem _ mw_174)) (fun _ h9 => h9) dX3_does_66 ?_
    refine lv_iload hx hb dX3_does_69 (lv_at hl 3 rfl) ?_
    refine sg_sald hx hb hZ 2 rfl hS (y := 0) (N := 8) (vp_in_iff.mpr (by decide)) dX3_does_71 ?_
    refine W.eq (g2 := F0 m 72 ls [.int (-1), .int 1, .ref (h 36)]) (by rfl) ?_
    refine lv_iload_n hx hb dX3_does_72 rfl (lv_at hl 1 rfl) ?_
    refine lv_iload hx hb dX3_does_73 (lv_at hl 2 rfl) ?_
    refine lv_iconst (v := 1) hx hb dX3_does_75 ic_1 ?_
    refine lv_iadd hx hb dX3_does_76 ?_
    refine W.eq (g2 := F0 m 77 ls [.int 4, .int x2, .int (-1), .int 1, .ref (h 36)]) (by rw [show (3 + 1 : Int32) = 4 from by decide]) ?_
    have c_12 : v_9 = 4 := Int32.toInt_inj.mp (by have k9 : (4 : Int32).toInt = 4 := ti_4; omega)
    have q_13 : (f_11 36 3).toInt = 4 := (congrArg Int32.toInt (show f_11 36 3 = 4 from (Eq.trans (by rw [ef_11, sg_up_s, sgu_s]) c_12))).trans (by decide)
    refine sg_calli (va_runV (As := [.int 1, .int (-1), .int x2, .int 4]) (rest := []) ⟨hx, hb, hml, hown, hts⟩ (kX3_runs_1_m1_4_f4_f7 l D ca za h hh f_11 L Q hI x2 (Eq.trans (by rw [ef_11, sg_up_s, sgu_s]) c_12) (by rw [ef_11, sg_up_s, sgu_n (by decide)]; exact m_8) (by have k0 : (1 : Int32).toInt = 1 := ti_1; have k1 : ((-1) : Int32).toInt = (-1) := ti_m1; have k3 : (4 : Int32).toInt = 4 := ti_4; omega) H.size) (sl_c3_runs_0_0_0_0_3 hts ⟨Nat.le_of_ble_eq_true rfl, Nat.le_of_ble_eq_true rfl⟩) (sl_vX_36 hA hK hP hS hZ) rfl rfl hl.1 rfl (lv_room (Nat.le_of_ble_eq_true rfl)) dX3_does_77 ⟨Nat.le_refl _, Nat.le_refl _⟩) hA hS (fun r_18 f_15 L_16 Q_17 H locs hq hP hS => ?_)
    obtain ⟨⟨ef9, eL9, eQ9⟩, hq, p_19, u_20⟩ := hq
    rw [ef9, eL9, eQ9] at hP; clear ef9 eL9 eQ9
    have k_23 : (1 : Int32).toInt = 1 := by decide
    have k_24 : ((-1) : Int32).toInt = (-1) := by decide
    have k_25 : (4 : Int32).toInt = 4 := by decide
    exact hret _ _ _ _ (r_18) f_11 L Q dX3_does_80 hP hS ⟨⟨hI, hF, rfl, rfl⟩, trivial, ⟨by omega, by omega⟩, (Eq.trans (Eq.symm (hs.trans ((spl_e ev_2 (spl_e ev_5 (spl_e ev_9 (spl_e ef_11 (spl_e u_20 rfl)))))))) hsp)⟩
  refine lv_iload_n hx hb dX3_does_0 rfl (lv_at hl 1 rfl) ?_
  refine lv_iload_n hx hb dX3_does_1 rfl (lv_at hl 2 rfl) ?_
  refine sg_calli (va_runS (As := [.int 0, .int 0]) (rest := []) ⟨hx, hb, hml, hown, hts⟩ (kX3_ownerOf_0_0 l D ca za h hh f L Q hI H.size) (va_cwS 2 hts (gw_S (fun _ h => List.mem_cons_of_mem _ h) mw_189 mw_190 mw_47 mw_188) rfl rfl rfl hd_yX3_ownerOf.2 ⟨Nat.le_of_ble_eq_true rfl, Nat.le_of_ble_eq_true rfl⟩) (sg_preS hA hK hP hS hZ) rfl rfl hl.1 rfl (lv_room (Nat.le_of_ble_eq_true rfl)) dX3_does_2 ⟨Nat.le_refl _, Nat.le_refl _⟩) hA hS (fun r_31 f_28 L_29 Q_30 H locs hq hP hS => ?_)
  obtain ⟨⟨ef9, eL9, eQ9⟩, hq, u_32⟩ := hq
  rw [ef9, eL9, eQ9] at hP; clear ef9 eL9 eQ9
  obtain rfl : r_31 = 0 := Int32.toInt_inj.mp (by have k9 : (0 : Int32).toInt = 0 := ti_0; omega)
  refine lv_istore (lv' := [(5, .int 0), (0, .ref (h 36)), (1, .int 0), (2, .int 0), (3, .int x2), (4, .int 3)]) hx hb dX3_does_5 hl (by decide) rfl (fun ls hl => ?_)
  refine lv_iload hx hb dX3_does_7 (lv_at hl 0 rfl) ?_
  refine lv_if_lt (tgt := 19) hx hb dX3_does_9 (by decide) (fun c => absurd c (by decide)) (fun c => ?_)
  refine lv_iload hx hb dX3_does_12 (lv_at hl 5 rfl) ?_
  refine lv_bipush (v := 40) hx hb dX3_does_14 bp_40 ?_
  refine lv_icmp_le (tgt := 21) hx hb dX3_does_16 (by decide) (fun c => ?_) (fun c => absurd c (by decide))
  refine sg_gets hx hb hZ 3 rfl hS hown (hts _ (List.mem_cons_of_mem _ mw_173)) (fun _ h9 => h9) dX3_does_21 ?_
  refine lv_iload hx hb dX3_does_24 (lv_at hl 0 rfl) ?_
  refine lv_iconst (v := 4) hx hb dX3_does_26 ic_4 ?_
  refine lv_imul hx hb dX3_does_27 ?_
  refine W.eq (g2 := F0 m 28 ls [.int 0, .ref (za 3)]) (by rw [show (0 * 4 : Int32) = 0 from by decide]) ?_
  refine lv_iload_n hx hb dX3_does_28 rfl (lv_at hl 3 rfl) ?_
  refine lv_iadd hx hb dX3_does_29 ?_
  refine W.eq (g2 := F0 m 30 ls [.int 0, .ref (za 3)]) (by rw [show (0 + 0 : Int32) = 0 from by decide]) ?_
  refine sg_sald hx hb hZ 3 rfl hS (y := 0) (N := 32) (vp_in_iff.mpr (by decide)) dX3_does_30 ?_
  refine W.eq (g2 := F0 m 31 ls [.int 1]) (by rfl) ?_
  refine lv_istore (lv' := [(6, .int 1), (5, .int 0), (0, .ref (h 36)), (1, .int 0), (2, .int 0), (3, .int x2), (4, .int 3)]) hx hb dX3_does_31 hl (by decide) rfl (fun ls hl => ?_)
  refine lv_aload_n hx hb dX3_does_33 rfl (lv_at hl 2 rfl) ?_
  refine sl_gX_36_3_3 (v := 3) hx hb hts hown hK hP (show f 36 3 = 3 from hf_36_3) dX3_does_34 ?_
  refine lv_bipush (v := 24) hx hb dX3_does_37 bp_24 ?_
  refine lv_icmp_ge (tgt := 53) hx hb dX3_does_39 (by decide) (fun c => absurd c (by decide)) (fun c => ?_)
  refine lv_aload_n hx hb dX3_does_42 rfl (lv_at hl 2 rfl) ?_
  refine sl_gX_36_1_3 hx hb hts hown hK hP dX3_does_43 ?_
  refine lv_aload_n hx hb dX3_does_46 rfl (lv_at hl 2 rfl) ?_
  refine sl_gX_36_3_3 (v := 3) hx hb hts hown hK hP (show f 36 3 = 3 from hf_36_3) dX3_does_47 ?_
  refine lv_iload hx hb dX3_does_50 (lv_at hl 0 rfl) ?_
  refine sg_iast hx hb hh hA hK hP hS 38 (by decide) 0 (fun _ => rfl) rfl (i := 3) (x := 1) (vp_in_iff.mpr (by decide)) dX3_does_52 (fun f_33 H locs ef_33 hP hS => ?_)
  have ef_33 : f_33 = sg_up f 38 (sgu (f 38) 3 1) := ef_33
  have hI : sgI loX hiX f_33 := by rw [ef_33]; exact sgI.put hI 38 3 (show 0 ≤ (1 : Int32).toInt ∧ (1 : Int32).toInt ≤ 81 from by decide)
  have hF : sgK WkX3_does_0_0_3_f3_f7 f f_33 := sgK.put hF ef_33 (by rfl)
  exact blk_53 f_33 _ _ _ (hs.trans ((spl_e u_32 (spl_e ef_33 rfl)))) (by have zz36_3 : (f_33 36 3).toInt = 3 := (congrArg Int32.toInt (show f_33 36 3 = 3 from (by rw [ef_33, sg_up_n (by decide)]; exact hf_36_3))).trans (by decide); exact ⟨by omega, by omega⟩) (by have zz36_4 : (f_33 36 4).toInt = 7 := (congrArg Int32.toInt (show f_33 36 4 = 7 from (by rw [ef_33, sg_up_n (by decide)]; exact hf_36_4))).trans (by decide); exact ⟨by omega, by omega⟩) hI hF hP hS (lv_sub hl [2, 5, 6, 1, 0] rfl)

abbrev WkX3_runs_20_0_3_f3_f7 : List (Nat × Nat × Option Nat) := [(36, 36, some 3), (38, 38, some 3)]
set_option maxHeartbeats 4000000 in
set_option maxRecDepth 100000 in
theorem kX3_runs_20_0_3_f3_f7 (l : Launch) (D : va_G) (ca : Nat → ClassId) (za h : Nat → Nat) (hh : sgH 52 h) (f : sg_F) (L : sg_L) (Q : sg_Q) (hI : sgI loX hiX f) (x2 : Int32) (hf_36_3 : f 36 3 = 3) (hf_36_4 : f 36 4 = 7) (p0 : 3 ≤ (f 36 3).toInt ∧ (f 36 3).toInt ≤ 3) (sz : Nat) : Met l yX3_runs gwX3_runs { frames := 2, cells := 0, slots := 0, locals := 50 } (sgP D vwCl (tyX ca) 52 h (eX ca h) zcX za f L Q sz [.ref (h 36), .int 20, .int 0, .int x2, .int 3]) (sgQi D vwCl 52 h (eX ca h) sz (fun r f1 L1 Q1 => ((sgI loX hiX f1 ∧ sgK WkX3_runs_20_0_3_f3_f7 f f1 ∧ L1 = L ∧ Q1 = Q) ∧ True ∧ (4 ≤ (f1 36 3).toInt ∧ (f1 36 3).toInt ≤ 4) ∧ (r, f1) = sX3_runs_20_0_3_f3_f7 x2 f L))) 0 0 (sgA 52 h sz) := by
  refine sg_ofWi (cc := cX3_runs) (maxL := 5) RX3 (by decide) rfl rfl (Nat.le_of_ble_eq_true rfl) ?_
  intro p e s m below meth cd Qz ls hx hb hml hown hts hK hZ hP hS hl hret
  have hA := sgY.self (n := 52) (h := h) (sz := s.heap.size)
  have hl : lv_has ls 5 [(0, .ref (h 36)), (1, .int 20), (2, .int 0), (3, .int x2), (4, .int 3)] := hl
  obtain ⟨H, hH⟩ : ∃ z : Heap, z = s.heap := ⟨_, rfl⟩
  obtain ⟨locs, hlo⟩ : ∃ z : List Loc, z = [] := ⟨_, rfl⟩
  have hP : va_P D vwCl (sgw 52 h (eX ca h) f L Q) H := by rw [hH]; exact hP
  have hS : va_S (sgA 52 h s.heap.size) s.heap H locs := by rw [hH, hlo]; exact hS
  suffices hgo : W p l e ({ frames := 2, cells := 0, slots := 0, locals := 50 }) s m ([.ref (h 36), .int 20, .int 0, .int x2, .int 3] : List Value).toArray below meth cd H locs 0 0 Qz (F0 m 0 ls []) by rw [hH, hlo] at hgo; exact hgo
  clear hH hlo
  obtain ⟨sp, hsp⟩ : ∃ z : Int32 × sg_F, z = sX3_runs_20_0_3_f3_f7 x2 f L := ⟨_, rfl⟩
  have hs : sp = sX3_runs_20_0_3_f3_f7 x2 f L := hsp
  have o_1 : (f 36 3).toInt = 3 := (congrArg Int32.toInt (show f 36 3 = 3 from hf_36_3)).trans (by decide)
  have hF : sgK WkX3_runs_20_0_3_f3_f7 f f := sgK.rf
  refine lv_iload_n hx hb dX3_runs_0 rfl (lv_at hl 1 rfl) ?_
  refine lv_lookup (x := 20) (off := 170) (tgt := 171) hx hb dX3_runs_1 (by decide) (by decide) (by decide) ?_
  refine lv_aload_n hx hb dX3_runs_171 rfl (lv_at hl 0 rfl) ?_
  refine lv_iload_n hx hb dX3_runs_172 rfl (lv_at hl 2 rfl) ?_
  refine lv_iconst (v := 0) hx hb dX3_runs_173 ic_0 ?_
  refine lv_iload_n hx hb dX3_runs_174 rfl (lv_at hl 3 rfl) ?_
  refine lv_iload hx hb dX3_runs_175 (lv_at hl 4 rfl) ?_
  have q_2 : (f 36 3).toInt = 3 := (congrArg Int32.toInt (show f 36 3 = 3 from hf_36_3)).trans (by decide)
  refine sg_calli (va_runV (As := [.int 0, .int 0, .int x2, .int 3]) (rest := []) ⟨hx, hb, hml, hown, hts⟩ (kX3_does_0_0_3_f3_f7 l D ca za h hh f L Q hI x2 hf_36_3 hf_36_4 (by have k0 : (0 : Int32).toInt = 0 := ti_0; have k1 : (0 : Int32).toInt = 0 := ti_0; have k3 : (3 : Int32).toInt = 3 := ti_3; omega) H.size) (sl_c3_does_1_0_0_24_3 hts ⟨Nat.le_of_ble_eq_true rfl, Nat.le_of_ble_eq_true rfl⟩) (sl_vX_36 hA hK hP hS hZ) rfl rfl hl.1 rfl (lv_room (Nat.le_of_ble_eq_true rfl)) dX3_runs_177 ⟨Nat.le_refl _, Nat.le_refl _⟩) hA hS (fun r_7 f_4 L_5 Q_6 H locs hq hP hS => ?_)
  obtain ⟨⟨hI, hk_f_4, eL9, eQ9⟩, hq, p_8, u_9⟩ := hq
  rw [eL9, eQ9] at hP; clear eL9 eQ9
  have hF : sgK WkX3_runs_20_0_3_f3_f7 f f_4 := sgK.tr hF hk_f_4 (by decide +kernel)
  obtain ⟨v_10, ev_10⟩ : ∃ z : Int32, z = f_4 36 3 := ⟨_, rfl⟩
  have q_11 : 0 ≤ v_10.toInt ∧ v_10.toInt ≤ 19 := by rw [ev_10]; exact hI 36 3
  have q_12 : (f_4 36 3).toInt = v_10.toInt := (congrArg Int32.toInt (show f_4 36 3 = v_10 from ev_10.symm))
  have k_14 : (0 : Int32).toInt = 0 := by decide
  have k_15 : (0 : Int32).toInt = 0 := by decide
  have k_16 : (3 : Int32).toInt = 3 := by decide
  refine lv_iconst (v := 3) hx hb dX3_runs_180 ic_3 ?_
  refine lv_iadd hx hb dX3_runs_181 ?_
  refine lv_topi (fun v_17 ev_17 => ?_)
  exact hret _ _ _ _ (v_17) f_4 L Q dX3_runs_182 hP hS ⟨⟨hI, hF, rfl, rfl⟩, trivial, ⟨by omega, by omega⟩, (Eq.trans (Eq.symm (hs.trans ((spl2_e u_9 (spl_e ev_10 (spl_e ev_17 rfl)))))) hsp)⟩

abbrev WkX3_does_7_0_2_f2_f7 : List (Nat × Nat × Option Nat) := [(36, 36, some 3), (38, 38, some 2), (38, 38, some 3)]
set_option maxHeartbeats 4000000 in
set_option maxRecDepth 100000 in
theorem kX3_does_7_0_2_f2_f7 (l : Launch) (D : va_G) (ca : Nat → ClassId) (za h : Nat → Nat) (hh : sgH 52 h) (f : sg_F) (L : sg_L) (Q : sg_Q) (hI : sgI loX hiX f) (x2 : Int32) (hf_36_3 : f 36 3 = 2) (hf_36_4 : f 36 4 = 7) (p0 : 2 ≤ (f 36 3).toInt ∧ (f 36 3).toInt ≤ 2) (sz : Nat) : Met l yX3_does gwX3_does { frames := 3, cells := 0, slots := 0, locals := 74 } (sgP D vwCl (tyX ca) 52 h (eX ca h) zcX za f L Q sz [.ref (h 36), .int 7, .int 0, .int x2, .int 2]) (sgQi D vwCl 52 h (eX ca h) sz (fun r f1 L1 Q1 => ((sgI loX hiX f1 ∧ sgK WkX3_does_7_0_2_f2_f7 f f1 ∧ L1 = L ∧ Q1 = Q) ∧ True ∧ (4 ≤ (f1 36 3).toInt ∧ (f1 36 3).toInt ≤ 4) ∧ (r, f1) = sX3_does_7_0_2_f2_f7 x2 f L))) 0 0 (sgA 52 h sz) := by
  refine sg_ofWi (cc := cX3_does) (maxL := 7) RX3 (by decide) rfl rfl (Nat.le_of_ble_eq_true rfl) ?_
  intro p e s m below meth cd Qz ls hx hb hml hown hts hK hZ hP hS hl hret
  have hA := sgY.self (n := 52) (h := h) (sz := s.heap.size)
  have hl : lv_has ls 7 [(0, .ref (h 36)), (1, .int 7), (2, .int 0), (3, .int x2), (4, .int 2)] := hl
  obtain ⟨H, hH⟩ : ∃ z : Heap, z = s.heap := ⟨_, rfl⟩
  obtain ⟨locs, hlo⟩ : ∃ z : List Loc, z = [] := ⟨_, rfl⟩
  have hP : va_P D vwCl (sgw 52 h (eX ca h) f L Q) H := by rw [hH]; exact hP
  have hS : va_S (sgA 52 h s.heap.size) s.heap H locs := by rw [hH, hlo]; exact hS
  suffices hgo : W p l e ({ frames := 3, cells := 0, slots := 0, locals := 74 }) s m ([.ref (h 36), .int 7, .int 0, .int x2, .int 2] : List Value).toArray below meth cd H locs 0 0 Qz (F0 m 0 ls []) by rw [hH, hlo] at hgo; exact hgo
  clear hH hlo
  obtain ⟨sp, hsp⟩ : ∃ z : Int32 × sg_F, z = sX3_does_7_0_2_f2_f7 x2 f L := ⟨_, rfl⟩
  have hs : sp = sX3_does_7_0_2_f2_f7 x2 f L := hsp
  have o_1 : (f 36 3).toInt = 2 := (congrArg Int32.toInt (show f 36 3 = 2 from hf_36_3)).trans (by decide)
  have hF : sgK WkX3_does_7_0_2_f2_f7 f f := sgK.rf
  have blk_53 : ∀ (fp_53 : sg_F) (H : Heap) (locs : List Loc) (ls : Array Slot), sp = sX3_does_7_0_2_f2_f7_b53 x2 fp_53 L → 2 ≤ (fp_53 36 3).toInt ∧ (fp_53 36 3).toInt ≤ 2 → 7 ≤ (fp_53 36 4).toInt ∧ (fp_53 36 4).toInt ≤ 7 → sgI loX hiX fp_53 → sgK WkX3_does_7_0_2_f2_f7 f fp_53 → va_P D vwCl (sgw 52 h (eX ca h) fp_53 L Q) H → va_S (sgA 52 h s.heap.size) s.heap H locs → lv_has ls 7 [(0, .ref (h 36)), (3, .int x2), (4, .int 2), (5, .int 1), (6, .int 20)] → W p l e ({ frames := 3, cells := 0, slots := 0, locals := 74 }) s m ([.ref (h 36), .int 7, .int 0, .int x2, .int 2] : List Value).toArray below meth cd H locs 0 0 Qz (F0 m 53 ls []) := by
    intro fp_53 H locs ls hs hy0_53 hy1_53 hI hF hP hS hl
    obtain ⟨v_2, ev_2⟩ : ∃ z : Int32, z = fp_53 36 3 := ⟨_, rfl⟩
    have q_3 : 0 ≤ v_2.toInt ∧ v_2.toInt ≤ 19 := by rw [ev_2]; exact hI 36 3
    have q_4 : (fp_53 36 3).toInt = v_2.toInt := by rw [ev_2]
    obtain ⟨v_5, ev_5⟩ : ∃ z : Int32, z = fp_53 36 4 := ⟨_, rfl⟩
    have q_6 : 0 ≤ v_5.toInt ∧ v_5.toInt ≤ 7 := by rw [ev_5]; exact hI 36 4
    have q_7 : (fp_53 36 4).toInt = v_5.toInt := by rw [ev_5]
    have m_8 : fp_53 36 4 = 7 := (hF 36 4 (by decide)).trans hf_36_4
    refine lv_aload_n hx hb dX3_does_53 rfl (lv_at hl 0 rfl) ?_
    refine lv_dup hx hb dX3_does_54 rfl ?_
    refine sl_gX_36_3_3 (v := v_2) hx hb hts hown hK hP (show fp_53 36 3 = v_2 from ev_2.symm) dX3_does_55 ?_
    refine lv_iconst (v := 1) hx hb dX3_does_58 ic_1 ?_
    refine lv_iadd hx hb dX3_does_59 ?_
    refine lv_topi (fun v_9 ev_9 => ?_)
    have q_10 : v_9.toInt = v_2.toInt + 1 := by rw [ev_9]; first | exact cm_add ti_1 (by omega) (by omega) | (have k1 : (1 : Int32).toInt = 1 := ti_1; exact (bn_addI (by omega) (by omega)).trans (by omega))
    refine sl_pX_36_3_3 (x := v_9) hx hb hts hown hh hA hK hP hS dX3_does_60 (fun f_11 H locs ef_11 hP hS => ?_)
    have hI : sgI loX hiX f_11 := by rw [ef_11]; exact sgI.put hI 36 3 (show 0 ≤ (v_9 : Int32).toInt ∧ (v_9 : Int32).toInt ≤ 19 from ⟨by omega, by omega⟩)
    have hF : sgK WkX3_does_7_0_2_f2_f7 f f_11 := sgK.put hF ef_11 (by rfl)
    refine lv_aload_n hx hb dX3_does_63 rfl (lv_at hl 0 rfl) ?_
    refine lv_iload hx hb dX3_does_64 (lv_at hl 4 rfl) ?_
    refine sg_gets hx hb hZ 2 rfl hS hown (hts _ (List.mem_cons_of_mem _ mw_174)) (fun _ h9 => h9) dX3_does_66 ?_
    refine lv_iload hx hb dX3_does_69 (lv_at hl 3 rfl) ?_
    refine sg_sald hx hb hZ 2 rfl hS (y := 1) (N := 8) (vp_in_iff.mpr (by decide)) dX3_does_71 ?_
    refine W.eq (g2 := F0 m 72 ls [.int 0, .int 20, .ref (h 36)]) (by rfl) ?_
    refine lv_iload_n hx hb dX3_does_72 rfl (lv_at hl 1 rfl) ?_
    refine lv_iload hx hb dX3_does_73 (lv_at hl 2 rfl) ?_
    refine lv_iconst (v := 1) hx hb dX3_does_75 ic_1 ?_
    refine lv_iadd hx hb dX3_does_76 ?_
    refine W.eq (g2 := F0 m 77 ls [.int 3, .int x2, .int 0, .int 20, .ref (h 36)]) (by rw [show (2 + 1 : Int32) = 3 from by decide]) ?_
    have c_12 : v_9 = 3 := Int32.toInt_inj.mp (by have k9 : (3 : Int32).toInt = 3 := ti_3; omega)
    have q_13 : (f_11 36 3).toInt = 3 := (congrArg Int32.toInt (show f_11 36 3 = 3 from (Eq.trans (by rw [ef_11, sg_up_s, sgu_s]) c_12))).trans (by decide)
    refine sg_calli (va_runV (As := [.int 20, .int 0, .int x2, .int 3]) (rest := []) ⟨hx, hb, hml, hown, hts⟩ (kX3_runs_20_0_3_f3_f7 l D ca za h hh f_11 L Q hI x2 (Eq.trans (by rw [ef_11, sg_up_s, sgu_s]) c_12) (by rw [ef_11, sg_up_s, sgu_n (by decide)]; exact m_8) (by have k0 : (20 : Int32).toInt = 20 := ti_20; have k1 : (0 : Int32).toInt = 0 := ti_0; have k3 : (3 : Int32).toInt = 3 := ti_3; omega) H.size) (sl_c3_runs_2_0_0_50_3 hts ⟨Nat.le_of_ble_eq_true rfl, Nat.le_of_ble_eq_true rfl⟩) (sl_vX_36 hA hK hP hS hZ) rfl rfl hl.1 rfl (lv_room (Nat.le_of_ble_eq_true rfl)) dX3_does_77 ⟨Nat.le_refl _, Nat.le_refl _⟩) hA hS (fun r_18 f_15 L_16 Q_17 H locs hq hP hS => ?_)
    obtain ⟨⟨hI, hk_f_15, eL9, eQ9⟩, hq, p_19, u_20⟩ := hq
    rw [eL9, eQ9] at hP; clear eL9 eQ9
    have hF : sgK WkX3_does_7_0_2_f2_f7 f f_15 := sgK.tr hF hk_f_15 (by decide +kernel)
    obtain ⟨v_21, ev_21⟩ : ∃ z : Int32, z = f_15 36 3 := ⟨_, rfl⟩
    have q_22 : 0 ≤ v_21.toInt ∧ v_21.toInt ≤ 19 := by rw [ev_21]; exact hI 36 3
    have q_23 : (f_15 36 3).toInt = v_21.toInt := (congrArg Int32.toInt (show f_15 36 3 = v_21 from ev_21.symm))
    have k_25 : (20 : Int32).toInt = 20 := by decide
    have k_26 : (0 : Int32).toInt = 0 := by decide
    have k_27 : (3 : Int32).toInt = 3 := by decide
    exact hret _ _ _ _ (r_18) f_15 L Q dX3_does_80 hP hS ⟨⟨hI, hF, rfl, rfl⟩, trivial, ⟨by omega, by omega⟩, (Eq.trans (Eq.symm (hs.trans ((spl_e ev_2 (spl_e ev_5 (spl_e ev_9 (spl_e ef_11 (spl2_e u_20 (spl_e ev_21 rfl))))))))) hsp)⟩
  refine lv_iload_n hx hb dX3_does_0 rfl (lv_at hl 1 rfl) ?_
  refine lv_iload_n hx hb dX3_does_1 rfl (lv_at hl 2 rfl) ?_
  refine sg_calli (va_runS (As := [.int 7, .int 0]) (rest := []) ⟨hx, hb, hml, hown, hts⟩ (kX3_ownerOf_7_0 l D ca za h hh f L Q hI H.size) (va_cwS 2 hts (gw_S (fun _ h => List.mem_cons_of_mem _ h) mw_189 mw_190 mw_47 mw_188) rfl rfl rfl hd_yX3_ownerOf.2 ⟨Nat.le_of_ble_eq_true rfl, Nat.le_of_ble_eq_true rfl⟩) (sg_preS hA hK hP hS hZ) rfl rfl hl.1 rfl (lv_room (Nat.le_of_ble_eq_true rfl)) dX3_does_2 ⟨Nat.le_refl _, Nat.le_refl _⟩) hA hS (fun r_33 f_30 L_31 Q_32 H locs hq hP hS => ?_)
  obtain ⟨⟨ef9, eL9, eQ9⟩, hq, u_34⟩ := hq
  rw [ef9, eL9, eQ9] at hP; clear ef9 eL9 eQ9
  obtain rfl : r_33 = 1 := Int32.toInt_inj.mp (by have k9 : (1 : Int32).toInt = 1 := ti_1; omega)
  refine lv_istore (lv' := [(5, .int 1), (0, .ref (h 36)), (1, .int 7), (2, .int 0), (3, .int x2), (4, .int 2)]) hx hb dX3_does_5 hl (by decide) rfl (fun ls hl => ?_)
  refine lv_iload hx hb dX3_does_7 (lv_at hl 0 rfl) ?_
  refine lv_if_lt (tgt := 19) hx hb dX3_does_9 (by decide) (fun c => absurd c (by decide)) (fun c => ?_)
  refine lv_iload hx hb dX3_does_12 (lv_at hl 5 rfl) ?_
  refine lv_bipush (v := 40) hx hb dX3_does_14 bp_40 ?_
  refine lv_icmp_le (tgt := 21) hx hb dX3_does_16 (by decide) (fun c => ?_) (fun c => absurd c (by decide))
  refine sg_gets hx hb hZ 3 rfl hS hown (hts _ (List.mem_cons_of_mem _ mw_173)) (fun _ h9 => h9) dX3_does_21 ?_
  refine lv_iload hx hb dX3_does_24 (lv_at hl 0 rfl) ?_
  refine lv_iconst (v := 4) hx hb dX3_does_26 ic_4 ?_
  refine lv_imul hx hb dX3_does_27 ?_
  refine W.eq (g2 := F0 m 28 ls [.int 4, .ref (za 3)]) (by rw [show (1 * 4 : Int32) = 4 from by decide]) ?_
  refine lv_iload_n hx hb dX3_does_28 rfl (lv_at hl 3 rfl) ?_
  refine lv_iadd hx hb dX3_does_29 ?_
  refine W.eq (g2 := F0 m 30 ls [.int 4, .ref (za 3)]) (by rw [show (4 + 0 : Int32) = 4 from by decide]) ?_
  refine sg_sald hx hb hZ 3 rfl hS (y := 4) (N := 32) (vp_in_iff.mpr (by decide)) dX3_does_30 ?_
  refine W.eq (g2 := F0 m 31 ls [.int 20]) (by rfl) ?_
  refine lv_istore (lv' := [(6, .int 20), (5, .int 1), (0, .ref (h 36)), (1, .int 7), (2, .int 0), (3, .int x2), (4, .int 2)]) hx hb dX3_does_31 hl (by decide) rfl (fun ls hl => ?_)
  refine lv_aload_n hx hb dX3_does_33 rfl (lv_at hl 2 rfl) ?_
  refine sl_gX_36_3_3 (v := 2) hx hb hts hown hK hP (show f 36 3 = 2 from hf_36_3) dX3_does_34 ?_
  refine lv_bipush (v := 24) hx hb dX3_does_37 bp_24 ?_
  refine lv_icmp_ge (tgt := 53) hx hb dX3_does_39 (by decide) (fun c => absurd c (by decide)) (fun c => ?_)
  refine lv_aload_n hx hb dX3_does_42 rfl (lv_at hl 2 rfl) ?_
  refine sl_gX_36_1_3 hx hb hts hown hK hP dX3_does_43 ?_
  refine lv_aload_n hx hb dX3_does_46 rfl (lv_at hl 2 rfl) ?_
  refine sl_gX_36_3_3 (v := 2) hx hb hts hown hK hP (show f 36 3 = 2 from hf_36_3) dX3_does_47 ?_
  refine lv_iload hx hb dX3_does_50 (lv_at hl 0 rfl) ?_
  refine sg_iast hx hb hh hA hK hP hS 38 (by decide) 0 (fun _ => rfl) rfl (i := 2) (x := 20) (vp_in_iff.mpr (by decide)) dX3_does_52 (fun f_35 H locs ef_35 hP hS => ?_)
  have ef_35 : f_35 = sg_up f 38 (sgu (f 38) 2 20) := ef_35
  have hI : sgI loX hiX f_35 := by rw [ef_35]; exact sgI.put hI 38 2 (show 0 ≤ (20 : Int32).toInt ∧ (20 : Int32).toInt ≤ 81 from by decide)
  have hF : sgK WkX3_does_7_0_2_f2_f7 f f_35 := sgK.put hF ef_35 (by rfl)
  exact blk_53 f_35 _ _ _ (hs.trans ((spl_e u_34 (spl_e ef_35 rfl)))) (by have zz36_3 : (f_35 36 3).toInt = 2 := (congrArg Int32.toInt (show f_35 36 3 = 2 from (by rw [ef_35, sg_up_n (by decide)]; exact hf_36_3))).trans (by decide); exact ⟨by omega, by omega⟩) (by have zz36_4 : (f_35 36 4).toInt = 7 := (congrArg Int32.toInt (show f_35 36 4 = 7 from (by rw [ef_35, sg_up_n (by decide)]; exact hf_36_4))).trans (by decide); exact ⟨by omega, by omega⟩) hI hF hP hS (lv_sub hl [2, 5, 6, 1, 0] rfl)

abbrev WkX3_runs_10_m1_2_f2_f7 : List (Nat × Nat × Option Nat) := [(36, 36, some 3), (38, 38, some 2), (38, 38, some 3)]
set_option maxHeartbeats 4000000 in
set_option maxRecDepth 100000 in
theorem kX3_runs_10_m1_2_f2_f7 (l : Launch) (D : va_G) (ca : Nat → ClassId) (za h : Nat → Nat) (hh : sgH 52 h) (f : sg_F) (L : sg_L) (Q : sg_Q) (hI : sgI loX hiX f) (x2 : Int32) (hf_36_3 : f 36 3 = 2) (hf_36_4 : f 36 4 = 7) (p0 : 2 ≤ (f 36 3).toInt ∧ (f 36 3).toInt ≤ 2) (sz : Nat) : Met l yX3_runs gwX3_runs { frames := 4, cells := 0, slots := 0, locals := 100 } (sgP D vwCl (tyX ca) 52 h (eX ca h) zcX za f L Q sz [.ref (h 36), .int 10, .int (-1), .int x2, .int 2]) (sgQi D vwCl 52 h (eX ca h) sz (fun r f1 L1 Q1 => ((sgI loX hiX f1 ∧ sgK WkX3_runs_10_m1_2_f2_f7 f f1 ∧ L1 = L ∧ Q1 = Q) ∧ True ∧ (4 ≤ (f1 36 3).toInt ∧ (f1 36 3).toInt ≤ 4) ∧ (r, f1) = sX3_runs_10_m1_2_f2_f7 x2 f L))) 0 0 (sgA 52 h sz) := by
  refine sg_ofWi (cc := cX3_runs) (maxL := 5) RX3 (by decide) rfl rfl (Nat.le_of_ble_eq_true rfl) ?_
  intro p e s m below meth cd Qz ls hx hb hml hown hts hK hZ hP hS hl hret
  have hA := sgY.self (n := 52) (h := h) (sz := s.heap.size)
  have hl : lv_has ls 5 [(0, .ref (h 36)), (1, .int 10), (2, .int (-1)), (3, .int x2), (4, .int 2)] := hl
  obtain ⟨H, hH⟩ : ∃ z : Heap, z = s.heap := ⟨_, rfl⟩
  obtain ⟨locs, hlo⟩ : ∃ z : List Loc, z = [] := ⟨_, rfl⟩
  have hP : va_P D vwCl (sgw 52 h (eX ca h) f L Q) H := by rw [hH]; exact hP
  have hS : va_S (sgA 52 h s.heap.size) s.heap H locs := by rw [hH, hlo]; exact hS
  suffices hgo : W p l e ({ frames := 4, cells := 0, slots := 0, locals := 100 }) s m ([.ref (h 36), .int 10, .int (-1), .int x2, .int 2] : List Value).toArray below meth cd H locs 0 0 Qz (F0 m 0 ls []) by rw [hH, hlo] at hgo; exact hgo
  clear hH hlo
  obtain ⟨sp, hsp⟩ : ∃ z : Int32 × sg_F, z = sX3_runs_10_m1_2_f2_f7 x2 f L := ⟨_, rfl⟩
  have hs : sp = sX3_runs_10_m1_2_f2_f7 x2 f L := hsp
  have o_1 : (f 36 3).toInt = 2 := (congrArg Int32.toInt (show f 36 3 = 2 from hf_36_3)).trans (by decide)
  have hF : sgK WkX3_runs_10_m1_2_f2_f7 f f := sgK.rf
  refine lv_iload_n hx hb dX3_runs_0 rfl (lv_at hl 1 rfl) ?_
  refine lv_lookup (x := 10) (off := 148) (tgt := 149) hx hb dX3_runs_1 (by decide) (by decide) (by decide) ?_
  refine lv_aload_n hx hb dX3_runs_149 rfl (lv_at hl 0 rfl) ?_
  refine lv_aload_n hx hb dX3_runs_150 rfl (lv_at hl 0 rfl) ?_
  refine sl_gX_36_4_3 (v := 7) hx hb hts hown hK hP (show f 36 4 = 7 from hf_36_4) dX3_runs_151 ?_
  refine lv_iconst (v := 0) hx hb dX3_runs_154 ic_0 ?_
  refine lv_iload_n hx hb dX3_runs_155 rfl (lv_at hl 3 rfl) ?_
  refine lv_iload hx hb dX3_runs_156 (lv_at hl 4 rfl) ?_
  have q_2 : (f 36 3).toInt = 2 := (congrArg Int32.toInt (show f 36 3 = 2 from hf_36_3)).trans (by decide)
  refine sg_calli (va_runV (As := [.int 7, .int 0, .int x2, .int 2]) (rest := []) ⟨hx, hb, hml, hown, hts⟩ (kX3_does_7_0_2_f2_f7 l D ca za h hh f L Q hI x2 hf_36_3 hf_36_4 (by have k0 : (7 : Int32).toInt = 7 := ti_7; have k1 : (0 : Int32).toInt = 0 := ti_0; have k3 : (2 : Int32).toInt = 2 := ti_2; omega) H.size) (sl_c3_does_3_0_0_74_3 hts ⟨Nat.le_of_ble_eq_true rfl, Nat.le_of_ble_eq_true rfl⟩) (sl_vX_36 hA hK hP hS hZ) rfl rfl hl.1 rfl (lv_room (Nat.le_of_ble_eq_true rfl)) dX3_runs_158 ⟨Nat.le_refl _, Nat.le_refl _⟩) hA hS (fun r_7 f_4 L_5 Q_6 H locs hq hP hS => ?_)
  obtain ⟨⟨hI, hk_f_4, eL9, eQ9⟩, hq, p_8, u_9⟩ := hq
  rw [eL9, eQ9] at hP; clear eL9 eQ9
  have hF : sgK WkX3_runs_10_m1_2_f2_f7 f f_4 := sgK.tr hF hk_f_4 (by decide +kernel)
  obtain ⟨v_10, ev_10⟩ : ∃ z : Int32, z = f_4 36 3 := ⟨_, rfl⟩
  have q_11 : 0 ≤ v_10.toInt ∧ v_10.toInt ≤ 19 := by rw [ev_10]; exact hI 36 3
  have q_12 : (f_4 36 3).toInt = v_10.toInt := (congrArg Int32.toInt (show f_4 36 3 = v_10 from ev_10.symm))
  have k_14 : (7 : Int32).toInt = 7 := by decide
  have k_15 : (0 : Int32).toInt = 0 := by decide
  have k_16 : (2 : Int32).toInt = 2 := by decide
  refine lv_iconst (v := 2) hx hb dX3_runs_161 ic_2 ?_
  refine lv_imul hx hb dX3_runs_162 ?_
  refine lv_topi (fun v_17 ev_17 => ?_)
  exact hret _ _ _ _ (v_17) f_4 L Q dX3_runs_163 hP hS ⟨⟨hI, hF, rfl, rfl⟩, trivial, ⟨by omega, by omega⟩, (Eq.trans (Eq.symm (hs.trans ((spl2_e u_9 (spl_e ev_10 (spl_e ev_17 rfl)))))) hsp)⟩

abbrev WkX3_does_4_1_1_f1_f7 : List (Nat × Nat × Option Nat) := [(36, 36, some 3), (38, 38, some 1), (38, 38, some 2), (38, 38, some 3)]
set_option maxHeartbeats 4000000 in
set_option maxRecDepth 100000 in
theorem kX3_does_4_1_1_f1_f7 (l : Launch) (D : va_G) (ca : Nat → ClassId) (za h : Nat → Nat) (hh : sgH 52 h) (f : sg_F) (L : sg_L) (Q : sg_Q) (hI : sgI loX hiX f) (x2 : Int32) (hf_36_3 : f 36 3 = 1) (hf_36_4 : f 36 4 = 7) (p0 : 1 ≤ (f 36 3).toInt ∧ (f 36 3).toInt ≤ 1) (sz : Nat) : Met l yX3_does gwX3_does { frames := 5, cells := 0, slots := 0, locals := 124 } (sgP D vwCl (tyX ca) 52 h (eX ca h) zcX za f L Q sz [.ref (h 36), .int 4, .int 1, .int x2, .int 1]) (sgQi D vwCl 52 h (eX ca h) sz (fun r f1 L1 Q1 => ((sgI loX hiX f1 ∧ sgK WkX3_does_4_1_1_f1_f7 f f1 ∧ L1 = L ∧ Q1 = Q) ∧ True ∧ (4 ≤ (f1 36 3).toInt ∧ (f1 36 3).toInt ≤ 4) ∧ (r, f1) = sX3_does_4_1_1_f1_f7 x2 f L))) 0 0 (sgA 52 h sz) := by
  refine sg_ofWi (cc := cX3_does) (maxL := 7) RX3 (by decide) rfl rfl (Nat.le_of_ble_eq_true rfl) ?_
  intro p e s m below meth cd Qz ls hx hb hml hown hts hK hZ hP hS hl hret
  have hA := sgY.self (n := 52) (h := h) (sz := s.heap.size)
  have hl : lv_has ls 7 [(0, .ref (h 36)), (1, .int 4), (2, .int 1), (3, .int x2), (4, .int 1)] := hl
  obtain ⟨H, hH⟩ : ∃ z : Heap, z = s.heap := ⟨_, rfl⟩
  obtain ⟨locs, hlo⟩ : ∃ z : List Loc, z = [] := ⟨_, rfl⟩
  have hP : va_P D vwCl (sgw 52 h (eX ca h) f L Q) H := by rw [hH]; exact hP
  have hS : va_S (sgA 52 h s.heap.size) s.heap H locs := by rw [hH, hlo]; exact hS
  suffices hgo : W p l e ({ frames := 5, cells := 0, slots := 0, locals := 124 }) s m ([.ref (h 36), .int 4, .int 1, .int x2, .int 1] : List Value).toArray below meth cd H locs 0 0 Qz (F0 m 0 ls []) by rw [hH, hlo] at hgo; exact hgo
  clear hH hlo
  obtain ⟨sp, hsp⟩ : ∃ z : Int32 × sg_F, z = sX3_does_4_1_1_f1_f7 x2 f L := ⟨_, rfl⟩
  have hs : sp = sX3_does_4_1_1_f1_f7 x2 f L := hsp
  have o_1 : (f 36 3).toInt = 1 := (congrArg Int32.toInt (show f 36 3 = 1 from hf_36_3)).trans (by decide)
  have hF : sgK WkX3_does_4_1_1_f1_f7 f f := sgK.rf
  have blk_53 : ∀ (fp_53 : sg_F) (H : Heap) (locs : List Loc) (ls : Array Slot), sp = sX3_does_4_1_1_f1_f7_b53 x2 fp_53 L → 1 ≤ (fp_53 36 3).toInt ∧ (fp_53 36 3).toInt ≤ 1 → 7 ≤ (fp_53 36 4).toInt ∧ (fp_53 36 4).toInt ≤ 7 → sgI loX hiX fp_53 → sgK WkX3_does_4_1_1_f1_f7 f fp_53 → va_P D vwCl (sgw 52 h (eX ca h) fp_53 L Q) H → va_S (sgA 52 h s.heap.size) s.heap H locs → lv_has ls 7 [(0, .ref (h 36)), (3, .int x2), (4, .int 1), (5, .int 0), (6, .int 10)] → W p l e ({ frames := 5, cells := 0, slots := 0, locals := 124 }) s m ([.ref (h 36), .int 4, .int 1, .int x2, .int 1] : List Value).toArray below meth cd H locs 0 0 Qz (F0 m 53 ls []) := by
    intro fp_53 H locs ls hs hy0_53 hy1_53 hI hF hP hS hl
    obtain ⟨v_2, ev_2⟩ : ∃ z : Int32, z = fp_53 36 3 := ⟨_, rfl⟩
    have q_3 : 0 ≤ v_2.toInt ∧ v_2.toInt ≤ 19 := by rw [ev_2]; exact hI 36 3
    have q_4 : (fp_53 36 3).toInt = v_2.toInt := by rw [ev_2]
    obtain ⟨v_5, ev_5⟩ : ∃ z : Int32, z = fp_53 36 4 := ⟨_, rfl⟩
    have q_6 : 0 ≤ v_5.toInt ∧ v_5.toInt ≤ 7 := by rw [ev_5]; exact hI 36 4
    have q_7 : (fp_53 36 4).toInt = v_5.toInt := by rw [ev_5]
    have m_8 : fp_53 36 4 = 7 := (hF 36 4 (by decide)).trans hf_36_4
    refine lv_aload_n hx hb dX3_does_53 rfl (lv_at hl 0 rfl) ?_
    refine lv_dup hx hb dX3_does_54 rfl ?_
    refine sl_gX_36_3_3 (v := v_2) hx hb hts hown hK hP (show fp_53 36 3 = v_2 from ev_2.symm) dX3_does_55 ?_
    refine lv_iconst (v := 1) hx hb dX3_does_58 ic_1 ?_
    refine lv_iadd hx hb dX3_does_59 ?_
    refine lv_topi (fun v_9 ev_9 => ?_)
    have q_10 : v_9.toInt = v_2.toInt + 1 := by rw [ev_9]; first | exact cm_add ti_1 (by omega) (by omega) | (have k1 : (1 : Int32).toInt = 1 := ti_1; exact (bn_addI (by omega) (by omega)).trans (by omega))
    refine sl_pX_36_3_3 (x := v_9) hx hb hts hown hh hA hK hP hS dX3_does_60 (fun f_11 H locs ef_11 hP hS => ?_)
    have hI : sgI loX hiX f_11 := by rw [ef_11]; exact sgI.put hI 36 3 (show 0 ≤ (v_9 : Int32).toInt ∧ (v_9 : Int32).toInt ≤ 19 from ⟨by omega, by omega⟩)
    have hF : sgK WkX3_does_4_1_1_f1_f7 f f_11 := sgK.put hF ef_11 (by rfl)
    refine lv_aload_n hx hb dX3_does_63 rfl (lv_at hl 0 rfl) ?_
    refine lv_iload hx hb dX3_does_64 (lv_at hl 4 rfl) ?_
    refine sg_gets hx hb hZ 2 rfl hS hown (hts _ (List.mem_cons_of_mem _ mw_174)) (fun _ h9 => h9) dX3_does_66 ?_
    refine lv_iload hx hb dX3_does_69 (lv_at hl 3 rfl) ?_
    refine sg_sald hx hb hZ 2 rfl hS (y := 0) (N := 8) (vp_in_iff.mpr (by decide)) dX3_does_71 ?_
    refine W.eq (g2 := F0 m 72 ls [.int (-1), .int 10, .ref (h 36)]) (by rfl) ?_
    refine lv_iload_n hx hb dX3_does_72 rfl (lv_at hl 1 rfl) ?_
    refine lv_iload hx hb dX3_does_73 (lv_at hl 2 rfl) ?_
    refine lv_iconst (v := 1) hx hb dX3_does_75 ic_1 ?_
    refine lv_iadd hx hb dX3_does_76 ?_
    refine W.eq (g2 := F0 m 77 ls [.int 2, .int x2, .int (-1), .int 10, .ref (h 36)]) (by rw [show (1 + 1 : Int32) = 2 from by decide]) ?_
    have c_12 : v_9 = 2 := Int32.toInt_inj.mp (by have k9 : (2 : Int32).toInt = 2 := ti_2; omega)
    have q_13 : (f_11 36 3).toInt = 2 := (congrArg Int32.toInt (show f_11 36 3 = 2 from (Eq.trans (by rw [ef_11, sg_up_s, sgu_s]) c_12))).trans (by decide)
    refine sg_calli (va_runV (As := [.int 10, .int (-1), .int x2, .int 2]) (rest := []) ⟨hx, hb, hml, hown, hts⟩ (kX3_runs_10_m1_2_f2_f7 l D ca za h hh f_11 L Q hI x2 (Eq.trans (by rw [ef_11, sg_up_s, sgu_s]) c_12) (by rw [ef_11, sg_up_s, sgu_n (by decide)]; exact m_8) (by have k0 : (10 : Int32).toInt = 10 := ti_10; have k1 : ((-1) : Int32).toInt = (-1) := ti_m1; have k3 : (2 : Int32).toInt = 2 := ti_2; omega) H.size) (sl_c3_runs_4_0_0_100_3 hts ⟨Nat.le_of_ble_eq_true rfl, Nat.le_of_ble_eq_true rfl⟩) (sl_vX_36 hA hK hP hS hZ) rfl rfl hl.1 rfl (lv_room (Nat.le_of_ble_eq_true rfl)) dX3_does_77 ⟨Nat.le_refl _, Nat.le_refl _⟩) hA hS (fun r_18 f_15 L_16 Q_17 H locs hq hP hS => ?_)
    obtain ⟨⟨hI, hk_f_15, eL9, eQ9⟩, hq, p_19, u_20⟩ := hq
    rw [eL9, eQ9] at hP; clear eL9 eQ9
    have hF : sgK WkX3_does_4_1_1_f1_f7 f f_15 := sgK.tr hF hk_f_15 (by decide +kernel)
    obtain ⟨v_21, ev_21⟩ : ∃ z : Int32, z = f_15 36 3 := ⟨_, rfl⟩
    have q_22 : 0 ≤ v_21.toInt ∧ v_21.toInt ≤ 19 := by rw [ev_21]; exact hI 36 3
    have q_23 : (f_15 36 3).toInt = v_21.toInt := (congrArg Int32.toInt (show f_15 36 3 = v_21 from ev_21.symm))
    have k_25 : (10 : Int32).toInt = 10 := by decide
    have k_26 : ((-1) : Int32).toInt = (-1) := by decide
    have k_27 : (2 : Int32).toInt = 2 := by decide
    exact hret _ _ _ _ (r_18) f_15 L Q dX3_does_80 hP hS ⟨⟨hI, hF, rfl, rfl⟩, trivial, ⟨by omega, by omega⟩, (Eq.trans (Eq.symm (hs.trans ((spl_e ev_2 (spl_e ev_5 (spl_e ev_9 (spl_e ef_11 (spl2_e u_20 (spl_e ev_21 rfl))))))))) hsp)⟩
  refine lv_iload_n hx hb dX3_does_0 rfl (lv_at hl 1 rfl) ?_
  refine lv_iload_n hx hb dX3_does_1 rfl (lv_at hl 2 rfl) ?_
  refine sg_calli (va_runS (As := [.int 4, .int 1]) (rest := []) ⟨hx, hb, hml, hown, hts⟩ (kX3_ownerOf_4_1 l D ca za h hh f L Q hI H.size) (va_cwS 2 hts (gw_S (fun _ h => List.mem_cons_of_mem _ h) mw_189 mw_190 mw_47 mw_188) rfl rfl rfl hd_yX3_ownerOf.2 ⟨Nat.le_of_ble_eq_true rfl, Nat.le_of_ble_eq_true rfl⟩) (sg_preS hA hK hP hS hZ) rfl rfl hl.1 rfl (lv_room (Nat.le_of_ble_eq_true rfl)) dX3_does_2 ⟨Nat.le_refl _, Nat.le_refl _⟩) hA hS (fun r_33 f_30 L_31 Q_32 H locs hq hP hS => ?_)
  obtain ⟨⟨ef9, eL9, eQ9⟩, hq, u_34⟩ := hq
  rw [ef9, eL9, eQ9] at hP; clear ef9 eL9 eQ9
  obtain rfl : r_33 = 0 := Int32.toInt_inj.mp (by have k9 : (0 : Int32).toInt = 0 := ti_0; omega)
  refine lv_istore (lv' := [(5, .int 0), (0, .ref (h 36)), (1, .int 4), (2, .int 1), (3, .int x2), (4, .int 1)]) hx hb dX3_does_5 hl (by decide) rfl (fun ls hl => ?_)
  refine lv_iload hx hb dX3_does_7 (lv_at hl 0 rfl) ?_
  refine lv_if_lt (tgt := 19) hx hb dX3_does_9 (by decide) (fun c => absurd c (by decide)) (fun c => ?_)
  refine lv_iload hx hb dX3_does_12 (lv_at hl 5 rfl) ?_
  refine lv_bipush (v := 40) hx hb dX3_does_14 bp_40 ?_
  refine lv_icmp_le (tgt := 21) hx hb dX3_does_16 (by decide) (fun c => ?_) (fun c => absurd c (by decide))
  refine sg_gets hx hb hZ 3 rfl hS hown (hts _ (List.mem_cons_of_mem _ mw_173)) (fun _ h9 => h9) dX3_does_21 ?_
  refine lv_iload hx hb dX3_does_24 (lv_at hl 0 rfl) ?_
  refine lv_iconst (v := 4) hx hb dX3_does_26 ic_4 ?_
  refine lv_imul hx hb dX3_does_27 ?_
  refine W.eq (g2 := F0 m 28 ls [.int 0, .ref (za 3)]) (by rw [show (0 * 4 : Int32) = 0 from by decide]) ?_
  refine lv_iload_n hx hb dX3_does_28 rfl (lv_at hl 3 rfl) ?_
  refine lv_iadd hx hb dX3_does_29 ?_
  refine W.eq (g2 := F0 m 30 ls [.int 1, .ref (za 3)]) (by rw [show (0 + 1 : Int32) = 1 from by decide]) ?_
  refine sg_sald hx hb hZ 3 rfl hS (y := 1) (N := 32) (vp_in_iff.mpr (by decide)) dX3_does_30 ?_
  refine W.eq (g2 := F0 m 31 ls [.int 10]) (by rfl) ?_
  refine lv_istore (lv' := [(6, .int 10), (5, .int 0), (0, .ref (h 36)), (1, .int 4), (2, .int 1), (3, .int x2), (4, .int 1)]) hx hb dX3_does_31 hl (by decide) rfl (fun ls hl => ?_)
  refine lv_aload_n hx hb dX3_does_33 rfl (lv_at hl 2 rfl) ?_
  refine sl_gX_36_3_3 (v := 1) hx hb hts hown hK hP (show f 36 3 = 1 from hf_36_3) dX3_does_34 ?_
  refine lv_bipush (v := 24) hx hb dX3_does_37 bp_24 ?_
  refine lv_icmp_ge (tgt := 53) hx hb dX3_does_39 (by decide) (fun c => absurd c (by decide)) (fun c => ?_)
  refine lv_aload_n hx hb dX3_does_42 rfl (lv_at hl 2 rfl) ?_
  refine sl_gX_36_1_3 hx hb hts hown hK hP dX3_does_43 ?_
  refine lv_aload_n hx hb dX3_does_46 rfl (lv_at hl 2 rfl) ?_
  refine sl_gX_36_3_3 (v := 1) hx hb hts hown hK hP (show f 36 3 = 1 from hf_36_3) dX3_does_47 ?_
  refine lv_iload hx hb dX3_does_50 (lv_at hl 0 rfl) ?_
  refine sg_iast hx hb hh hA hK hP hS 38 (by decide) 0 (fun _ => rfl) rfl (i := 1) (x := 10) (vp_in_iff.mpr (by decide)) dX3_does_52 (fun f_35 H locs ef_35 hP hS => ?_)
  have ef_35 : f_35 = sg_up f 38 (sgu (f 38) 1 10) := ef_35
  have hI : sgI loX hiX f_35 := by rw [ef_35]; exact sgI.put hI 38 1 (show 0 ≤ (10 : Int32).toInt ∧ (10 : Int32).toInt ≤ 81 from by decide)
  have hF : sgK WkX3_does_4_1_1_f1_f7 f f_35 := sgK.put hF ef_35 (by rfl)
  exact blk_53 f_35 _ _ _ (hs.trans ((spl_e u_34 (spl_e ef_35 rfl)))) (by have zz36_3 : (f_35 36 3).toInt = 1 := (congrArg Int32.toInt (show f_35 36 3 = 1 from (by rw [ef_35, sg_up_n (by decide)]; exact hf_36_3))).trans (by decide); exact ⟨by omega, by omega⟩) (by have zz36_4 : (f_35 36 4).toInt = 7 := (congrArg Int32.toInt (show f_35 36 4 = 7 from (by rw [ef_35, sg_up_n (by decide)]; exact hf_36_4))).trans (by decide); exact ⟨by omega, by omega⟩) hI hF hP hS (lv_sub hl [2, 5, 6, 1, 0] rfl)
